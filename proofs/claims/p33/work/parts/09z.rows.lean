/-! ===== the rows of the code, checked one by one ===== -/
set_option maxRecDepth 100000 in
theorem rk_0 : code_0.all (rowOk 0) = true := by decide +kernel
set_option maxRecDepth 100000 in
theorem rk_1 : code_1.all (rowOk 1) = true := by decide +kernel
set_option maxRecDepth 100000 in
theorem rk_2 : code_2.all (rowOk 2) = true := by decide +kernel
set_option maxRecDepth 100000 in
theorem rk_3 : code_3.all (rowOk 3) = true := by decide +kernel
set_option maxRecDepth 100000 in
theorem rk_4 : code_4.all (rowOk 4) = true := by decide +kernel
set_option maxRecDepth 100000 in
theorem rk_5 : code_5.all (rowOk 5) = true := by decide +kernel
set_option maxRecDepth 100000 in
theorem rk_6 : code_6.all (rowOk 6) = true := by decide +kernel
set_option maxRecDepth 100000 in
theorem rk_7 : code_7.all (rowOk 7) = true := by decide +kernel
set_option maxRecDepth 100000 in
theorem rk_8 : code_8.all (rowOk 8) = true := by decide +kernel
set_option maxRecDepth 100000 in
theorem rk_9 : code_9.all (rowOk 9) = true := by decide +kernel
set_option maxRecDepth 100000 in
theorem rk_10 : code_10.all (rowOk 10) = true := by decide +kernel
set_option maxRecDepth 100000 in
theorem rk_11 : code_11.all (rowOk 11) = true := by decide +kernel
set_option maxRecDepth 100000 in
theorem rk_12 : code_12.all (rowOk 12) = true := by decide +kernel
set_option maxRecDepth 100000 in
theorem rk_13 : code_13.all (rowOk 13) = true := by decide +kernel
set_option maxRecDepth 100000 in
theorem rk_14 : code_14.all (rowOk 14) = true := by decide +kernel
set_option maxRecDepth 100000 in
theorem rk_15 : code_15.all (rowOk 15) = true := by decide +kernel
set_option maxRecDepth 100000 in
theorem rk_16 : code_16.all (rowOk 16) = true := by decide +kernel
set_option maxRecDepth 100000 in
theorem rk_17 : code_17.all (rowOk 17) = true := by decide +kernel
set_option maxRecDepth 100000 in
theorem rk_18 : code_18.all (rowOk 18) = true := by decide +kernel
set_option maxRecDepth 100000 in
theorem rk_19 : code_19.all (rowOk 19) = true := by decide +kernel
set_option maxRecDepth 100000 in
theorem rk_20 : code_20.all (rowOk 20) = true := by decide +kernel
set_option maxRecDepth 100000 in
theorem rk_21 : code_21.all (rowOk 21) = true := by decide +kernel
set_option maxRecDepth 100000 in
theorem rk_22 : code_22.all (rowOk 22) = true := by decide +kernel
set_option maxRecDepth 100000 in
theorem rk_23 : code_23.all (rowOk 23) = true := by decide +kernel
set_option maxRecDepth 100000 in
theorem rk_24 : code_24.all (rowOk 24) = true := by decide +kernel
set_option maxRecDepth 100000 in
theorem rk_25 : code_25.all (rowOk 25) = true := by decide +kernel
set_option maxRecDepth 100000 in
theorem rk_26 : code_26.all (rowOk 26) = true := by decide +kernel
set_option maxRecDepth 100000 in
theorem rk_27 : code_27.all (rowOk 27) = true := by decide +kernel
set_option maxRecDepth 100000 in
theorem rk_28 : code_28.all (rowOk 28) = true := by decide +kernel
set_option maxRecDepth 100000 in
theorem rk_29 : code_29.all (rowOk 29) = true := by decide +kernel
set_option maxRecDepth 100000 in
theorem rk_30 : code_30.all (rowOk 30) = true := by decide +kernel
set_option maxRecDepth 100000 in
theorem rk_31 : code_31.all (rowOk 31) = true := by decide +kernel
set_option maxRecDepth 100000 in
theorem rk_32 : code_32.all (rowOk 32) = true := by decide +kernel
set_option maxRecDepth 100000 in
theorem rk_33 : code_33.all (rowOk 33) = true := by decide +kernel
set_option maxRecDepth 100000 in
theorem rk_34 : code_34.all (rowOk 34) = true := by decide +kernel
set_option maxRecDepth 100000 in
theorem rk_35 : code_35.all (rowOk 35) = true := by decide +kernel
set_option maxRecDepth 100000 in
theorem rk_36 : code_36.all (rowOk 36) = true := by decide +kernel
set_option maxRecDepth 100000 in
theorem rk_37 : code_37.all (rowOk 37) = true := by decide +kernel
set_option maxRecDepth 100000 in
theorem rk_38 : code_38.all (rowOk 38) = true := by decide +kernel
set_option maxRecDepth 100000 in
theorem rk_39 : code_39.all (rowOk 39) = true := by decide +kernel
set_option maxRecDepth 100000 in
theorem rk_40 : code_40.all (rowOk 40) = true := by decide +kernel
set_option maxRecDepth 100000 in
theorem rk_41 : code_41.all (rowOk 41) = true := by decide +kernel
set_option maxRecDepth 100000 in
theorem rk_42 : code_42.all (rowOk 42) = true := by decide +kernel
set_option maxRecDepth 100000 in
theorem rk_43 : code_43.all (rowOk 43) = true := by decide +kernel
set_option maxRecDepth 100000 in
theorem rk_44 : code_44.all (rowOk 44) = true := by decide +kernel
set_option maxRecDepth 100000 in
theorem rk_45 : code_45.all (rowOk 45) = true := by decide +kernel
set_option maxRecDepth 100000 in
theorem rk_46 : code_46.all (rowOk 46) = true := by decide +kernel
set_option maxRecDepth 100000 in
theorem rk_47 : code_47.all (rowOk 47) = true := by decide +kernel
set_option maxRecDepth 100000 in
theorem rk_48 : code_48.all (rowOk 48) = true := by decide +kernel
set_option maxRecDepth 100000 in
theorem rk_49 : code_49.all (rowOk 49) = true := by decide +kernel
set_option maxRecDepth 100000 in
theorem rk_50 : code_50.all (rowOk 50) = true := by decide +kernel
set_option maxRecDepth 100000 in
theorem rk_51 : code_51.all (rowOk 51) = true := by decide +kernel
set_option maxRecDepth 100000 in
theorem rk_52 : code_52.all (rowOk 52) = true := by decide +kernel
set_option maxRecDepth 100000 in
theorem rk_53 : code_53.all (rowOk 53) = true := by decide +kernel
set_option maxRecDepth 100000 in
theorem rk_54 : code_54.all (rowOk 54) = true := by decide +kernel
set_option maxRecDepth 100000 in
theorem rk_55 : code_55.all (rowOk 55) = true := by decide +kernel
set_option maxRecDepth 100000 in
theorem rk_56 : code_56.all (rowOk 56) = true := by decide +kernel
set_option maxRecDepth 100000 in
theorem rk_57 : code_57.all (rowOk 57) = true := by decide +kernel
set_option maxRecDepth 100000 in
theorem rk_58 : code_58.all (rowOk 58) = true := by decide +kernel
set_option maxRecDepth 100000 in
theorem rk_59 : code_59.all (rowOk 59) = true := by decide +kernel
set_option maxRecDepth 100000 in
theorem rk_60 : code_60.all (rowOk 60) = true := by decide +kernel
set_option maxRecDepth 100000 in
theorem rk_61 : code_61.all (rowOk 61) = true := by decide +kernel
set_option maxRecDepth 100000 in
theorem rk_62 : code_62.all (rowOk 62) = true := by decide +kernel
set_option maxRecDepth 100000 in
theorem rk_63 : code_63.all (rowOk 63) = true := by decide +kernel
set_option maxRecDepth 100000 in
theorem rk_64 : code_64.all (rowOk 64) = true := by decide +kernel
set_option maxRecDepth 100000 in
theorem rk_65 : code_65.all (rowOk 65) = true := by decide +kernel
set_option maxRecDepth 100000 in
theorem rk_66 : code_66.all (rowOk 66) = true := by decide +kernel
set_option maxRecDepth 100000 in
theorem rk_67 : code_67.all (rowOk 67) = true := by decide +kernel
set_option maxRecDepth 100000 in
theorem rk_68 : code_68.all (rowOk 68) = true := by decide +kernel
set_option maxRecDepth 100000 in
theorem rk_69 : code_69.all (rowOk 69) = true := by decide +kernel
set_option maxRecDepth 100000 in
theorem rk_70 : code_70.all (rowOk 70) = true := by decide +kernel
set_option maxRecDepth 100000 in
theorem rk_71 : code_71.all (rowOk 71) = true := by decide +kernel
set_option maxRecDepth 100000 in
theorem rk_72 : code_72.all (rowOk 72) = true := by decide +kernel
set_option maxRecDepth 100000 in
theorem rk_73 : code_73.all (rowOk 73) = true := by decide +kernel
set_option maxRecDepth 100000 in
theorem rk_74 : code_74.all (rowOk 74) = true := by decide +kernel
set_option maxRecDepth 100000 in
theorem rk_75 : code_75.all (rowOk 75) = true := by decide +kernel
set_option maxRecDepth 100000 in
theorem rk_76 : code_76.all (rowOk 76) = true := by decide +kernel
set_option maxRecDepth 100000 in
theorem rk_78 : code_78.all (rowOk 78) = true := by decide +kernel
set_option maxRecDepth 100000 in
theorem rk_82 : code_82.all (rowOk 82) = true := by decide +kernel
set_option maxRecDepth 100000 in
theorem rk_83 : code_83.all (rowOk 83) = true := by decide +kernel
set_option maxRecDepth 100000 in
theorem rk_84 : code_84.all (rowOk 84) = true := by decide +kernel
set_option maxRecDepth 100000 in
theorem rk_85 : code_85.all (rowOk 85) = true := by decide +kernel
set_option maxRecDepth 100000 in
theorem rk_86 : code_86.all (rowOk 86) = true := by decide +kernel
set_option maxRecDepth 100000 in
theorem rk_87 : code_87.all (rowOk 87) = true := by decide +kernel
set_option maxRecDepth 100000 in
theorem rk_88 : code_88.all (rowOk 88) = true := by decide +kernel
set_option maxRecDepth 100000 in
theorem rk_89 : code_89.all (rowOk 89) = true := by decide +kernel
set_option maxRecDepth 100000 in
theorem rk_90 : code_90.all (rowOk 90) = true := by decide +kernel
set_option maxRecDepth 100000 in
theorem rk_91 : code_91.all (rowOk 91) = true := by decide +kernel
set_option maxRecDepth 100000 in
theorem rk_92 : code_92.all (rowOk 92) = true := by decide +kernel
set_option maxRecDepth 100000 in
theorem rk_93 : code_93.all (rowOk 93) = true := by decide +kernel
set_option maxRecDepth 100000 in
theorem rk_94 : code_94.all (rowOk 94) = true := by decide +kernel
set_option maxRecDepth 100000 in
theorem rk_95 : code_95.all (rowOk 95) = true := by decide +kernel
set_option maxRecDepth 100000 in
theorem rk_96 : code_96.all (rowOk 96) = true := by decide +kernel
set_option maxRecDepth 100000 in
theorem rk_97 : code_97.all (rowOk 97) = true := by decide +kernel
set_option maxRecDepth 100000 in
theorem rk_98 : code_98.all (rowOk 98) = true := by decide +kernel
set_option maxRecDepth 100000 in
theorem rk_99 : code_99.all (rowOk 99) = true := by decide +kernel
set_option maxRecDepth 100000 in
theorem rk_100 : code_100.all (rowOk 100) = true := by decide +kernel
set_option maxRecDepth 100000 in
theorem rk_101 : code_101.all (rowOk 101) = true := by decide +kernel
set_option maxRecDepth 100000 in
theorem rk_102 : code_102.all (rowOk 102) = true := by decide +kernel
set_option maxRecDepth 100000 in
theorem rk_103 : code_103.all (rowOk 103) = true := by decide +kernel
set_option maxRecDepth 100000 in
theorem rk_104 : code_104.all (rowOk 104) = true := by decide +kernel
set_option maxRecDepth 100000 in
theorem rk_105 : code_105.all (rowOk 105) = true := by decide +kernel
set_option maxRecDepth 100000 in
theorem rk_106 : code_106.all (rowOk 106) = true := by decide +kernel
set_option maxRecDepth 100000 in
theorem rk_107 : code_107.all (rowOk 107) = true := by decide +kernel
set_option maxRecDepth 100000 in
theorem rk_108 : code_108.all (rowOk 108) = true := by decide +kernel
set_option maxRecDepth 100000 in
theorem rk_109 : code_109.all (rowOk 109) = true := by decide +kernel
set_option maxRecDepth 100000 in
theorem rk_110 : code_110.all (rowOk 110) = true := by decide +kernel
set_option maxRecDepth 100000 in
theorem rk_111 : code_111.all (rowOk 111) = true := by decide +kernel
set_option maxRecDepth 100000 in
theorem rk_112 : code_112.all (rowOk 112) = true := by decide +kernel
set_option maxRecDepth 100000 in
theorem rk_113 : code_113.all (rowOk 113) = true := by decide +kernel
set_option maxRecDepth 100000 in
theorem rk_114 : code_114.all (rowOk 114) = true := by decide +kernel
set_option maxRecDepth 100000 in
theorem rk_115 : code_115.all (rowOk 115) = true := by decide +kernel
set_option maxRecDepth 100000 in
theorem rk_116 : code_116.all (rowOk 116) = true := by decide +kernel
set_option maxRecDepth 100000 in
theorem rk_117 : code_117.all (rowOk 117) = true := by decide +kernel
set_option maxRecDepth 100000 in
theorem rk_118 : code_118.all (rowOk 118) = true := by decide +kernel
set_option maxRecDepth 100000 in
theorem rk_119 : code_119.all (rowOk 119) = true := by decide +kernel
set_option maxRecDepth 100000 in
theorem rk_120 : code_120.all (rowOk 120) = true := by decide +kernel
set_option maxRecDepth 100000 in
theorem rk_121 : code_121.all (rowOk 121) = true := by decide +kernel
set_option maxRecDepth 100000 in
theorem rk_122 : code_122.all (rowOk 122) = true := by decide +kernel
set_option maxRecDepth 100000 in
theorem rk_123 : code_123.all (rowOk 123) = true := by decide +kernel
set_option maxRecDepth 100000 in
theorem rk_124 : code_124.all (rowOk 124) = true := by decide +kernel
set_option maxRecDepth 100000 in
theorem rk_125 : code_125.all (rowOk 125) = true := by decide +kernel
set_option maxRecDepth 100000 in
theorem rk_126 : code_126.all (rowOk 126) = true := by decide +kernel
set_option maxRecDepth 100000 in
theorem rk_127 : code_127.all (rowOk 127) = true := by decide +kernel
set_option maxRecDepth 100000 in
theorem rk_128 : code_128.all (rowOk 128) = true := by decide +kernel
set_option maxRecDepth 100000 in
theorem rk_129 : code_129.all (rowOk 129) = true := by decide +kernel
set_option maxRecDepth 100000 in
theorem rk_130 : code_130.all (rowOk 130) = true := by decide +kernel
set_option maxRecDepth 100000 in
theorem rk_131 : code_131.all (rowOk 131) = true := by decide +kernel
set_option maxRecDepth 100000 in
theorem rk_135 : code_135.all (rowOk 135) = true := by decide +kernel
set_option maxRecDepth 100000 in
theorem rk_136 : code_136.all (rowOk 136) = true := by decide +kernel
set_option maxRecDepth 100000 in
theorem rk_137 : code_137.all (rowOk 137) = true := by decide +kernel
set_option maxRecDepth 100000 in
theorem rk_138 : code_138.all (rowOk 138) = true := by decide +kernel
set_option maxRecDepth 100000 in
theorem rk_139 : code_139.all (rowOk 139) = true := by decide +kernel
set_option maxRecDepth 100000 in
theorem rk_140 : code_140.all (rowOk 140) = true := by decide +kernel
set_option maxRecDepth 100000 in
theorem rk_141 : code_141.all (rowOk 141) = true := by decide +kernel
set_option maxRecDepth 100000 in
theorem rk_142 : code_142.all (rowOk 142) = true := by decide +kernel
set_option maxRecDepth 100000 in
theorem rk_317 : code_317.all (rowOk 317) = true := by decide +kernel
set_option maxRecDepth 100000 in
theorem rk_318 : code_318.all (rowOk 318) = true := by decide +kernel
set_option maxRecDepth 100000 in
theorem rk_319 : code_319.all (rowOk 319) = true := by decide +kernel
set_option maxRecDepth 100000 in
theorem rk_320 : code_320.all (rowOk 320) = true := by decide +kernel
set_option maxRecDepth 100000 in
theorem rk_321_0 : code_321_0.all (rowOk 321) = true := by decide +kernel
set_option maxRecDepth 100000 in
theorem rk_321_1 : code_321_1.all (rowOk 321) = true := by decide +kernel
set_option maxRecDepth 100000 in
theorem rk_321_2 : code_321_2.all (rowOk 321) = true := by decide +kernel
set_option maxRecDepth 100000 in
theorem rk_321_3 : code_321_3.all (rowOk 321) = true := by decide +kernel
theorem rk_321 : code_321.all (rowOk 321) = true := by
  unfold code_321
  simp only [List.all_append, Bool.and_eq_true]
  exact ⟨rk_321_0, rk_321_1, rk_321_2, rk_321_3⟩
set_option maxRecDepth 100000 in
theorem rk_322_0 : code_322_0.all (rowOk 322) = true := by decide +kernel
set_option maxRecDepth 100000 in
theorem rk_322_1 : code_322_1.all (rowOk 322) = true := by decide +kernel
set_option maxRecDepth 100000 in
theorem rk_322_2 : code_322_2.all (rowOk 322) = true := by decide +kernel
set_option maxRecDepth 100000 in
theorem rk_322_3 : code_322_3.all (rowOk 322) = true := by decide +kernel
set_option maxRecDepth 100000 in
theorem rk_322_4 : code_322_4.all (rowOk 322) = true := by decide +kernel
set_option maxRecDepth 100000 in
theorem rk_322_5 : code_322_5.all (rowOk 322) = true := by decide +kernel
theorem rk_322 : code_322.all (rowOk 322) = true := by
  unfold code_322
  simp only [List.all_append, Bool.and_eq_true]
  exact ⟨rk_322_0, rk_322_1, rk_322_2, rk_322_3, rk_322_4, rk_322_5⟩
set_option maxRecDepth 100000 in
theorem rk_323 : code_323.all (rowOk 323) = true := by decide +kernel
set_option maxRecDepth 100000 in
theorem rk_324 : code_324.all (rowOk 324) = true := by decide +kernel
set_option maxRecDepth 100000 in
theorem rk_325 : code_325.all (rowOk 325) = true := by decide +kernel
set_option maxRecDepth 100000 in
theorem rk_326 : code_326.all (rowOk 326) = true := by decide +kernel
set_option maxRecDepth 100000 in
theorem rk_327_0 : code_327_0.all (rowOk 327) = true := by decide +kernel
set_option maxRecDepth 100000 in
theorem rk_327_1 : code_327_1.all (rowOk 327) = true := by decide +kernel
set_option maxRecDepth 100000 in
theorem rk_327_2 : code_327_2.all (rowOk 327) = true := by decide +kernel
set_option maxRecDepth 100000 in
theorem rk_327_3 : code_327_3.all (rowOk 327) = true := by decide +kernel
set_option maxRecDepth 100000 in
theorem rk_327_4 : code_327_4.all (rowOk 327) = true := by decide +kernel
set_option maxRecDepth 100000 in
theorem rk_327_5 : code_327_5.all (rowOk 327) = true := by decide +kernel
set_option maxRecDepth 100000 in
theorem rk_327_6 : code_327_6.all (rowOk 327) = true := by decide +kernel
set_option maxRecDepth 100000 in
theorem rk_327_7 : code_327_7.all (rowOk 327) = true := by decide +kernel
set_option maxRecDepth 100000 in
theorem rk_327_8 : code_327_8.all (rowOk 327) = true := by decide +kernel
theorem rk_327 : code_327.all (rowOk 327) = true := by
  unfold code_327
  simp only [List.all_append, Bool.and_eq_true]
  exact ⟨rk_327_0, rk_327_1, rk_327_2, rk_327_3, rk_327_4, rk_327_5, rk_327_6, rk_327_7, rk_327_8⟩
set_option maxRecDepth 100000 in
theorem rk_328_0 : code_328_0.all (rowOk 328) = true := by decide +kernel
set_option maxRecDepth 100000 in
theorem rk_328_1 : code_328_1.all (rowOk 328) = true := by decide +kernel
set_option maxRecDepth 100000 in
theorem rk_328_2 : code_328_2.all (rowOk 328) = true := by decide +kernel
set_option maxRecDepth 100000 in
theorem rk_328_3 : code_328_3.all (rowOk 328) = true := by decide +kernel
set_option maxRecDepth 100000 in
theorem rk_328_4 : code_328_4.all (rowOk 328) = true := by decide +kernel
set_option maxRecDepth 100000 in
theorem rk_328_5 : code_328_5.all (rowOk 328) = true := by decide +kernel
set_option maxRecDepth 100000 in
theorem rk_328_6 : code_328_6.all (rowOk 328) = true := by decide +kernel
set_option maxRecDepth 100000 in
theorem rk_328_7 : code_328_7.all (rowOk 328) = true := by decide +kernel
theorem rk_328 : code_328.all (rowOk 328) = true := by
  unfold code_328
  simp only [List.all_append, Bool.and_eq_true]
  exact ⟨rk_328_0, rk_328_1, rk_328_2, rk_328_3, rk_328_4, rk_328_5, rk_328_6, rk_328_7⟩
set_option maxRecDepth 100000 in
theorem rk_329_0 : code_329_0.all (rowOk 329) = true := by decide +kernel
set_option maxRecDepth 100000 in
theorem rk_329_1 : code_329_1.all (rowOk 329) = true := by decide +kernel
set_option maxRecDepth 100000 in
theorem rk_329_2 : code_329_2.all (rowOk 329) = true := by decide +kernel
set_option maxRecDepth 100000 in
theorem rk_329_3 : code_329_3.all (rowOk 329) = true := by decide +kernel
set_option maxRecDepth 100000 in
theorem rk_329_4 : code_329_4.all (rowOk 329) = true := by decide +kernel
set_option maxRecDepth 100000 in
theorem rk_329_5 : code_329_5.all (rowOk 329) = true := by decide +kernel
set_option maxRecDepth 100000 in
theorem rk_329_6 : code_329_6.all (rowOk 329) = true := by decide +kernel
set_option maxRecDepth 100000 in
theorem rk_329_7 : code_329_7.all (rowOk 329) = true := by decide +kernel
set_option maxRecDepth 100000 in
theorem rk_329_8 : code_329_8.all (rowOk 329) = true := by decide +kernel
set_option maxRecDepth 100000 in
theorem rk_329_9 : code_329_9.all (rowOk 329) = true := by decide +kernel
set_option maxRecDepth 100000 in
theorem rk_329_10 : code_329_10.all (rowOk 329) = true := by decide +kernel
theorem rk_329 : code_329.all (rowOk 329) = true := by
  unfold code_329
  simp only [List.all_append, Bool.and_eq_true]
  exact ⟨rk_329_0, rk_329_1, rk_329_2, rk_329_3, rk_329_4, rk_329_5, rk_329_6, rk_329_7, rk_329_8, rk_329_9, rk_329_10⟩
set_option maxRecDepth 100000 in
theorem rk_330_0 : code_330_0.all (rowOk 330) = true := by decide +kernel
set_option maxRecDepth 100000 in
theorem rk_330_1 : code_330_1.all (rowOk 330) = true := by decide +kernel
set_option maxRecDepth 100000 in
theorem rk_330_2 : code_330_2.all (rowOk 330) = true := by decide +kernel
theorem rk_330 : code_330.all (rowOk 330) = true := by
  unfold code_330
  simp only [List.all_append, Bool.and_eq_true]
  exact ⟨rk_330_0, rk_330_1, rk_330_2⟩
set_option maxRecDepth 100000 in
theorem rk_331_0 : code_331_0.all (rowOk 331) = true := by decide +kernel
set_option maxRecDepth 100000 in
theorem rk_331_1 : code_331_1.all (rowOk 331) = true := by decide +kernel
set_option maxRecDepth 100000 in
theorem rk_331_2 : code_331_2.all (rowOk 331) = true := by decide +kernel
set_option maxRecDepth 100000 in
theorem rk_331_3 : code_331_3.all (rowOk 331) = true := by decide +kernel
set_option maxRecDepth 100000 in
theorem rk_331_4 : code_331_4.all (rowOk 331) = true := by decide +kernel
set_option maxRecDepth 100000 in
theorem rk_331_5 : code_331_5.all (rowOk 331) = true := by decide +kernel
theorem rk_331 : code_331.all (rowOk 331) = true := by
  unfold code_331
  simp only [List.all_append, Bool.and_eq_true]
  exact ⟨rk_331_0, rk_331_1, rk_331_2, rk_331_3, rk_331_4, rk_331_5⟩
set_option maxRecDepth 100000 in
theorem rk_332_0 : code_332_0.all (rowOk 332) = true := by decide +kernel
set_option maxRecDepth 100000 in
theorem rk_332_1 : code_332_1.all (rowOk 332) = true := by decide +kernel
set_option maxRecDepth 100000 in
theorem rk_332_2 : code_332_2.all (rowOk 332) = true := by decide +kernel
set_option maxRecDepth 100000 in
theorem rk_332_3 : code_332_3.all (rowOk 332) = true := by decide +kernel
theorem rk_332 : code_332.all (rowOk 332) = true := by
  unfold code_332
  simp only [List.all_append, Bool.and_eq_true]
  exact ⟨rk_332_0, rk_332_1, rk_332_2, rk_332_3⟩
set_option maxRecDepth 100000 in
theorem rk_333 : code_333.all (rowOk 333) = true := by decide +kernel
theorem rw_c {a : Nat} {l : List Nat} (h : (codeT a).all (rowOk a) = true) (t : ∀ k, k ∈ l → (codeT k).all (rowOk k) = true) : ∀ k, k ∈ a :: l → (codeT k).all (rowOk k) = true := fun k hk => by
  rcases List.mem_cons.mp hk with e | e
  · rw [e]; exact h
  · exact t k e
set_option maxRecDepth 100000 in
theorem rw_all : ∀ k, k ∈ rlL → (codeT k).all (rowOk k) = true := rw_c (a := 0) rk_0 (rw_c (a := 1) rk_1 (rw_c (a := 2) rk_2 (rw_c (a := 3) rk_3 (rw_c (a := 4) rk_4 (rw_c (a := 5) rk_5 (rw_c (a := 6) rk_6 (rw_c (a := 7) rk_7 (rw_c (a := 8) rk_8 (rw_c (a := 9) rk_9 (rw_c (a := 10) rk_10 (rw_c (a := 11) rk_11 (rw_c (a := 12) rk_12 (rw_c (a := 13) rk_13 (rw_c (a := 14) rk_14 (rw_c (a := 15) rk_15 (rw_c (a := 16) rk_16 (rw_c (a := 17) rk_17 (rw_c (a := 18) rk_18 (rw_c (a := 19) rk_19 (rw_c (a := 20) rk_20 (rw_c (a := 21) rk_21 (rw_c (a := 22) rk_22 (rw_c (a := 23) rk_23 (rw_c (a := 24) rk_24 (rw_c (a := 25) rk_25 (rw_c (a := 26) rk_26 (rw_c (a := 27) rk_27 (rw_c (a := 28) rk_28 (rw_c (a := 29) rk_29 (rw_c (a := 30) rk_30 (rw_c (a := 31) rk_31 (rw_c (a := 32) rk_32 (rw_c (a := 33) rk_33 (rw_c (a := 34) rk_34 (rw_c (a := 35) rk_35 (rw_c (a := 36) rk_36 (rw_c (a := 37) rk_37 (rw_c (a := 38) rk_38 (rw_c (a := 39) rk_39 (rw_c (a := 40) rk_40 (rw_c (a := 41) rk_41 (rw_c (a := 42) rk_42 (rw_c (a := 43) rk_43 (rw_c (a := 44) rk_44 (rw_c (a := 45) rk_45 (rw_c (a := 46) rk_46 (rw_c (a := 47) rk_47 (rw_c (a := 48) rk_48 (rw_c (a := 49) rk_49 (rw_c (a := 50) rk_50 (rw_c (a := 51) rk_51 (rw_c (a := 52) rk_52 (rw_c (a := 53) rk_53 (rw_c (a := 54) rk_54 (rw_c (a := 55) rk_55 (rw_c (a := 56) rk_56 (rw_c (a := 57) rk_57 (rw_c (a := 58) rk_58 (rw_c (a := 59) rk_59 (rw_c (a := 60) rk_60 (rw_c (a := 61) rk_61 (rw_c (a := 62) rk_62 (rw_c (a := 63) rk_63 (rw_c (a := 64) rk_64 (rw_c (a := 65) rk_65 (rw_c (a := 66) rk_66 (rw_c (a := 67) rk_67 (rw_c (a := 68) rk_68 (rw_c (a := 69) rk_69 (rw_c (a := 70) rk_70 (rw_c (a := 71) rk_71 (rw_c (a := 72) rk_72 (rw_c (a := 73) rk_73 (rw_c (a := 74) rk_74 (rw_c (a := 75) rk_75 (rw_c (a := 76) rk_76 (rw_c (a := 78) rk_78 (rw_c (a := 82) rk_82 (rw_c (a := 83) rk_83 (rw_c (a := 84) rk_84 (rw_c (a := 85) rk_85 (rw_c (a := 86) rk_86 (rw_c (a := 87) rk_87 (rw_c (a := 88) rk_88 (rw_c (a := 89) rk_89 (rw_c (a := 90) rk_90 (rw_c (a := 91) rk_91 (rw_c (a := 92) rk_92 (rw_c (a := 93) rk_93 (rw_c (a := 94) rk_94 (rw_c (a := 95) rk_95 (rw_c (a := 96) rk_96 (rw_c (a := 97) rk_97 (rw_c (a := 98) rk_98 (rw_c (a := 99) rk_99 (rw_c (a := 100) rk_100 (rw_c (a := 101) rk_101 (rw_c (a := 102) rk_102 (rw_c (a := 103) rk_103 (rw_c (a := 104) rk_104 (rw_c (a := 105) rk_105 (rw_c (a := 106) rk_106 (rw_c (a := 107) rk_107 (rw_c (a := 108) rk_108 (rw_c (a := 109) rk_109 (rw_c (a := 110) rk_110 (rw_c (a := 111) rk_111 (rw_c (a := 112) rk_112 (rw_c (a := 113) rk_113 (rw_c (a := 114) rk_114 (rw_c (a := 115) rk_115 (rw_c (a := 116) rk_116 (rw_c (a := 117) rk_117 (rw_c (a := 118) rk_118 (rw_c (a := 119) rk_119 (rw_c (a := 120) rk_120 (rw_c (a := 121) rk_121 (rw_c (a := 122) rk_122 (rw_c (a := 123) rk_123 (rw_c (a := 124) rk_124 (rw_c (a := 125) rk_125 (rw_c (a := 126) rk_126 (rw_c (a := 127) rk_127 (rw_c (a := 128) rk_128 (rw_c (a := 129) rk_129 (rw_c (a := 130) rk_130 (rw_c (a := 131) rk_131 (rw_c (a := 135) rk_135 (rw_c (a := 136) rk_136 (rw_c (a := 137) rk_137 (rw_c (a := 138) rk_138 (rw_c (a := 139) rk_139 (rw_c (a := 140) rk_140 (rw_c (a := 141) rk_141 (rw_c (a := 142) rk_142 (rw_c (a := 317) rk_317 (rw_c (a := 318) rk_318 (rw_c (a := 319) rk_319 (rw_c (a := 320) rk_320 (rw_c (a := 321) rk_321 (rw_c (a := 322) rk_322 (rw_c (a := 323) rk_323 (rw_c (a := 324) rk_324 (rw_c (a := 325) rk_325 (rw_c (a := 326) rk_326 (rw_c (a := 327) rk_327 (rw_c (a := 328) rk_328 (rw_c (a := 329) rk_329 (rw_c (a := 330) rk_330 (rw_c (a := 331) rk_331 (rw_c (a := 332) rk_332 (rw_c (a := 333) rk_333 (fun k h => nomatch h)))))))))))))))))))))))))))))))))))))))))))))))))))))))))))))))))))))))))))))))))))))))))))))))))))))))))))))))))))))))))))))))))))))))))))))))))))))))))
