set_option maxRecDepth 100000 in
theorem rk_0 : code_0.all (rowOk 0) = true := by decide +kernel
set_option maxRecDepth 100000 in
theorem rk_1 : code_1.all (rowOk 1) = true := by decide +kernel
set_option maxRecDepth 100000 in
theorem rk_2 : code_2.all (rowOk 2) = true := by decide +kernel
set_option maxRecDepth 100000 in
theorem rk_3 : code_3.all (rowOk 3) = true := by decide +kernel
set_option maxRecDepth 100000 in
theorem rk_4 : code_4.all (rowOk 4) = true := by decide +kernel
set_option maxRecDepth 100000 in
theorem rk_5 : code_5.all (rowOk 5) = true := by decide +kernel
set_option maxRecDepth 100000 in
theorem rk_6 : code_6.all (rowOk 6) = true := by decide +kernel
set_option maxRecDepth 100000 in
theorem rk_7 : code_7.all (rowOk 7) = true := by decide +kernel
set_option maxRecDepth 100000 in
theorem rk_8 : code_8.all (rowOk 8) = true := by decide +kernel
set_option maxRecDepth 100000 in
theorem rk_9 : code_9.all (rowOk 9) = true := by decide +kernel
set_option maxRecDepth 100000 in
theorem rk_10 : code_10.all (rowOk 10) = true := by decide +kernel
set_option maxRecDepth 100000 in
theorem rk_11 : code_11.all (rowOk 11) = true := by decide +kernel
set_option maxRecDepth 100000 in
theorem rk_12 : code_12.all (rowOk 12) = true := by decide +kernel
set_option maxRecDepth 100000 in
theorem rk_13 : code_13.all (rowOk 13) = true := by decide +kernel
set_option maxRecDepth 100000 in
theorem rk_14 : code_14.all (rowOk 14) = true := by decide +kernel
set_option maxRecDepth 100000 in
theorem rk_15 : code_15.all (rowOk 15) = true := by decide +kernel
set_option maxRecDepth 100000 in
theorem rk_16 : code_16.all (rowOk 16) = true := by decide +kernel
set_option maxRecDepth 100000 in
theorem rk_17 : code_17.all (rowOk 17) = true := by decide +kernel
set_option maxRecDepth 100000 in
theorem rk_18 : code_18.all (rowOk 18) = true := by decide +kernel
set_option maxRecDepth 100000 in
theorem rk_19 : code_19.all (rowOk 19) = true := by decide +kernel
set_option maxRecDepth 100000 in
theorem rk_20 : code_20.all (rowOk 20) = true := by decide +kernel
set_option maxRecDepth 100000 in
theorem rk_21 : code_21.all (rowOk 21) = true := by decide +kernel
set_option maxRecDepth 100000 in
theorem rk_22 : code_22.all (rowOk 22) = true := by decide +kernel
set_option maxRecDepth 100000 in
theorem rk_23 : code_23.all (rowOk 23) = true := by decide +kernel
set_option maxRecDepth 100000 in
theorem rk_24 : code_24.all (rowOk 24) = true := by decide +kernel
set_option maxRecDepth 100000 in
theorem rk_25 : code_25.all (rowOk 25) = true := by decide +kernel
set_option maxRecDepth 100000 in
theorem rk_26 : code_26.all (rowOk 26) = true := by decide +kernel
set_option maxRecDepth 100000 in
theorem rk_27 : code_27.all (rowOk 27) = true := by decide +kernel
set_option maxRecDepth 100000 in
theorem rk_28 : code_28.all (rowOk 28) = true := by decide +kernel
set_option maxRecDepth 100000 in
theorem rk_29 : code_29.all (rowOk 29) = true := by decide +kernel
set_option maxRecDepth 100000 in
theorem rk_30 : code_30.all (rowOk 30) = true := by decide +kernel
set_option maxRecDepth 100000 in
theorem rk_31 : code_31.all (rowOk 31) = true := by decide +kernel
set_option maxRecDepth 100000 in
theorem rk_32 : code_32.all (rowOk 32) = true := by decide +kernel
set_option maxRecDepth 100000 in
theorem rk_33 : code_33.all (rowOk 33) = true := by decide +kernel
set_option maxRecDepth 100000 in
theorem rk_34 : code_34.all (rowOk 34) = true := by decide +kernel
set_option maxRecDepth 100000 in
theorem rk_35 : code_35.all (rowOk 35) = true := by decide +kernel
set_option maxRecDepth 100000 in
theorem rk_36 : code_36.all (rowOk 36) = true := by decide +kernel
set_option maxRecDepth 100000 in
theorem rk_37 : code_37.all (rowOk 37) = true := by decide +kernel
set_option maxRecDepth 100000 in
theorem rk_38 : code_38.all (rowOk 38) = true := by decide +kernel
set_option maxRecDepth 100000 in
theorem rk_39 : code_39.all (rowOk 39) = true := by decide +kernel
set_option maxRecDepth 100000 in
theorem rk_40 : code_40.all (rowOk 40) = true := by decide +kernel
set_option maxRecDepth 100000 in
theorem rk_41 : code_41.all (rowOk 41) = true := by decide +kernel
set_option maxRecDepth 100000 in
theorem rk_42 : code_42.all (rowOk 42) = true := by decide +kernel
set_option maxRecDepth 100000 in
theorem rk_43 : code_43.all (rowOk 43) = true := by decide +kernel
set_option maxRecDepth 100000 in
theorem rk_44 : code_44.all (rowOk 44) = true := by decide +kernel
set_option maxRecDepth 100000 in
theorem rk_45 : code_45.all (rowOk 45) = true := by decide +kernel
set_option maxRecDepth 100000 in
theorem rk_46 : code_46.all (rowOk 46) = true := by decide +kernel
set_option maxRecDepth 100000 in
theorem rk_47 : code_47.all (rowOk 47) = true := by decide +kernel
set_option maxRecDepth 100000 in
theorem rk_48 : code_48.all (rowOk 48) = true := by decide +kernel
set_option maxRecDepth 100000 in
theorem rk_49 : code_49.all (rowOk 49) = true := by decide +kernel
set_option maxRecDepth 100000 in
theorem rk_50 : code_50.all (rowOk 50) = true := by decide +kernel
set_option maxRecDepth 100000 in
theorem rk_51 : code_51.all (rowOk 51) = true := by decide +kernel
set_option maxRecDepth 100000 in
theorem rk_52 : code_52.all (rowOk 52) = true := by decide +kernel
set_option maxRecDepth 100000 in
theorem rk_53 : code_53.all (rowOk 53) = true := by decide +kernel
set_option maxRecDepth 100000 in
theorem rk_54 : code_54.all (rowOk 54) = true := by decide +kernel
set_option maxRecDepth 100000 in
theorem rk_55 : code_55.all (rowOk 55) = true := by decide +kernel
set_option maxRecDepth 100000 in
theorem rk_56 : code_56.all (rowOk 56) = true := by decide +kernel
set_option maxRecDepth 100000 in
theorem rk_57 : code_57.all (rowOk 57) = true := by decide +kernel
set_option maxRecDepth 100000 in
theorem rk_58 : code_58.all (rowOk 58) = true := by decide +kernel
set_option maxRecDepth 100000 in
theorem rk_59 : code_59.all (rowOk 59) = true := by decide +kernel
set_option maxRecDepth 100000 in
theorem rk_60 : code_60.all (rowOk 60) = true := by decide +kernel
set_option maxRecDepth 100000 in
theorem rk_61 : code_61.all (rowOk 61) = true := by decide +kernel
set_option maxRecDepth 100000 in
theorem rk_62 : code_62.all (rowOk 62) = true := by decide +kernel
set_option maxRecDepth 100000 in
theorem rk_63 : code_63.all (rowOk 63) = true := by decide +kernel
set_option maxRecDepth 100000 in
theorem rk_64 : code_64.all (rowOk 64) = true := by decide +kernel
set_option maxRecDepth 100000 in
theorem rk_65 : code_65.all (rowOk 65) = true := by decide +kernel
set_option maxRecDepth 100000 in
theorem rk_66 : code_66.all (rowOk 66) = true := by decide +kernel
set_option maxRecDepth 100000 in
theorem rk_67 : code_67.all (rowOk 67) = true := by decide +kernel
set_option maxRecDepth 100000 in
theorem rk_68 : code_68.all (rowOk 68) = true := by decide +kernel
set_option maxRecDepth 100000 in
theorem rk_69 : code_69.all (rowOk 69) = true := by decide +kernel
set_option maxRecDepth 100000 in
theorem rk_70 : code_70.all (rowOk 70) = true := by decide +kernel
set_option maxRecDepth 100000 in
theorem rk_71 : code_71.all (rowOk 71) = true := by decide +kernel
set_option maxRecDepth 100000 in
theorem rk_72 : code_72.all (rowOk 72) = true := by decide +kernel
set_option maxRecDepth 100000 in
theorem rk_73 : code_73.all (rowOk 73) = true := by decide +kernel
set_option maxRecDepth 100000 in
theorem rk_74 : code_74.all (rowOk 74) = true := by decide +kernel
set_option maxRecDepth 100000 in
theorem rk_75 : code_75.all (rowOk 75) = true := by decide +kernel
set_option maxRecDepth 100000 in
theorem rk_76 : code_76.all (rowOk 76) = true := by decide +kernel
set_option maxRecDepth 100000 in
theorem rk_77 : code_77.all (rowOk 77) = true := by decide +kernel
set_option maxRecDepth 100000 in
theorem rk_78 : code_78.all (rowOk 78) = true := by decide +kernel
set_option maxRecDepth 100000 in
theorem rk_79 : code_79.all (rowOk 79) = true := by decide +kernel
set_option maxRecDepth 100000 in
theorem rk_80 : code_80.all (rowOk 80) = true := by decide +kernel
set_option maxRecDepth 100000 in
theorem rk_81 : code_81.all (rowOk 81) = true := by decide +kernel
set_option maxRecDepth 100000 in
theorem rk_82 : code_82.all (rowOk 82) = true := by decide +kernel
set_option maxRecDepth 100000 in
theorem rk_83 : code_83.all (rowOk 83) = true := by decide +kernel
set_option maxRecDepth 100000 in
theorem rk_84 : code_84.all (rowOk 84) = true := by decide +kernel
set_option maxRecDepth 100000 in
theorem rk_85 : code_85.all (rowOk 85) = true := by decide +kernel
set_option maxRecDepth 100000 in
theorem rk_86 : code_86.all (rowOk 86) = true := by decide +kernel
set_option maxRecDepth 100000 in
theorem rk_87 : code_87.all (rowOk 87) = true := by decide +kernel
set_option maxRecDepth 100000 in
theorem rk_88 : code_88.all (rowOk 88) = true := by decide +kernel
set_option maxRecDepth 100000 in
theorem rk_89 : code_89.all (rowOk 89) = true := by decide +kernel
set_option maxRecDepth 100000 in
theorem rk_90 : code_90.all (rowOk 90) = true := by decide +kernel
set_option maxRecDepth 100000 in
theorem rk_91 : code_91.all (rowOk 91) = true := by decide +kernel
set_option maxRecDepth 100000 in
theorem rk_92 : code_92.all (rowOk 92) = true := by decide +kernel
set_option maxRecDepth 100000 in
theorem rk_93 : code_93.all (rowOk 93) = true := by decide +kernel
set_option maxRecDepth 100000 in
theorem rk_94 : code_94.all (rowOk 94) = true := by decide +kernel
set_option maxRecDepth 100000 in
theorem rk_95 : code_95.all (rowOk 95) = true := by decide +kernel
set_option maxRecDepth 100000 in
theorem rk_96 : code_96.all (rowOk 96) = true := by decide +kernel
set_option maxRecDepth 100000 in
theorem rk_97 : code_97.all (rowOk 97) = true := by decide +kernel
set_option maxRecDepth 100000 in
theorem rk_98 : code_98.all (rowOk 98) = true := by decide +kernel
set_option maxRecDepth 100000 in
theorem rk_99 : code_99.all (rowOk 99) = true := by decide +kernel
set_option maxRecDepth 100000 in
theorem rk_100 : code_100.all (rowOk 100) = true := by decide +kernel
set_option maxRecDepth 100000 in
theorem rk_101 : code_101.all (rowOk 101) = true := by decide +kernel
set_option maxRecDepth 100000 in
theorem rk_102 : code_102.all (rowOk 102) = true := by decide +kernel
set_option maxRecDepth 100000 in
theorem rk_103 : code_103.all (rowOk 103) = true := by decide +kernel
set_option maxRecDepth 100000 in
theorem rk_104 : code_104.all (rowOk 104) = true := by decide +kernel
set_option maxRecDepth 100000 in
theorem rk_105 : code_105.all (rowOk 105) = true := by decide +kernel
set_option maxRecDepth 100000 in
theorem rk_106 : code_106.all (rowOk 106) = true := by decide +kernel
set_option maxRecDepth 100000 in
theorem rk_107 : code_107.all (rowOk 107) = true := by decide +kernel
set_option maxRecDepth 100000 in
theorem rk_108 : code_108.all (rowOk 108) = true := by decide +kernel
set_option maxRecDepth 100000 in
theorem rk_109 : code_109.all (rowOk 109) = true := by decide +kernel
set_option maxRecDepth 100000 in
theorem rk_110 : code_110.all (rowOk 110) = true := by decide +kernel
set_option maxRecDepth 100000 in
theorem rk_111 : code_111.all (rowOk 111) = true := by decide +kernel
set_option maxRecDepth 100000 in
theorem rk_112 : code_112.all (rowOk 112) = true := by decide +kernel
set_option maxRecDepth 100000 in
theorem rk_113 : code_113.all (rowOk 113) = true := by decide +kernel
set_option maxRecDepth 100000 in
theorem rk_114 : code_114.all (rowOk 114) = true := by decide +kernel
set_option maxRecDepth 100000 in
theorem rk_115 : code_115.all (rowOk 115) = true := by decide +kernel
set_option maxRecDepth 100000 in
theorem rk_116 : code_116.all (rowOk 116) = true := by decide +kernel
set_option maxRecDepth 100000 in
theorem rk_117 : code_117.all (rowOk 117) = true := by decide +kernel
set_option maxRecDepth 100000 in
theorem rk_118 : code_118.all (rowOk 118) = true := by decide +kernel
set_option maxRecDepth 100000 in
theorem rk_119 : code_119.all (rowOk 119) = true := by decide +kernel
set_option maxRecDepth 100000 in
theorem rk_120 : code_120.all (rowOk 120) = true := by decide +kernel
set_option maxRecDepth 100000 in
theorem rk_121 : code_121.all (rowOk 121) = true := by decide +kernel
set_option maxRecDepth 100000 in
theorem rk_122 : code_122.all (rowOk 122) = true := by decide +kernel
set_option maxRecDepth 100000 in
theorem rk_123 : code_123.all (rowOk 123) = true := by decide +kernel
set_option maxRecDepth 100000 in
theorem rk_124 : code_124.all (rowOk 124) = true := by decide +kernel
set_option maxRecDepth 100000 in
theorem rk_125 : code_125.all (rowOk 125) = true := by decide +kernel
set_option maxRecDepth 100000 in
theorem rk_126 : code_126.all (rowOk 126) = true := by decide +kernel
set_option maxRecDepth 100000 in
theorem rk_127 : code_127.all (rowOk 127) = true := by decide +kernel
set_option maxRecDepth 100000 in
theorem rk_128 : code_128.all (rowOk 128) = true := by decide +kernel
set_option maxRecDepth 100000 in
theorem rk_129 : code_129.all (rowOk 129) = true := by decide +kernel
set_option maxRecDepth 100000 in
theorem rk_130 : code_130.all (rowOk 130) = true := by decide +kernel
set_option maxRecDepth 100000 in
theorem rk_131 : code_131.all (rowOk 131) = true := by decide +kernel
set_option maxRecDepth 100000 in
theorem rk_132 : code_132.all (rowOk 132) = true := by decide +kernel
set_option maxRecDepth 100000 in
theorem rk_133 : code_133.all (rowOk 133) = true := by decide +kernel
set_option maxRecDepth 100000 in
theorem rk_134 : code_134.all (rowOk 134) = true := by decide +kernel
set_option maxRecDepth 100000 in
theorem rk_135 : code_135.all (rowOk 135) = true := by decide +kernel
set_option maxRecDepth 100000 in
theorem rk_136 : code_136.all (rowOk 136) = true := by decide +kernel
set_option maxRecDepth 100000 in
theorem rk_137 : code_137.all (rowOk 137) = true := by decide +kernel
set_option maxRecDepth 100000 in
theorem rk_138 : code_138.all (rowOk 138) = true := by decide +kernel
set_option maxRecDepth 100000 in
theorem rk_139 : code_139.all (rowOk 139) = true := by decide +kernel
set_option maxRecDepth 100000 in
theorem rk_140 : code_140.all (rowOk 140) = true := by decide +kernel
set_option maxRecDepth 100000 in
theorem rk_141 : code_141.all (rowOk 141) = true := by decide +kernel
set_option maxRecDepth 100000 in
theorem rk_142 : code_142.all (rowOk 142) = true := by decide +kernel
set_option maxRecDepth 100000 in
theorem rk_143 : code_143.all (rowOk 143) = true := by decide +kernel
set_option maxRecDepth 100000 in
theorem rk_144 : code_144.all (rowOk 144) = true := by decide +kernel
set_option maxRecDepth 100000 in
theorem rk_145 : code_145.all (rowOk 145) = true := by decide +kernel
set_option maxRecDepth 100000 in
theorem rk_146 : code_146.all (rowOk 146) = true := by decide +kernel
set_option maxRecDepth 100000 in
theorem rk_147 : code_147.all (rowOk 147) = true := by decide +kernel
set_option maxRecDepth 100000 in
theorem rk_148 : code_148.all (rowOk 148) = true := by decide +kernel
set_option maxRecDepth 100000 in
theorem rk_149 : code_149.all (rowOk 149) = true := by decide +kernel
set_option maxRecDepth 100000 in
theorem rk_150 : code_150.all (rowOk 150) = true := by decide +kernel
set_option maxRecDepth 100000 in
theorem rk_151 : code_151.all (rowOk 151) = true := by decide +kernel
set_option maxRecDepth 100000 in
theorem rk_152 : code_152.all (rowOk 152) = true := by decide +kernel
set_option maxRecDepth 100000 in
theorem rk_153 : code_153.all (rowOk 153) = true := by decide +kernel
set_option maxRecDepth 100000 in
theorem rk_154 : code_154.all (rowOk 154) = true := by decide +kernel
set_option maxRecDepth 100000 in
theorem rk_155 : code_155.all (rowOk 155) = true := by decide +kernel
set_option maxRecDepth 100000 in
theorem rk_156 : code_156.all (rowOk 156) = true := by decide +kernel
set_option maxRecDepth 100000 in
theorem rk_157 : code_157.all (rowOk 157) = true := by decide +kernel
set_option maxRecDepth 100000 in
theorem rk_158 : code_158.all (rowOk 158) = true := by decide +kernel
set_option maxRecDepth 100000 in
theorem rk_159 : code_159.all (rowOk 159) = true := by decide +kernel
set_option maxRecDepth 100000 in
theorem rk_160 : code_160.all (rowOk 160) = true := by decide +kernel
set_option maxRecDepth 100000 in
theorem rk_161 : code_161.all (rowOk 161) = true := by decide +kernel
set_option maxRecDepth 100000 in
theorem rk_162 : code_162.all (rowOk 162) = true := by decide +kernel
set_option maxRecDepth 100000 in
theorem rk_163 : code_163.all (rowOk 163) = true := by decide +kernel
set_option maxRecDepth 100000 in
theorem rk_164 : code_164.all (rowOk 164) = true := by decide +kernel
set_option maxRecDepth 100000 in
theorem rk_165 : code_165.all (rowOk 165) = true := by decide +kernel
set_option maxRecDepth 100000 in
theorem rk_166 : code_166.all (rowOk 166) = true := by decide +kernel
set_option maxRecDepth 100000 in
theorem rk_167 : code_167.all (rowOk 167) = true := by decide +kernel
set_option maxRecDepth 100000 in
theorem rk_168 : code_168.all (rowOk 168) = true := by decide +kernel
set_option maxRecDepth 100000 in
theorem rk_169 : code_169.all (rowOk 169) = true := by decide +kernel
set_option maxRecDepth 100000 in
theorem rk_170 : code_170.all (rowOk 170) = true := by decide +kernel
set_option maxRecDepth 100000 in
theorem rk_171 : code_171.all (rowOk 171) = true := by decide +kernel
set_option maxRecDepth 100000 in
theorem rk_172 : code_172.all (rowOk 172) = true := by decide +kernel
set_option maxRecDepth 100000 in
theorem rk_173 : code_173.all (rowOk 173) = true := by decide +kernel
set_option maxRecDepth 100000 in
theorem rk_174 : code_174.all (rowOk 174) = true := by decide +kernel
set_option maxRecDepth 100000 in
theorem rk_175 : code_175.all (rowOk 175) = true := by decide +kernel
set_option maxRecDepth 100000 in
theorem rk_176 : code_176.all (rowOk 176) = true := by decide +kernel
set_option maxRecDepth 100000 in
theorem rk_177 : code_177.all (rowOk 177) = true := by decide +kernel
set_option maxRecDepth 100000 in
theorem rk_178 : code_178.all (rowOk 178) = true := by decide +kernel
set_option maxRecDepth 100000 in
theorem rk_179 : code_179.all (rowOk 179) = true := by decide +kernel
set_option maxRecDepth 100000 in
theorem rk_180 : code_180.all (rowOk 180) = true := by decide +kernel
set_option maxRecDepth 100000 in
theorem rk_181 : code_181.all (rowOk 181) = true := by decide +kernel
set_option maxRecDepth 100000 in
theorem rk_182 : code_182.all (rowOk 182) = true := by decide +kernel
set_option maxRecDepth 100000 in
theorem rk_183 : code_183.all (rowOk 183) = true := by decide +kernel
set_option maxRecDepth 100000 in
theorem rk_184 : code_184.all (rowOk 184) = true := by decide +kernel
set_option maxRecDepth 100000 in
theorem rk_185 : code_185.all (rowOk 185) = true := by decide +kernel
set_option maxRecDepth 100000 in
theorem rk_186 : code_186.all (rowOk 186) = true := by decide +kernel
set_option maxRecDepth 100000 in
theorem rk_187 : code_187.all (rowOk 187) = true := by decide +kernel
set_option maxRecDepth 100000 in
theorem rk_188 : code_188.all (rowOk 188) = true := by decide +kernel
set_option maxRecDepth 100000 in
theorem rk_189 : code_189.all (rowOk 189) = true := by decide +kernel
set_option maxRecDepth 100000 in
theorem rk_190 : code_190.all (rowOk 190) = true := by decide +kernel
set_option maxRecDepth 100000 in
theorem rk_191 : code_191.all (rowOk 191) = true := by decide +kernel
set_option maxRecDepth 100000 in
theorem rk_192 : code_192.all (rowOk 192) = true := by decide +kernel
set_option maxRecDepth 100000 in
theorem rk_193 : code_193.all (rowOk 193) = true := by decide +kernel
set_option maxRecDepth 100000 in
theorem rk_194 : code_194.all (rowOk 194) = true := by decide +kernel
set_option maxRecDepth 100000 in
theorem rk_195 : code_195.all (rowOk 195) = true := by decide +kernel
set_option maxRecDepth 100000 in
theorem rk_196 : code_196.all (rowOk 196) = true := by decide +kernel
set_option maxRecDepth 100000 in
theorem rk_197 : code_197.all (rowOk 197) = true := by decide +kernel
set_option maxRecDepth 100000 in
theorem rk_198 : code_198.all (rowOk 198) = true := by decide +kernel
set_option maxRecDepth 100000 in
theorem rk_199 : code_199.all (rowOk 199) = true := by decide +kernel
set_option maxRecDepth 100000 in
theorem rk_200 : code_200.all (rowOk 200) = true := by decide +kernel
set_option maxRecDepth 100000 in
theorem rk_201 : code_201.all (rowOk 201) = true := by decide +kernel
set_option maxRecDepth 100000 in
theorem rk_202 : code_202.all (rowOk 202) = true := by decide +kernel
set_option maxRecDepth 100000 in
theorem rk_203 : code_203.all (rowOk 203) = true := by decide +kernel
set_option maxRecDepth 100000 in
theorem rk_204 : code_204.all (rowOk 204) = true := by decide +kernel
set_option maxRecDepth 100000 in
theorem rk_205 : code_205.all (rowOk 205) = true := by decide +kernel
set_option maxRecDepth 100000 in
theorem rk_206 : code_206.all (rowOk 206) = true := by decide +kernel
set_option maxRecDepth 100000 in
theorem rk_207 : code_207.all (rowOk 207) = true := by decide +kernel
set_option maxRecDepth 100000 in
theorem rk_208 : code_208.all (rowOk 208) = true := by decide +kernel
set_option maxRecDepth 100000 in
theorem rk_209 : code_209.all (rowOk 209) = true := by decide +kernel
set_option maxRecDepth 100000 in
theorem rk_210 : code_210.all (rowOk 210) = true := by decide +kernel
set_option maxRecDepth 100000 in
theorem rk_211 : code_211.all (rowOk 211) = true := by decide +kernel
set_option maxRecDepth 100000 in
theorem rk_212 : code_212.all (rowOk 212) = true := by decide +kernel
set_option maxRecDepth 100000 in
theorem rk_213 : code_213.all (rowOk 213) = true := by decide +kernel
set_option maxRecDepth 100000 in
theorem rk_214 : code_214.all (rowOk 214) = true := by decide +kernel
set_option maxRecDepth 100000 in
theorem rk_215 : code_215.all (rowOk 215) = true := by decide +kernel
set_option maxRecDepth 100000 in
theorem rk_216 : code_216.all (rowOk 216) = true := by decide +kernel
set_option maxRecDepth 100000 in
theorem rk_217 : code_217.all (rowOk 217) = true := by decide +kernel
set_option maxRecDepth 100000 in
theorem rk_218 : code_218.all (rowOk 218) = true := by decide +kernel
set_option maxRecDepth 100000 in
theorem rk_219 : code_219.all (rowOk 219) = true := by decide +kernel
set_option maxRecDepth 100000 in
theorem rk_220 : code_220.all (rowOk 220) = true := by decide +kernel
set_option maxRecDepth 100000 in
theorem rk_221 : code_221.all (rowOk 221) = true := by decide +kernel
set_option maxRecDepth 100000 in
theorem rk_222 : code_222.all (rowOk 222) = true := by decide +kernel
set_option maxRecDepth 100000 in
theorem rk_223 : code_223.all (rowOk 223) = true := by decide +kernel
set_option maxRecDepth 100000 in
theorem rk_224 : code_224.all (rowOk 224) = true := by decide +kernel
set_option maxRecDepth 100000 in
theorem rk_225 : code_225.all (rowOk 225) = true := by decide +kernel
set_option maxRecDepth 100000 in
theorem rk_226 : code_226.all (rowOk 226) = true := by decide +kernel
set_option maxRecDepth 100000 in
theorem rk_227 : code_227.all (rowOk 227) = true := by decide +kernel
set_option maxRecDepth 100000 in
theorem rk_228 : code_228.all (rowOk 228) = true := by decide +kernel
set_option maxRecDepth 100000 in
theorem rk_229 : code_229.all (rowOk 229) = true := by decide +kernel
set_option maxRecDepth 100000 in
theorem rk_230 : code_230.all (rowOk 230) = true := by decide +kernel
set_option maxRecDepth 100000 in
theorem rk_231 : code_231.all (rowOk 231) = true := by decide +kernel
set_option maxRecDepth 100000 in
theorem rk_232 : code_232.all (rowOk 232) = true := by decide +kernel
set_option maxRecDepth 100000 in
theorem rk_233 : code_233.all (rowOk 233) = true := by decide +kernel
set_option maxRecDepth 100000 in
theorem rk_234 : code_234.all (rowOk 234) = true := by decide +kernel
set_option maxRecDepth 100000 in
theorem rk_235 : code_235.all (rowOk 235) = true := by decide +kernel
set_option maxRecDepth 100000 in
theorem rk_236 : code_236.all (rowOk 236) = true := by decide +kernel
set_option maxRecDepth 100000 in
theorem rk_237 : code_237.all (rowOk 237) = true := by decide +kernel
set_option maxRecDepth 100000 in
theorem rk_238 : code_238.all (rowOk 238) = true := by decide +kernel
set_option maxRecDepth 100000 in
theorem rk_239 : code_239.all (rowOk 239) = true := by decide +kernel
set_option maxRecDepth 100000 in
theorem rk_240 : code_240.all (rowOk 240) = true := by decide +kernel
set_option maxRecDepth 100000 in
theorem rk_241 : code_241.all (rowOk 241) = true := by decide +kernel
set_option maxRecDepth 100000 in
theorem rk_242 : code_242.all (rowOk 242) = true := by decide +kernel
set_option maxRecDepth 100000 in
theorem rk_243 : code_243.all (rowOk 243) = true := by decide +kernel
set_option maxRecDepth 100000 in
theorem rk_244 : code_244.all (rowOk 244) = true := by decide +kernel
set_option maxRecDepth 100000 in
theorem rk_245 : code_245.all (rowOk 245) = true := by decide +kernel
set_option maxRecDepth 100000 in
theorem rk_246 : code_246.all (rowOk 246) = true := by decide +kernel
set_option maxRecDepth 100000 in
theorem rk_247 : code_247.all (rowOk 247) = true := by decide +kernel
set_option maxRecDepth 100000 in
theorem rk_248 : code_248.all (rowOk 248) = true := by decide +kernel
set_option maxRecDepth 100000 in
theorem rk_249 : code_249.all (rowOk 249) = true := by decide +kernel
set_option maxRecDepth 100000 in
theorem rk_250 : code_250.all (rowOk 250) = true := by decide +kernel
set_option maxRecDepth 100000 in
theorem rk_251 : code_251.all (rowOk 251) = true := by decide +kernel
set_option maxRecDepth 100000 in
theorem rk_252 : code_252.all (rowOk 252) = true := by decide +kernel
set_option maxRecDepth 100000 in
theorem rk_253 : code_253.all (rowOk 253) = true := by decide +kernel
set_option maxRecDepth 100000 in
theorem rk_254 : code_254.all (rowOk 254) = true := by decide +kernel
set_option maxRecDepth 100000 in
theorem rk_255 : code_255.all (rowOk 255) = true := by decide +kernel
set_option maxRecDepth 100000 in
theorem rk_256 : code_256.all (rowOk 256) = true := by decide +kernel
set_option maxRecDepth 100000 in
theorem rk_257 : code_257.all (rowOk 257) = true := by decide +kernel
set_option maxRecDepth 100000 in
theorem rk_258 : code_258.all (rowOk 258) = true := by decide +kernel
set_option maxRecDepth 100000 in
theorem rk_259 : code_259.all (rowOk 259) = true := by decide +kernel
set_option maxRecDepth 100000 in
theorem rk_260 : code_260.all (rowOk 260) = true := by decide +kernel
set_option maxRecDepth 100000 in
theorem rk_261 : code_261.all (rowOk 261) = true := by decide +kernel
set_option maxRecDepth 100000 in
theorem rk_262 : code_262.all (rowOk 262) = true := by decide +kernel
set_option maxRecDepth 100000 in
theorem rk_263 : code_263.all (rowOk 263) = true := by decide +kernel
set_option maxRecDepth 100000 in
theorem rk_264 : code_264.all (rowOk 264) = true := by decide +kernel
set_option maxRecDepth 100000 in
theorem rk_265 : code_265.all (rowOk 265) = true := by decide +kernel
set_option maxRecDepth 100000 in
theorem rk_266 : code_266.all (rowOk 266) = true := by decide +kernel
set_option maxRecDepth 100000 in
theorem rk_267 : code_267.all (rowOk 267) = true := by decide +kernel
set_option maxRecDepth 100000 in
theorem rk_268 : code_268.all (rowOk 268) = true := by decide +kernel
set_option maxRecDepth 100000 in
theorem rk_269 : code_269.all (rowOk 269) = true := by decide +kernel
set_option maxRecDepth 100000 in
theorem rk_270 : code_270.all (rowOk 270) = true := by decide +kernel
set_option maxRecDepth 100000 in
theorem rk_271 : code_271.all (rowOk 271) = true := by decide +kernel
set_option maxRecDepth 100000 in
theorem rk_272 : code_272.all (rowOk 272) = true := by decide +kernel
set_option maxRecDepth 100000 in
theorem rk_273 : code_273.all (rowOk 273) = true := by decide +kernel
set_option maxRecDepth 100000 in
theorem rk_274 : code_274.all (rowOk 274) = true := by decide +kernel
set_option maxRecDepth 100000 in
theorem rk_275 : code_275.all (rowOk 275) = true := by decide +kernel
set_option maxRecDepth 100000 in
theorem rk_276 : code_276.all (rowOk 276) = true := by decide +kernel
set_option maxRecDepth 100000 in
theorem rk_277 : code_277.all (rowOk 277) = true := by decide +kernel
set_option maxRecDepth 100000 in
theorem rk_278 : code_278.all (rowOk 278) = true := by decide +kernel
set_option maxRecDepth 100000 in
theorem rk_279 : code_279.all (rowOk 279) = true := by decide +kernel
set_option maxRecDepth 100000 in
theorem rk_280 : code_280.all (rowOk 280) = true := by decide +kernel
set_option maxRecDepth 100000 in
theorem rk_281 : code_281.all (rowOk 281) = true := by decide +kernel
set_option maxRecDepth 100000 in
theorem rk_282 : code_282.all (rowOk 282) = true := by decide +kernel
set_option maxRecDepth 100000 in
theorem rk_283 : code_283.all (rowOk 283) = true := by decide +kernel
set_option maxRecDepth 100000 in
theorem rk_284 : code_284.all (rowOk 284) = true := by decide +kernel
set_option maxRecDepth 100000 in
theorem rk_285 : code_285.all (rowOk 285) = true := by decide +kernel
set_option maxRecDepth 100000 in
theorem rk_286 : code_286.all (rowOk 286) = true := by decide +kernel
set_option maxRecDepth 100000 in
theorem rk_287 : code_287.all (rowOk 287) = true := by decide +kernel
set_option maxRecDepth 100000 in
theorem rk_288 : code_288.all (rowOk 288) = true := by decide +kernel
set_option maxRecDepth 100000 in
theorem rk_289 : code_289.all (rowOk 289) = true := by decide +kernel
set_option maxRecDepth 100000 in
theorem rk_290 : code_290.all (rowOk 290) = true := by decide +kernel
set_option maxRecDepth 100000 in
theorem rk_291 : code_291.all (rowOk 291) = true := by decide +kernel
set_option maxRecDepth 100000 in
theorem rk_292 : code_292.all (rowOk 292) = true := by decide +kernel
set_option maxRecDepth 100000 in
theorem rk_293 : code_293.all (rowOk 293) = true := by decide +kernel
set_option maxRecDepth 100000 in
theorem rk_294 : code_294.all (rowOk 294) = true := by decide +kernel
set_option maxRecDepth 100000 in
theorem rk_295 : code_295.all (rowOk 295) = true := by decide +kernel
set_option maxRecDepth 100000 in
theorem rk_296 : code_296.all (rowOk 296) = true := by decide +kernel
set_option maxRecDepth 100000 in
theorem rk_297 : code_297.all (rowOk 297) = true := by decide +kernel
set_option maxRecDepth 100000 in
theorem rk_298 : code_298.all (rowOk 298) = true := by decide +kernel
set_option maxRecDepth 100000 in
theorem rk_299 : code_299.all (rowOk 299) = true := by decide +kernel
set_option maxRecDepth 100000 in
theorem rk_300 : code_300.all (rowOk 300) = true := by decide +kernel
set_option maxRecDepth 100000 in
theorem rk_301 : code_301.all (rowOk 301) = true := by decide +kernel
set_option maxRecDepth 100000 in
theorem rk_302 : code_302.all (rowOk 302) = true := by decide +kernel
set_option maxRecDepth 100000 in
theorem rk_303 : code_303.all (rowOk 303) = true := by decide +kernel
set_option maxRecDepth 100000 in
theorem rk_304 : code_304.all (rowOk 304) = true := by decide +kernel
set_option maxRecDepth 100000 in
theorem rk_305 : code_305.all (rowOk 305) = true := by decide +kernel
set_option maxRecDepth 100000 in
theorem rk_306 : code_306.all (rowOk 306) = true := by decide +kernel
set_option maxRecDepth 100000 in
theorem rk_307 : code_307.all (rowOk 307) = true := by decide +kernel
set_option maxRecDepth 100000 in
theorem rk_308 : code_308.all (rowOk 308) = true := by decide +kernel
set_option maxRecDepth 100000 in
theorem rk_309 : code_309.all (rowOk 309) = true := by decide +kernel
set_option maxRecDepth 100000 in
theorem rk_310 : code_310.all (rowOk 310) = true := by decide +kernel
set_option maxRecDepth 100000 in
theorem rk_311 : code_311.all (rowOk 311) = true := by decide +kernel
set_option maxRecDepth 100000 in
theorem rk_312 : code_312.all (rowOk 312) = true := by decide +kernel
set_option maxRecDepth 100000 in
theorem rk_313 : code_313.all (rowOk 313) = true := by decide +kernel
set_option maxRecDepth 100000 in
theorem rk_314 : code_314.all (rowOk 314) = true := by decide +kernel
set_option maxRecDepth 100000 in
theorem rk_315 : code_315.all (rowOk 315) = true := by decide +kernel
set_option maxRecDepth 100000 in
theorem rk_316_0 : code_316_0.all (rowOk 316) = true := by decide +kernel
set_option maxRecDepth 100000 in
theorem rk_316_1 : code_316_1.all (rowOk 316) = true := by decide +kernel
set_option maxRecDepth 100000 in
theorem rk_316_2 : code_316_2.all (rowOk 316) = true := by decide +kernel
set_option maxRecDepth 100000 in
theorem rk_316_3 : code_316_3.all (rowOk 316) = true := by decide +kernel
set_option maxRecDepth 100000 in
theorem rk_316_4 : code_316_4.all (rowOk 316) = true := by decide +kernel
set_option maxRecDepth 100000 in
theorem rk_316_5 : code_316_5.all (rowOk 316) = true := by decide +kernel
set_option maxRecDepth 100000 in
theorem rk_316_6 : code_316_6.all (rowOk 316) = true := by decide +kernel
set_option maxRecDepth 100000 in
theorem rk_316_7 : code_316_7.all (rowOk 316) = true := by decide +kernel
set_option maxRecDepth 100000 in
theorem rk_316_8 : code_316_8.all (rowOk 316) = true := by decide +kernel
set_option maxRecDepth 100000 in
theorem rk_316_9 : code_316_9.all (rowOk 316) = true := by decide +kernel
set_option maxRecDepth 100000 in
theorem rk_316_10 : code_316_10.all (rowOk 316) = true := by decide +kernel
set_option maxRecDepth 100000 in
theorem rk_316_11 : code_316_11.all (rowOk 316) = true := by decide +kernel
set_option maxRecDepth 100000 in
theorem rk_316_12 : code_316_12.all (rowOk 316) = true := by decide +kernel
set_option maxRecDepth 100000 in
theorem rk_316_13 : code_316_13.all (rowOk 316) = true := by decide +kernel
set_option maxRecDepth 100000 in
theorem rk_316_14 : code_316_14.all (rowOk 316) = true := by decide +kernel
set_option maxRecDepth 100000 in
theorem rk_316_15 : code_316_15.all (rowOk 316) = true := by decide +kernel
set_option maxRecDepth 100000 in
theorem rk_316_16 : code_316_16.all (rowOk 316) = true := by decide +kernel
set_option maxRecDepth 100000 in
theorem rk_316_17 : code_316_17.all (rowOk 316) = true := by decide +kernel
set_option maxRecDepth 100000 in
theorem rk_316_18 : code_316_18.all (rowOk 316) = true := by decide +kernel
set_option maxRecDepth 100000 in
theorem rk_316_19 : code_316_19.all (rowOk 316) = true := by decide +kernel
set_option maxRecDepth 100000 in
theorem rk_316_20 : code_316_20.all (rowOk 316) = true := by decide +kernel
set_option maxRecDepth 100000 in
theorem rk_316_21 : code_316_21.all (rowOk 316) = true := by decide +kernel
set_option maxRecDepth 100000 in
theorem rk_316_22 : code_316_22.all (rowOk 316) = true := by decide +kernel
set_option maxRecDepth 100000 in
theorem rk_316_23 : code_316_23.all (rowOk 316) = true := by decide +kernel
set_option maxRecDepth 100000 in
theorem rk_316_24 : code_316_24.all (rowOk 316) = true := by decide +kernel
set_option maxRecDepth 100000 in
theorem rk_316_25 : code_316_25.all (rowOk 316) = true := by decide +kernel
set_option maxRecDepth 100000 in
theorem rk_316_26 : code_316_26.all (rowOk 316) = true := by decide +kernel
set_option maxRecDepth 100000 in
theorem rk_316_27 : code_316_27.all (rowOk 316) = true := by decide +kernel
set_option maxRecDepth 100000 in
theorem rk_316_28 : code_316_28.all (rowOk 316) = true := by decide +kernel
set_option maxRecDepth 100000 in
theorem rk_316_29 : code_316_29.all (rowOk 316) = true := by decide +kernel
theorem rk_316 : code_316.all (rowOk 316) = true := by
  unfold code_316
  simp only [List.all_append, Bool.and_eq_true]
  exact ⟨rk_316_0, rk_316_1, rk_316_2, rk_316_3, rk_316_4, rk_316_5, rk_316_6, rk_316_7, rk_316_8, rk_316_9, rk_316_10, rk_316_11, rk_316_12, rk_316_13, rk_316_14, rk_316_15, rk_316_16, rk_316_17, rk_316_18, rk_316_19, rk_316_20, rk_316_21, rk_316_22, rk_316_23, rk_316_24, rk_316_25, rk_316_26, rk_316_27, rk_316_28, rk_316_29⟩
set_option maxRecDepth 100000 in
theorem rk_317 : code_317.all (rowOk 317) = true := by decide +kernel
set_option maxRecDepth 100000 in
theorem rk_318 : code_318.all (rowOk 318) = true := by decide +kernel
set_option maxRecDepth 100000 in
theorem rows_all : ROWS := fun k hk => ((Nat.lt_or_ge k 159).elim (fun a0 => ((Nat.lt_or_ge k 79).elim (fun a1 => ((Nat.lt_or_ge k 39).elim (fun a2 => ((Nat.lt_or_ge k 19).elim (fun a3 => ((Nat.lt_or_ge k 9).elim (fun a4 => ((Nat.lt_or_ge k 4).elim (fun a5 => ((Nat.lt_or_ge k 2).elim (fun a6 => ((Nat.lt_or_ge k 1).elim (fun a7 => Eq.subst (motive := fun k => (codeT k).all (rowOk k) = true) (Nat.le_antisymm (Nat.le_of_lt_succ a7) (Nat.zero_le k)).symm rk_0) (fun b7 => Eq.subst (motive := fun k => (codeT k).all (rowOk k) = true) (Nat.le_antisymm (Nat.le_of_lt_succ a6) b7).symm rk_1))) (fun b6 => ((Nat.lt_or_ge k 3).elim (fun a7 => Eq.subst (motive := fun k => (codeT k).all (rowOk k) = true) (Nat.le_antisymm (Nat.le_of_lt_succ a7) b6).symm rk_2) (fun b7 => Eq.subst (motive := fun k => (codeT k).all (rowOk k) = true) (Nat.le_antisymm (Nat.le_of_lt_succ a5) b7).symm rk_3))))) (fun b5 => ((Nat.lt_or_ge k 6).elim (fun a6 => ((Nat.lt_or_ge k 5).elim (fun a7 => Eq.subst (motive := fun k => (codeT k).all (rowOk k) = true) (Nat.le_antisymm (Nat.le_of_lt_succ a7) b5).symm rk_4) (fun b7 => Eq.subst (motive := fun k => (codeT k).all (rowOk k) = true) (Nat.le_antisymm (Nat.le_of_lt_succ a6) b7).symm rk_5))) (fun b6 => ((Nat.lt_or_ge k 7).elim (fun a7 => Eq.subst (motive := fun k => (codeT k).all (rowOk k) = true) (Nat.le_antisymm (Nat.le_of_lt_succ a7) b6).symm rk_6) (fun b7 => ((Nat.lt_or_ge k 8).elim (fun a8 => Eq.subst (motive := fun k => (codeT k).all (rowOk k) = true) (Nat.le_antisymm (Nat.le_of_lt_succ a8) b7).symm rk_7) (fun b8 => Eq.subst (motive := fun k => (codeT k).all (rowOk k) = true) (Nat.le_antisymm (Nat.le_of_lt_succ a4) b8).symm rk_8))))))))) (fun b4 => ((Nat.lt_or_ge k 14).elim (fun a5 => ((Nat.lt_or_ge k 11).elim (fun a6 => ((Nat.lt_or_ge k 10).elim (fun a7 => Eq.subst (motive := fun k => (codeT k).all (rowOk k) = true) (Nat.le_antisymm (Nat.le_of_lt_succ a7) b4).symm rk_9) (fun b7 => Eq.subst (motive := fun k => (codeT k).all (rowOk k) = true) (Nat.le_antisymm (Nat.le_of_lt_succ a6) b7).symm rk_10))) (fun b6 => ((Nat.lt_or_ge k 12).elim (fun a7 => Eq.subst (motive := fun k => (codeT k).all (rowOk k) = true) (Nat.le_antisymm (Nat.le_of_lt_succ a7) b6).symm rk_11) (fun b7 => ((Nat.lt_or_ge k 13).elim (fun a8 => Eq.subst (motive := fun k => (codeT k).all (rowOk k) = true) (Nat.le_antisymm (Nat.le_of_lt_succ a8) b7).symm rk_12) (fun b8 => Eq.subst (motive := fun k => (codeT k).all (rowOk k) = true) (Nat.le_antisymm (Nat.le_of_lt_succ a5) b8).symm rk_13))))))) (fun b5 => ((Nat.lt_or_ge k 16).elim (fun a6 => ((Nat.lt_or_ge k 15).elim (fun a7 => Eq.subst (motive := fun k => (codeT k).all (rowOk k) = true) (Nat.le_antisymm (Nat.le_of_lt_succ a7) b5).symm rk_14) (fun b7 => Eq.subst (motive := fun k => (codeT k).all (rowOk k) = true) (Nat.le_antisymm (Nat.le_of_lt_succ a6) b7).symm rk_15))) (fun b6 => ((Nat.lt_or_ge k 17).elim (fun a7 => Eq.subst (motive := fun k => (codeT k).all (rowOk k) = true) (Nat.le_antisymm (Nat.le_of_lt_succ a7) b6).symm rk_16) (fun b7 => ((Nat.lt_or_ge k 18).elim (fun a8 => Eq.subst (motive := fun k => (codeT k).all (rowOk k) = true) (Nat.le_antisymm (Nat.le_of_lt_succ a8) b7).symm rk_17) (fun b8 => Eq.subst (motive := fun k => (codeT k).all (rowOk k) = true) (Nat.le_antisymm (Nat.le_of_lt_succ a3) b8).symm rk_18))))))))))) (fun b3 => ((Nat.lt_or_ge k 29).elim (fun a4 => ((Nat.lt_or_ge k 24).elim (fun a5 => ((Nat.lt_or_ge k 21).elim (fun a6 => ((Nat.lt_or_ge k 20).elim (fun a7 => Eq.subst (motive := fun k => (codeT k).all (rowOk k) = true) (Nat.le_antisymm (Nat.le_of_lt_succ a7) b3).symm rk_19) (fun b7 => Eq.subst (motive := fun k => (codeT k).all (rowOk k) = true) (Nat.le_antisymm (Nat.le_of_lt_succ a6) b7).symm rk_20))) (fun b6 => ((Nat.lt_or_ge k 22).elim (fun a7 => Eq.subst (motive := fun k => (codeT k).all (rowOk k) = true) (Nat.le_antisymm (Nat.le_of_lt_succ a7) b6).symm rk_21) (fun b7 => ((Nat.lt_or_ge k 23).elim (fun a8 => Eq.subst (motive := fun k => (codeT k).all (rowOk k) = true) (Nat.le_antisymm (Nat.le_of_lt_succ a8) b7).symm rk_22) (fun b8 => Eq.subst (motive := fun k => (codeT k).all (rowOk k) = true) (Nat.le_antisymm (Nat.le_of_lt_succ a5) b8).symm rk_23))))))) (fun b5 => ((Nat.lt_or_ge k 26).elim (fun a6 => ((Nat.lt_or_ge k 25).elim (fun a7 => Eq.subst (motive := fun k => (codeT k).all (rowOk k) = true) (Nat.le_antisymm (Nat.le_of_lt_succ a7) b5).symm rk_24) (fun b7 => Eq.subst (motive := fun k => (codeT k).all (rowOk k) = true) (Nat.le_antisymm (Nat.le_of_lt_succ a6) b7).symm rk_25))) (fun b6 => ((Nat.lt_or_ge k 27).elim (fun a7 => Eq.subst (motive := fun k => (codeT k).all (rowOk k) = true) (Nat.le_antisymm (Nat.le_of_lt_succ a7) b6).symm rk_26) (fun b7 => ((Nat.lt_or_ge k 28).elim (fun a8 => Eq.subst (motive := fun k => (codeT k).all (rowOk k) = true) (Nat.le_antisymm (Nat.le_of_lt_succ a8) b7).symm rk_27) (fun b8 => Eq.subst (motive := fun k => (codeT k).all (rowOk k) = true) (Nat.le_antisymm (Nat.le_of_lt_succ a4) b8).symm rk_28))))))))) (fun b4 => ((Nat.lt_or_ge k 34).elim (fun a5 => ((Nat.lt_or_ge k 31).elim (fun a6 => ((Nat.lt_or_ge k 30).elim (fun a7 => Eq.subst (motive := fun k => (codeT k).all (rowOk k) = true) (Nat.le_antisymm (Nat.le_of_lt_succ a7) b4).symm rk_29) (fun b7 => Eq.subst (motive := fun k => (codeT k).all (rowOk k) = true) (Nat.le_antisymm (Nat.le_of_lt_succ a6) b7).symm rk_30))) (fun b6 => ((Nat.lt_or_ge k 32).elim (fun a7 => Eq.subst (motive := fun k => (codeT k).all (rowOk k) = true) (Nat.le_antisymm (Nat.le_of_lt_succ a7) b6).symm rk_31) (fun b7 => ((Nat.lt_or_ge k 33).elim (fun a8 => Eq.subst (motive := fun k => (codeT k).all (rowOk k) = true) (Nat.le_antisymm (Nat.le_of_lt_succ a8) b7).symm rk_32) (fun b8 => Eq.subst (motive := fun k => (codeT k).all (rowOk k) = true) (Nat.le_antisymm (Nat.le_of_lt_succ a5) b8).symm rk_33))))))) (fun b5 => ((Nat.lt_or_ge k 36).elim (fun a6 => ((Nat.lt_or_ge k 35).elim (fun a7 => Eq.subst (motive := fun k => (codeT k).all (rowOk k) = true) (Nat.le_antisymm (Nat.le_of_lt_succ a7) b5).symm rk_34) (fun b7 => Eq.subst (motive := fun k => (codeT k).all (rowOk k) = true) (Nat.le_antisymm (Nat.le_of_lt_succ a6) b7).symm rk_35))) (fun b6 => ((Nat.lt_or_ge k 37).elim (fun a7 => Eq.subst (motive := fun k => (codeT k).all (rowOk k) = true) (Nat.le_antisymm (Nat.le_of_lt_succ a7) b6).symm rk_36) (fun b7 => ((Nat.lt_or_ge k 38).elim (fun a8 => Eq.subst (motive := fun k => (codeT k).all (rowOk k) = true) (Nat.le_antisymm (Nat.le_of_lt_succ a8) b7).symm rk_37) (fun b8 => Eq.subst (motive := fun k => (codeT k).all (rowOk k) = true) (Nat.le_antisymm (Nat.le_of_lt_succ a2) b8).symm rk_38))))))))))))) (fun b2 => ((Nat.lt_or_ge k 59).elim (fun a3 => ((Nat.lt_or_ge k 49).elim (fun a4 => ((Nat.lt_or_ge k 44).elim (fun a5 => ((Nat.lt_or_ge k 41).elim (fun a6 => ((Nat.lt_or_ge k 40).elim (fun a7 => Eq.subst (motive := fun k => (codeT k).all (rowOk k) = true) (Nat.le_antisymm (Nat.le_of_lt_succ a7) b2).symm rk_39) (fun b7 => Eq.subst (motive := fun k => (codeT k).all (rowOk k) = true) (Nat.le_antisymm (Nat.le_of_lt_succ a6) b7).symm rk_40))) (fun b6 => ((Nat.lt_or_ge k 42).elim (fun a7 => Eq.subst (motive := fun k => (codeT k).all (rowOk k) = true) (Nat.le_antisymm (Nat.le_of_lt_succ a7) b6).symm rk_41) (fun b7 => ((Nat.lt_or_ge k 43).elim (fun a8 => Eq.subst (motive := fun k => (codeT k).all (rowOk k) = true) (Nat.le_antisymm (Nat.le_of_lt_succ a8) b7).symm rk_42) (fun b8 => Eq.subst (motive := fun k => (codeT k).all (rowOk k) = true) (Nat.le_antisymm (Nat.le_of_lt_succ a5) b8).symm rk_43))))))) (fun b5 => ((Nat.lt_or_ge k 46).elim (fun a6 => ((Nat.lt_or_ge k 45).elim (fun a7 => Eq.subst (motive := fun k => (codeT k).all (rowOk k) = true) (Nat.le_antisymm (Nat.le_of_lt_succ a7) b5).symm rk_44) (fun b7 => Eq.subst (motive := fun k => (codeT k).all (rowOk k) = true) (Nat.le_antisymm (Nat.le_of_lt_succ a6) b7).symm rk_45))) (fun b6 => ((Nat.lt_or_ge k 47).elim (fun a7 => Eq.subst (motive := fun k => (codeT k).all (rowOk k) = true) (Nat.le_antisymm (Nat.le_of_lt_succ a7) b6).symm rk_46) (fun b7 => ((Nat.lt_or_ge k 48).elim (fun a8 => Eq.subst (motive := fun k => (codeT k).all (rowOk k) = true) (Nat.le_antisymm (Nat.le_of_lt_succ a8) b7).symm rk_47) (fun b8 => Eq.subst (motive := fun k => (codeT k).all (rowOk k) = true) (Nat.le_antisymm (Nat.le_of_lt_succ a4) b8).symm rk_48))))))))) (fun b4 => ((Nat.lt_or_ge k 54).elim (fun a5 => ((Nat.lt_or_ge k 51).elim (fun a6 => ((Nat.lt_or_ge k 50).elim (fun a7 => Eq.subst (motive := fun k => (codeT k).all (rowOk k) = true) (Nat.le_antisymm (Nat.le_of_lt_succ a7) b4).symm rk_49) (fun b7 => Eq.subst (motive := fun k => (codeT k).all (rowOk k) = true) (Nat.le_antisymm (Nat.le_of_lt_succ a6) b7).symm rk_50))) (fun b6 => ((Nat.lt_or_ge k 52).elim (fun a7 => Eq.subst (motive := fun k => (codeT k).all (rowOk k) = true) (Nat.le_antisymm (Nat.le_of_lt_succ a7) b6).symm rk_51) (fun b7 => ((Nat.lt_or_ge k 53).elim (fun a8 => Eq.subst (motive := fun k => (codeT k).all (rowOk k) = true) (Nat.le_antisymm (Nat.le_of_lt_succ a8) b7).symm rk_52) (fun b8 => Eq.subst (motive := fun k => (codeT k).all (rowOk k) = true) (Nat.le_antisymm (Nat.le_of_lt_succ a5) b8).symm rk_53))))))) (fun b5 => ((Nat.lt_or_ge k 56).elim (fun a6 => ((Nat.lt_or_ge k 55).elim (fun a7 => Eq.subst (motive := fun k => (codeT k).all (rowOk k) = true) (Nat.le_antisymm (Nat.le_of_lt_succ a7) b5).symm rk_54) (fun b7 => Eq.subst (motive := fun k => (codeT k).all (rowOk k) = true) (Nat.le_antisymm (Nat.le_of_lt_succ a6) b7).symm rk_55))) (fun b6 => ((Nat.lt_or_ge k 57).elim (fun a7 => Eq.subst (motive := fun k => (codeT k).all (rowOk k) = true) (Nat.le_antisymm (Nat.le_of_lt_succ a7) b6).symm rk_56) (fun b7 => ((Nat.lt_or_ge k 58).elim (fun a8 => Eq.subst (motive := fun k => (codeT k).all (rowOk k) = true) (Nat.le_antisymm (Nat.le_of_lt_succ a8) b7).symm rk_57) (fun b8 => Eq.subst (motive := fun k => (codeT k).all (rowOk k) = true) (Nat.le_antisymm (Nat.le_of_lt_succ a3) b8).symm rk_58))))))))))) (fun b3 => ((Nat.lt_or_ge k 69).elim (fun a4 => ((Nat.lt_or_ge k 64).elim (fun a5 => ((Nat.lt_or_ge k 61).elim (fun a6 => ((Nat.lt_or_ge k 60).elim (fun a7 => Eq.subst (motive := fun k => (codeT k).all (rowOk k) = true) (Nat.le_antisymm (Nat.le_of_lt_succ a7) b3).symm rk_59) (fun b7 => Eq.subst (motive := fun k => (codeT k).all (rowOk k) = true) (Nat.le_antisymm (Nat.le_of_lt_succ a6) b7).symm rk_60))) (fun b6 => ((Nat.lt_or_ge k 62).elim (fun a7 => Eq.subst (motive := fun k => (codeT k).all (rowOk k) = true) (Nat.le_antisymm (Nat.le_of_lt_succ a7) b6).symm rk_61) (fun b7 => ((Nat.lt_or_ge k 63).elim (fun a8 => Eq.subst (motive := fun k => (codeT k).all (rowOk k) = true) (Nat.le_antisymm (Nat.le_of_lt_succ a8) b7).symm rk_62) (fun b8 => Eq.subst (motive := fun k => (codeT k).all (rowOk k) = true) (Nat.le_antisymm (Nat.le_of_lt_succ a5) b8).symm rk_63))))))) (fun b5 => ((Nat.lt_or_ge k 66).elim (fun a6 => ((Nat.lt_or_ge k 65).elim (fun a7 => Eq.subst (motive := fun k => (codeT k).all (rowOk k) = true) (Nat.le_antisymm (Nat.le_of_lt_succ a7) b5).symm rk_64) (fun b7 => Eq.subst (motive := fun k => (codeT k).all (rowOk k) = true) (Nat.le_antisymm (Nat.le_of_lt_succ a6) b7).symm rk_65))) (fun b6 => ((Nat.lt_or_ge k 67).elim (fun a7 => Eq.subst (motive := fun k => (codeT k).all (rowOk k) = true) (Nat.le_antisymm (Nat.le_of_lt_succ a7) b6).symm rk_66) (fun b7 => ((Nat.lt_or_ge k 68).elim (fun a8 => Eq.subst (motive := fun k => (codeT k).all (rowOk k) = true) (Nat.le_antisymm (Nat.le_of_lt_succ a8) b7).symm rk_67) (fun b8 => Eq.subst (motive := fun k => (codeT k).all (rowOk k) = true) (Nat.le_antisymm (Nat.le_of_lt_succ a4) b8).symm rk_68))))))))) (fun b4 => ((Nat.lt_or_ge k 74).elim (fun a5 => ((Nat.lt_or_ge k 71).elim (fun a6 => ((Nat.lt_or_ge k 70).elim (fun a7 => Eq.subst (motive := fun k => (codeT k).all (rowOk k) = true) (Nat.le_antisymm (Nat.le_of_lt_succ a7) b4).symm rk_69) (fun b7 => Eq.subst (motive := fun k => (codeT k).all (rowOk k) = true) (Nat.le_antisymm (Nat.le_of_lt_succ a6) b7).symm rk_70))) (fun b6 => ((Nat.lt_or_ge k 72).elim (fun a7 => Eq.subst (motive := fun k => (codeT k).all (rowOk k) = true) (Nat.le_antisymm (Nat.le_of_lt_succ a7) b6).symm rk_71) (fun b7 => ((Nat.lt_or_ge k 73).elim (fun a8 => Eq.subst (motive := fun k => (codeT k).all (rowOk k) = true) (Nat.le_antisymm (Nat.le_of_lt_succ a8) b7).symm rk_72) (fun b8 => Eq.subst (motive := fun k => (codeT k).all (rowOk k) = true) (Nat.le_antisymm (Nat.le_of_lt_succ a5) b8).symm rk_73))))))) (fun b5 => ((Nat.lt_or_ge k 76).elim (fun a6 => ((Nat.lt_or_ge k 75).elim (fun a7 => Eq.subst (motive := fun k => (codeT k).all (rowOk k) = true) (Nat.le_antisymm (Nat.le_of_lt_succ a7) b5).symm rk_74) (fun b7 => Eq.subst (motive := fun k => (codeT k).all (rowOk k) = true) (Nat.le_antisymm (Nat.le_of_lt_succ a6) b7).symm rk_75))) (fun b6 => ((Nat.lt_or_ge k 77).elim (fun a7 => Eq.subst (motive := fun k => (codeT k).all (rowOk k) = true) (Nat.le_antisymm (Nat.le_of_lt_succ a7) b6).symm rk_76) (fun b7 => ((Nat.lt_or_ge k 78).elim (fun a8 => Eq.subst (motive := fun k => (codeT k).all (rowOk k) = true) (Nat.le_antisymm (Nat.le_of_lt_succ a8) b7).symm rk_77) (fun b8 => Eq.subst (motive := fun k => (codeT k).all (rowOk k) = true) (Nat.le_antisymm (Nat.le_of_lt_succ a1) b8).symm rk_78))))))))))))))) (fun b1 => ((Nat.lt_or_ge k 119).elim (fun a2 => ((Nat.lt_or_ge k 99).elim (fun a3 => ((Nat.lt_or_ge k 89).elim (fun a4 => ((Nat.lt_or_ge k 84).elim (fun a5 => ((Nat.lt_or_ge k 81).elim (fun a6 => ((Nat.lt_or_ge k 80).elim (fun a7 => Eq.subst (motive := fun k => (codeT k).all (rowOk k) = true) (Nat.le_antisymm (Nat.le_of_lt_succ a7) b1).symm rk_79) (fun b7 => Eq.subst (motive := fun k => (codeT k).all (rowOk k) = true) (Nat.le_antisymm (Nat.le_of_lt_succ a6) b7).symm rk_80))) (fun b6 => ((Nat.lt_or_ge k 82).elim (fun a7 => Eq.subst (motive := fun k => (codeT k).all (rowOk k) = true) (Nat.le_antisymm (Nat.le_of_lt_succ a7) b6).symm rk_81) (fun b7 => ((Nat.lt_or_ge k 83).elim (fun a8 => Eq.subst (motive := fun k => (codeT k).all (rowOk k) = true) (Nat.le_antisymm (Nat.le_of_lt_succ a8) b7).symm rk_82) (fun b8 => Eq.subst (motive := fun k => (codeT k).all (rowOk k) = true) (Nat.le_antisymm (Nat.le_of_lt_succ a5) b8).symm rk_83))))))) (fun b5 => ((Nat.lt_or_ge k 86).elim (fun a6 => ((Nat.lt_or_ge k 85).elim (fun a7 => Eq.subst (motive := fun k => (codeT k).all (rowOk k) = true) (Nat.le_antisymm (Nat.le_of_lt_succ a7) b5).symm rk_84) (fun b7 => Eq.subst (motive := fun k => (codeT k).all (rowOk k) = true) (Nat.le_antisymm (Nat.le_of_lt_succ a6) b7).symm rk_85))) (fun b6 => ((Nat.lt_or_ge k 87).elim (fun a7 => Eq.subst (motive := fun k => (codeT k).all (rowOk k) = true) (Nat.le_antisymm (Nat.le_of_lt_succ a7) b6).symm rk_86) (fun b7 => ((Nat.lt_or_ge k 88).elim (fun a8 => Eq.subst (motive := fun k => (codeT k).all (rowOk k) = true) (Nat.le_antisymm (Nat.le_of_lt_succ a8) b7).symm rk_87) (fun b8 => Eq.subst (motive := fun k => (codeT k).all (rowOk k) = true) (Nat.le_antisymm (Nat.le_of_lt_succ a4) b8).symm rk_88))))))))) (fun b4 => ((Nat.lt_or_ge k 94).elim (fun a5 => ((Nat.lt_or_ge k 91).elim (fun a6 => ((Nat.lt_or_ge k 90).elim (fun a7 => Eq.subst (motive := fun k => (codeT k).all (rowOk k) = true) (Nat.le_antisymm (Nat.le_of_lt_succ a7) b4).symm rk_89) (fun b7 => Eq.subst (motive := fun k => (codeT k).all (rowOk k) = true) (Nat.le_antisymm (Nat.le_of_lt_succ a6) b7).symm rk_90))) (fun b6 => ((Nat.lt_or_ge k 92).elim (fun a7 => Eq.subst (motive := fun k => (codeT k).all (rowOk k) = true) (Nat.le_antisymm (Nat.le_of_lt_succ a7) b6).symm rk_91) (fun b7 => ((Nat.lt_or_ge k 93).elim (fun a8 => Eq.subst (motive := fun k => (codeT k).all (rowOk k) = true) (Nat.le_antisymm (Nat.le_of_lt_succ a8) b7).symm rk_92) (fun b8 => Eq.subst (motive := fun k => (codeT k).all (rowOk k) = true) (Nat.le_antisymm (Nat.le_of_lt_succ a5) b8).symm rk_93))))))) (fun b5 => ((Nat.lt_or_ge k 96).elim (fun a6 => ((Nat.lt_or_ge k 95).elim (fun a7 => Eq.subst (motive := fun k => (codeT k).all (rowOk k) = true) (Nat.le_antisymm (Nat.le_of_lt_succ a7) b5).symm rk_94) (fun b7 => Eq.subst (motive := fun k => (codeT k).all (rowOk k) = true) (Nat.le_antisymm (Nat.le_of_lt_succ a6) b7).symm rk_95))) (fun b6 => ((Nat.lt_or_ge k 97).elim (fun a7 => Eq.subst (motive := fun k => (codeT k).all (rowOk k) = true) (Nat.le_antisymm (Nat.le_of_lt_succ a7) b6).symm rk_96) (fun b7 => ((Nat.lt_or_ge k 98).elim (fun a8 => Eq.subst (motive := fun k => (codeT k).all (rowOk k) = true) (Nat.le_antisymm (Nat.le_of_lt_succ a8) b7).symm rk_97) (fun b8 => Eq.subst (motive := fun k => (codeT k).all (rowOk k) = true) (Nat.le_antisymm (Nat.le_of_lt_succ a3) b8).symm rk_98))))))))))) (fun b3 => ((Nat.lt_or_ge k 109).elim (fun a4 => ((Nat.lt_or_ge k 104).elim (fun a5 => ((Nat.lt_or_ge k 101).elim (fun a6 => ((Nat.lt_or_ge k 100).elim (fun a7 => Eq.subst (motive := fun k => (codeT k).all (rowOk k) = true) (Nat.le_antisymm (Nat.le_of_lt_succ a7) b3).symm rk_99) (fun b7 => Eq.subst (motive := fun k => (codeT k).all (rowOk k) = true) (Nat.le_antisymm (Nat.le_of_lt_succ a6) b7).symm rk_100))) (fun b6 => ((Nat.lt_or_ge k 102).elim (fun a7 => Eq.subst (motive := fun k => (codeT k).all (rowOk k) = true) (Nat.le_antisymm (Nat.le_of_lt_succ a7) b6).symm rk_101) (fun b7 => ((Nat.lt_or_ge k 103).elim (fun a8 => Eq.subst (motive := fun k => (codeT k).all (rowOk k) = true) (Nat.le_antisymm (Nat.le_of_lt_succ a8) b7).symm rk_102) (fun b8 => Eq.subst (motive := fun k => (codeT k).all (rowOk k) = true) (Nat.le_antisymm (Nat.le_of_lt_succ a5) b8).symm rk_103))))))) (fun b5 => ((Nat.lt_or_ge k 106).elim (fun a6 => ((Nat.lt_or_ge k 105).elim (fun a7 => Eq.subst (motive := fun k => (codeT k).all (rowOk k) = true) (Nat.le_antisymm (Nat.le_of_lt_succ a7) b5).symm rk_104) (fun b7 => Eq.subst (motive := fun k => (codeT k).all (rowOk k) = true) (Nat.le_antisymm (Nat.le_of_lt_succ a6) b7).symm rk_105))) (fun b6 => ((Nat.lt_or_ge k 107).elim (fun a7 => Eq.subst (motive := fun k => (codeT k).all (rowOk k) = true) (Nat.le_antisymm (Nat.le_of_lt_succ a7) b6).symm rk_106) (fun b7 => ((Nat.lt_or_ge k 108).elim (fun a8 => Eq.subst (motive := fun k => (codeT k).all (rowOk k) = true) (Nat.le_antisymm (Nat.le_of_lt_succ a8) b7).symm rk_107) (fun b8 => Eq.subst (motive := fun k => (codeT k).all (rowOk k) = true) (Nat.le_antisymm (Nat.le_of_lt_succ a4) b8).symm rk_108))))))))) (fun b4 => ((Nat.lt_or_ge k 114).elim (fun a5 => ((Nat.lt_or_ge k 111).elim (fun a6 => ((Nat.lt_or_ge k 110).elim (fun a7 => Eq.subst (motive := fun k => (codeT k).all (rowOk k) = true) (Nat.le_antisymm (Nat.le_of_lt_succ a7) b4).symm rk_109) (fun b7 => Eq.subst (motive := fun k => (codeT k).all (rowOk k) = true) (Nat.le_antisymm (Nat.le_of_lt_succ a6) b7).symm rk_110))) (fun b6 => ((Nat.lt_or_ge k 112).elim (fun a7 => Eq.subst (motive := fun k => (codeT k).all (rowOk k) = true) (Nat.le_antisymm (Nat.le_of_lt_succ a7) b6).symm rk_111) (fun b7 => ((Nat.lt_or_ge k 113).elim (fun a8 => Eq.subst (motive := fun k => (codeT k).all (rowOk k) = true) (Nat.le_antisymm (Nat.le_of_lt_succ a8) b7).symm rk_112) (fun b8 => Eq.subst (motive := fun k => (codeT k).all (rowOk k) = true) (Nat.le_antisymm (Nat.le_of_lt_succ a5) b8).symm rk_113))))))) (fun b5 => ((Nat.lt_or_ge k 116).elim (fun a6 => ((Nat.lt_or_ge k 115).elim (fun a7 => Eq.subst (motive := fun k => (codeT k).all (rowOk k) = true) (Nat.le_antisymm (Nat.le_of_lt_succ a7) b5).symm rk_114) (fun b7 => Eq.subst (motive := fun k => (codeT k).all (rowOk k) = true) (Nat.le_antisymm (Nat.le_of_lt_succ a6) b7).symm rk_115))) (fun b6 => ((Nat.lt_or_ge k 117).elim (fun a7 => Eq.subst (motive := fun k => (codeT k).all (rowOk k) = true) (Nat.le_antisymm (Nat.le_of_lt_succ a7) b6).symm rk_116) (fun b7 => ((Nat.lt_or_ge k 118).elim (fun a8 => Eq.subst (motive := fun k => (codeT k).all (rowOk k) = true) (Nat.le_antisymm (Nat.le_of_lt_succ a8) b7).symm rk_117) (fun b8 => Eq.subst (motive := fun k => (codeT k).all (rowOk k) = true) (Nat.le_antisymm (Nat.le_of_lt_succ a2) b8).symm rk_118))))))))))))) (fun b2 => ((Nat.lt_or_ge k 139).elim (fun a3 => ((Nat.lt_or_ge k 129).elim (fun a4 => ((Nat.lt_or_ge k 124).elim (fun a5 => ((Nat.lt_or_ge k 121).elim (fun a6 => ((Nat.lt_or_ge k 120).elim (fun a7 => Eq.subst (motive := fun k => (codeT k).all (rowOk k) = true) (Nat.le_antisymm (Nat.le_of_lt_succ a7) b2).symm rk_119) (fun b7 => Eq.subst (motive := fun k => (codeT k).all (rowOk k) = true) (Nat.le_antisymm (Nat.le_of_lt_succ a6) b7).symm rk_120))) (fun b6 => ((Nat.lt_or_ge k 122).elim (fun a7 => Eq.subst (motive := fun k => (codeT k).all (rowOk k) = true) (Nat.le_antisymm (Nat.le_of_lt_succ a7) b6).symm rk_121) (fun b7 => ((Nat.lt_or_ge k 123).elim (fun a8 => Eq.subst (motive := fun k => (codeT k).all (rowOk k) = true) (Nat.le_antisymm (Nat.le_of_lt_succ a8) b7).symm rk_122) (fun b8 => Eq.subst (motive := fun k => (codeT k).all (rowOk k) = true) (Nat.le_antisymm (Nat.le_of_lt_succ a5) b8).symm rk_123))))))) (fun b5 => ((Nat.lt_or_ge k 126).elim (fun a6 => ((Nat.lt_or_ge k 125).elim (fun a7 => Eq.subst (motive := fun k => (codeT k).all (rowOk k) = true) (Nat.le_antisymm (Nat.le_of_lt_succ a7) b5).symm rk_124) (fun b7 => Eq.subst (motive := fun k => (codeT k).all (rowOk k) = true) (Nat.le_antisymm (Nat.le_of_lt_succ a6) b7).symm rk_125))) (fun b6 => ((Nat.lt_or_ge k 127).elim (fun a7 => Eq.subst (motive := fun k => (codeT k).all (rowOk k) = true) (Nat.le_antisymm (Nat.le_of_lt_succ a7) b6).symm rk_126) (fun b7 => ((Nat.lt_or_ge k 128).elim (fun a8 => Eq.subst (motive := fun k => (codeT k).all (rowOk k) = true) (Nat.le_antisymm (Nat.le_of_lt_succ a8) b7).symm rk_127) (fun b8 => Eq.subst (motive := fun k => (codeT k).all (rowOk k) = true) (Nat.le_antisymm (Nat.le_of_lt_succ a4) b8).symm rk_128))))))))) (fun b4 => ((Nat.lt_or_ge k 134).elim (fun a5 => ((Nat.lt_or_ge k 131).elim (fun a6 => ((Nat.lt_or_ge k 130).elim (fun a7 => Eq.subst (motive := fun k => (codeT k).all (rowOk k) = true) (Nat.le_antisymm (Nat.le_of_lt_succ a7) b4).symm rk_129) (fun b7 => Eq.subst (motive := fun k => (codeT k).all (rowOk k) = true) (Nat.le_antisymm (Nat.le_of_lt_succ a6) b7).symm rk_130))) (fun b6 => ((Nat.lt_or_ge k 132).elim (fun a7 => Eq.subst (motive := fun k => (codeT k).all (rowOk k) = true) (Nat.le_antisymm (Nat.le_of_lt_succ a7) b6).symm rk_131) (fun b7 => ((Nat.lt_or_ge k 133).elim (fun a8 => Eq.subst (motive := fun k => (codeT k).all (rowOk k) = true) (Nat.le_antisymm (Nat.le_of_lt_succ a8) b7).symm rk_132) (fun b8 => Eq.subst (motive := fun k => (codeT k).all (rowOk k) = true) (Nat.le_antisymm (Nat.le_of_lt_succ a5) b8).symm rk_133))))))) (fun b5 => ((Nat.lt_or_ge k 136).elim (fun a6 => ((Nat.lt_or_ge k 135).elim (fun a7 => Eq.subst (motive := fun k => (codeT k).all (rowOk k) = true) (Nat.le_antisymm (Nat.le_of_lt_succ a7) b5).symm rk_134) (fun b7 => Eq.subst (motive := fun k => (codeT k).all (rowOk k) = true) (Nat.le_antisymm (Nat.le_of_lt_succ a6) b7).symm rk_135))) (fun b6 => ((Nat.lt_or_ge k 137).elim (fun a7 => Eq.subst (motive := fun k => (codeT k).all (rowOk k) = true) (Nat.le_antisymm (Nat.le_of_lt_succ a7) b6).symm rk_136) (fun b7 => ((Nat.lt_or_ge k 138).elim (fun a8 => Eq.subst (motive := fun k => (codeT k).all (rowOk k) = true) (Nat.le_antisymm (Nat.le_of_lt_succ a8) b7).symm rk_137) (fun b8 => Eq.subst (motive := fun k => (codeT k).all (rowOk k) = true) (Nat.le_antisymm (Nat.le_of_lt_succ a3) b8).symm rk_138))))))))))) (fun b3 => ((Nat.lt_or_ge k 149).elim (fun a4 => ((Nat.lt_or_ge k 144).elim (fun a5 => ((Nat.lt_or_ge k 141).elim (fun a6 => ((Nat.lt_or_ge k 140).elim (fun a7 => Eq.subst (motive := fun k => (codeT k).all (rowOk k) = true) (Nat.le_antisymm (Nat.le_of_lt_succ a7) b3).symm rk_139) (fun b7 => Eq.subst (motive := fun k => (codeT k).all (rowOk k) = true) (Nat.le_antisymm (Nat.le_of_lt_succ a6) b7).symm rk_140))) (fun b6 => ((Nat.lt_or_ge k 142).elim (fun a7 => Eq.subst (motive := fun k => (codeT k).all (rowOk k) = true) (Nat.le_antisymm (Nat.le_of_lt_succ a7) b6).symm rk_141) (fun b7 => ((Nat.lt_or_ge k 143).elim (fun a8 => Eq.subst (motive := fun k => (codeT k).all (rowOk k) = true) (Nat.le_antisymm (Nat.le_of_lt_succ a8) b7).symm rk_142) (fun b8 => Eq.subst (motive := fun k => (codeT k).all (rowOk k) = true) (Nat.le_antisymm (Nat.le_of_lt_succ a5) b8).symm rk_143))))))) (fun b5 => ((Nat.lt_or_ge k 146).elim (fun a6 => ((Nat.lt_or_ge k 145).elim (fun a7 => Eq.subst (motive := fun k => (codeT k).all (rowOk k) = true) (Nat.le_antisymm (Nat.le_of_lt_succ a7) b5).symm rk_144) (fun b7 => Eq.subst (motive := fun k => (codeT k).all (rowOk k) = true) (Nat.le_antisymm (Nat.le_of_lt_succ a6) b7).symm rk_145))) (fun b6 => ((Nat.lt_or_ge k 147).elim (fun a7 => Eq.subst (motive := fun k => (codeT k).all (rowOk k) = true) (Nat.le_antisymm (Nat.le_of_lt_succ a7) b6).symm rk_146) (fun b7 => ((Nat.lt_or_ge k 148).elim (fun a8 => Eq.subst (motive := fun k => (codeT k).all (rowOk k) = true) (Nat.le_antisymm (Nat.le_of_lt_succ a8) b7).symm rk_147) (fun b8 => Eq.subst (motive := fun k => (codeT k).all (rowOk k) = true) (Nat.le_antisymm (Nat.le_of_lt_succ a4) b8).symm rk_148))))))))) (fun b4 => ((Nat.lt_or_ge k 154).elim (fun a5 => ((Nat.lt_or_ge k 151).elim (fun a6 => ((Nat.lt_or_ge k 150).elim (fun a7 => Eq.subst (motive := fun k => (codeT k).all (rowOk k) = true) (Nat.le_antisymm (Nat.le_of_lt_succ a7) b4).symm rk_149) (fun b7 => Eq.subst (motive := fun k => (codeT k).all (rowOk k) = true) (Nat.le_antisymm (Nat.le_of_lt_succ a6) b7).symm rk_150))) (fun b6 => ((Nat.lt_or_ge k 152).elim (fun a7 => Eq.subst (motive := fun k => (codeT k).all (rowOk k) = true) (Nat.le_antisymm (Nat.le_of_lt_succ a7) b6).symm rk_151) (fun b7 => ((Nat.lt_or_ge k 153).elim (fun a8 => Eq.subst (motive := fun k => (codeT k).all (rowOk k) = true) (Nat.le_antisymm (Nat.le_of_lt_succ a8) b7).symm rk_152) (fun b8 => Eq.subst (motive := fun k => (codeT k).all (rowOk k) = true) (Nat.le_antisymm (Nat.le_of_lt_succ a5) b8).symm rk_153))))))) (fun b5 => ((Nat.lt_or_ge k 156).elim (fun a6 => ((Nat.lt_or_ge k 155).elim (fun a7 => Eq.subst (motive := fun k => (codeT k).all (rowOk k) = true) (Nat.le_antisymm (Nat.le_of_lt_succ a7) b5).symm rk_154) (fun b7 => Eq.subst (motive := fun k => (codeT k).all (rowOk k) = true) (Nat.le_antisymm (Nat.le_of_lt_succ a6) b7).symm rk_155))) (fun b6 => ((Nat.lt_or_ge k 157).elim (fun a7 => Eq.subst (motive := fun k => (codeT k).all (rowOk k) = true) (Nat.le_antisymm (Nat.le_of_lt_succ a7) b6).symm rk_156) (fun b7 => ((Nat.lt_or_ge k 158).elim (fun a8 => Eq.subst (motive := fun k => (codeT k).all (rowOk k) = true) (Nat.le_antisymm (Nat.le_of_lt_succ a8) b7).symm rk_157) (fun b8 => Eq.subst (motive := fun k => (codeT k).all (rowOk k) = true) (Nat.le_antisymm (Nat.le_of_lt_succ a0) b8).symm rk_158))))))))))))))))) (fun b0 => ((Nat.lt_or_ge k 239).elim (fun a1 => ((Nat.lt_or_ge k 199).elim (fun a2 => ((Nat.lt_or_ge k 179).elim (fun a3 => ((Nat.lt_or_ge k 169).elim (fun a4 => ((Nat.lt_or_ge k 164).elim (fun a5 => ((Nat.lt_or_ge k 161).elim (fun a6 => ((Nat.lt_or_ge k 160).elim (fun a7 => Eq.subst (motive := fun k => (codeT k).all (rowOk k) = true) (Nat.le_antisymm (Nat.le_of_lt_succ a7) b0).symm rk_159) (fun b7 => Eq.subst (motive := fun k => (codeT k).all (rowOk k) = true) (Nat.le_antisymm (Nat.le_of_lt_succ a6) b7).symm rk_160))) (fun b6 => ((Nat.lt_or_ge k 162).elim (fun a7 => Eq.subst (motive := fun k => (codeT k).all (rowOk k) = true) (Nat.le_antisymm (Nat.le_of_lt_succ a7) b6).symm rk_161) (fun b7 => ((Nat.lt_or_ge k 163).elim (fun a8 => Eq.subst (motive := fun k => (codeT k).all (rowOk k) = true) (Nat.le_antisymm (Nat.le_of_lt_succ a8) b7).symm rk_162) (fun b8 => Eq.subst (motive := fun k => (codeT k).all (rowOk k) = true) (Nat.le_antisymm (Nat.le_of_lt_succ a5) b8).symm rk_163))))))) (fun b5 => ((Nat.lt_or_ge k 166).elim (fun a6 => ((Nat.lt_or_ge k 165).elim (fun a7 => Eq.subst (motive := fun k => (codeT k).all (rowOk k) = true) (Nat.le_antisymm (Nat.le_of_lt_succ a7) b5).symm rk_164) (fun b7 => Eq.subst (motive := fun k => (codeT k).all (rowOk k) = true) (Nat.le_antisymm (Nat.le_of_lt_succ a6) b7).symm rk_165))) (fun b6 => ((Nat.lt_or_ge k 167).elim (fun a7 => Eq.subst (motive := fun k => (codeT k).all (rowOk k) = true) (Nat.le_antisymm (Nat.le_of_lt_succ a7) b6).symm rk_166) (fun b7 => ((Nat.lt_or_ge k 168).elim (fun a8 => Eq.subst (motive := fun k => (codeT k).all (rowOk k) = true) (Nat.le_antisymm (Nat.le_of_lt_succ a8) b7).symm rk_167) (fun b8 => Eq.subst (motive := fun k => (codeT k).all (rowOk k) = true) (Nat.le_antisymm (Nat.le_of_lt_succ a4) b8).symm rk_168))))))))) (fun b4 => ((Nat.lt_or_ge k 174).elim (fun a5 => ((Nat.lt_or_ge k 171).elim (fun a6 => ((Nat.lt_or_ge k 170).elim (fun a7 => Eq.subst (motive := fun k => (codeT k).all (rowOk k) = true) (Nat.le_antisymm (Nat.le_of_lt_succ a7) b4).symm rk_169) (fun b7 => Eq.subst (motive := fun k => (codeT k).all (rowOk k) = true) (Nat.le_antisymm (Nat.le_of_lt_succ a6) b7).symm rk_170))) (fun b6 => ((Nat.lt_or_ge k 172).elim (fun a7 => Eq.subst (motive := fun k => (codeT k).all (rowOk k) = true) (Nat.le_antisymm (Nat.le_of_lt_succ a7) b6).symm rk_171) (fun b7 => ((Nat.lt_or_ge k 173).elim (fun a8 => Eq.subst (motive := fun k => (codeT k).all (rowOk k) = true) (Nat.le_antisymm (Nat.le_of_lt_succ a8) b7).symm rk_172) (fun b8 => Eq.subst (motive := fun k => (codeT k).all (rowOk k) = true) (Nat.le_antisymm (Nat.le_of_lt_succ a5) b8).symm rk_173))))))) (fun b5 => ((Nat.lt_or_ge k 176).elim (fun a6 => ((Nat.lt_or_ge k 175).elim (fun a7 => Eq.subst (motive := fun k => (codeT k).all (rowOk k) = true) (Nat.le_antisymm (Nat.le_of_lt_succ a7) b5).symm rk_174) (fun b7 => Eq.subst (motive := fun k => (codeT k).all (rowOk k) = true) (Nat.le_antisymm (Nat.le_of_lt_succ a6) b7).symm rk_175))) (fun b6 => ((Nat.lt_or_ge k 177).elim (fun a7 => Eq.subst (motive := fun k => (codeT k).all (rowOk k) = true) (Nat.le_antisymm (Nat.le_of_lt_succ a7) b6).symm rk_176) (fun b7 => ((Nat.lt_or_ge k 178).elim (fun a8 => Eq.subst (motive := fun k => (codeT k).all (rowOk k) = true) (Nat.le_antisymm (Nat.le_of_lt_succ a8) b7).symm rk_177) (fun b8 => Eq.subst (motive := fun k => (codeT k).all (rowOk k) = true) (Nat.le_antisymm (Nat.le_of_lt_succ a3) b8).symm rk_178))))))))))) (fun b3 => ((Nat.lt_or_ge k 189).elim (fun a4 => ((Nat.lt_or_ge k 184).elim (fun a5 => ((Nat.lt_or_ge k 181).elim (fun a6 => ((Nat.lt_or_ge k 180).elim (fun a7 => Eq.subst (motive := fun k => (codeT k).all (rowOk k) = true) (Nat.le_antisymm (Nat.le_of_lt_succ a7) b3).symm rk_179) (fun b7 => Eq.subst (motive := fun k => (codeT k).all (rowOk k) = true) (Nat.le_antisymm (Nat.le_of_lt_succ a6) b7).symm rk_180))) (fun b6 => ((Nat.lt_or_ge k 182).elim (fun a7 => Eq.subst (motive := fun k => (codeT k).all (rowOk k) = true) (Nat.le_antisymm (Nat.le_of_lt_succ a7) b6).symm rk_181) (fun b7 => ((Nat.lt_or_ge k 183).elim (fun a8 => Eq.subst (motive := fun k => (codeT k).all (rowOk k) = true) (Nat.le_antisymm (Nat.le_of_lt_succ a8) b7).symm rk_182) (fun b8 => Eq.subst (motive := fun k => (codeT k).all (rowOk k) = true) (Nat.le_antisymm (Nat.le_of_lt_succ a5) b8).symm rk_183))))))) (fun b5 => ((Nat.lt_or_ge k 186).elim (fun a6 => ((Nat.lt_or_ge k 185).elim (fun a7 => Eq.subst (motive := fun k => (codeT k).all (rowOk k) = true) (Nat.le_antisymm (Nat.le_of_lt_succ a7) b5).symm rk_184) (fun b7 => Eq.subst (motive := fun k => (codeT k).all (rowOk k) = true) (Nat.le_antisymm (Nat.le_of_lt_succ a6) b7).symm rk_185))) (fun b6 => ((Nat.lt_or_ge k 187).elim (fun a7 => Eq.subst (motive := fun k => (codeT k).all (rowOk k) = true) (Nat.le_antisymm (Nat.le_of_lt_succ a7) b6).symm rk_186) (fun b7 => ((Nat.lt_or_ge k 188).elim (fun a8 => Eq.subst (motive := fun k => (codeT k).all (rowOk k) = true) (Nat.le_antisymm (Nat.le_of_lt_succ a8) b7).symm rk_187) (fun b8 => Eq.subst (motive := fun k => (codeT k).all (rowOk k) = true) (Nat.le_antisymm (Nat.le_of_lt_succ a4) b8).symm rk_188))))))))) (fun b4 => ((Nat.lt_or_ge k 194).elim (fun a5 => ((Nat.lt_or_ge k 191).elim (fun a6 => ((Nat.lt_or_ge k 190).elim (fun a7 => Eq.subst (motive := fun k => (codeT k).all (rowOk k) = true) (Nat.le_antisymm (Nat.le_of_lt_succ a7) b4).symm rk_189) (fun b7 => Eq.subst (motive := fun k => (codeT k).all (rowOk k) = true) (Nat.le_antisymm (Nat.le_of_lt_succ a6) b7).symm rk_190))) (fun b6 => ((Nat.lt_or_ge k 192).elim (fun a7 => Eq.subst (motive := fun k => (codeT k).all (rowOk k) = true) (Nat.le_antisymm (Nat.le_of_lt_succ a7) b6).symm rk_191) (fun b7 => ((Nat.lt_or_ge k 193).elim (fun a8 => Eq.subst (motive := fun k => (codeT k).all (rowOk k) = true) (Nat.le_antisymm (Nat.le_of_lt_succ a8) b7).symm rk_192) (fun b8 => Eq.subst (motive := fun k => (codeT k).all (rowOk k) = true) (Nat.le_antisymm (Nat.le_of_lt_succ a5) b8).symm rk_193))))))) (fun b5 => ((Nat.lt_or_ge k 196).elim (fun a6 => ((Nat.lt_or_ge k 195).elim (fun a7 => Eq.subst (motive := fun k => (codeT k).all (rowOk k) = true) (Nat.le_antisymm (Nat.le_of_lt_succ a7) b5).symm rk_194) (fun b7 => Eq.subst (motive := fun k => (codeT k).all (rowOk k) = true) (Nat.le_antisymm (Nat.le_of_lt_succ a6) b7).symm rk_195))) (fun b6 => ((Nat.lt_or_ge k 197).elim (fun a7 => Eq.subst (motive := fun k => (codeT k).all (rowOk k) = true) (Nat.le_antisymm (Nat.le_of_lt_succ a7) b6).symm rk_196) (fun b7 => ((Nat.lt_or_ge k 198).elim (fun a8 => Eq.subst (motive := fun k => (codeT k).all (rowOk k) = true) (Nat.le_antisymm (Nat.le_of_lt_succ a8) b7).symm rk_197) (fun b8 => Eq.subst (motive := fun k => (codeT k).all (rowOk k) = true) (Nat.le_antisymm (Nat.le_of_lt_succ a2) b8).symm rk_198))))))))))))) (fun b2 => ((Nat.lt_or_ge k 219).elim (fun a3 => ((Nat.lt_or_ge k 209).elim (fun a4 => ((Nat.lt_or_ge k 204).elim (fun a5 => ((Nat.lt_or_ge k 201).elim (fun a6 => ((Nat.lt_or_ge k 200).elim (fun a7 => Eq.subst (motive := fun k => (codeT k).all (rowOk k) = true) (Nat.le_antisymm (Nat.le_of_lt_succ a7) b2).symm rk_199) (fun b7 => Eq.subst (motive := fun k => (codeT k).all (rowOk k) = true) (Nat.le_antisymm (Nat.le_of_lt_succ a6) b7).symm rk_200))) (fun b6 => ((Nat.lt_or_ge k 202).elim (fun a7 => Eq.subst (motive := fun k => (codeT k).all (rowOk k) = true) (Nat.le_antisymm (Nat.le_of_lt_succ a7) b6).symm rk_201) (fun b7 => ((Nat.lt_or_ge k 203).elim (fun a8 => Eq.subst (motive := fun k => (codeT k).all (rowOk k) = true) (Nat.le_antisymm (Nat.le_of_lt_succ a8) b7).symm rk_202) (fun b8 => Eq.subst (motive := fun k => (codeT k).all (rowOk k) = true) (Nat.le_antisymm (Nat.le_of_lt_succ a5) b8).symm rk_203))))))) (fun b5 => ((Nat.lt_or_ge k 206).elim (fun a6 => ((Nat.lt_or_ge k 205).elim (fun a7 => Eq.subst (motive := fun k => (codeT k).all (rowOk k) = true) (Nat.le_antisymm (Nat.le_of_lt_succ a7) b5).symm rk_204) (fun b7 => Eq.subst (motive := fun k => (codeT k).all (rowOk k) = true) (Nat.le_antisymm (Nat.le_of_lt_succ a6) b7).symm rk_205))) (fun b6 => ((Nat.lt_or_ge k 207).elim (fun a7 => Eq.subst (motive := fun k => (codeT k).all (rowOk k) = true) (Nat.le_antisymm (Nat.le_of_lt_succ a7) b6).symm rk_206) (fun b7 => ((Nat.lt_or_ge k 208).elim (fun a8 => Eq.subst (motive := fun k => (codeT k).all (rowOk k) = true) (Nat.le_antisymm (Nat.le_of_lt_succ a8) b7).symm rk_207) (fun b8 => Eq.subst (motive := fun k => (codeT k).all (rowOk k) = true) (Nat.le_antisymm (Nat.le_of_lt_succ a4) b8).symm rk_208))))))))) (fun b4 => ((Nat.lt_or_ge k 214).elim (fun a5 => ((Nat.lt_or_ge k 211).elim (fun a6 => ((Nat.lt_or_ge k 210).elim (fun a7 => Eq.subst (motive := fun k => (codeT k).all (rowOk k) = true) (Nat.le_antisymm (Nat.le_of_lt_succ a7) b4).symm rk_209) (fun b7 => Eq.subst (motive := fun k => (codeT k).all (rowOk k) = true) (Nat.le_antisymm (Nat.le_of_lt_succ a6) b7).symm rk_210))) (fun b6 => ((Nat.lt_or_ge k 212).elim (fun a7 => Eq.subst (motive := fun k => (codeT k).all (rowOk k) = true) (Nat.le_antisymm (Nat.le_of_lt_succ a7) b6).symm rk_211) (fun b7 => ((Nat.lt_or_ge k 213).elim (fun a8 => Eq.subst (motive := fun k => (codeT k).all (rowOk k) = true) (Nat.le_antisymm (Nat.le_of_lt_succ a8) b7).symm rk_212) (fun b8 => Eq.subst (motive := fun k => (codeT k).all (rowOk k) = true) (Nat.le_antisymm (Nat.le_of_lt_succ a5) b8).symm rk_213))))))) (fun b5 => ((Nat.lt_or_ge k 216).elim (fun a6 => ((Nat.lt_or_ge k 215).elim (fun a7 => Eq.subst (motive := fun k => (codeT k).all (rowOk k) = true) (Nat.le_antisymm (Nat.le_of_lt_succ a7) b5).symm rk_214) (fun b7 => Eq.subst (motive := fun k => (codeT k).all (rowOk k) = true) (Nat.le_antisymm (Nat.le_of_lt_succ a6) b7).symm rk_215))) (fun b6 => ((Nat.lt_or_ge k 217).elim (fun a7 => Eq.subst (motive := fun k => (codeT k).all (rowOk k) = true) (Nat.le_antisymm (Nat.le_of_lt_succ a7) b6).symm rk_216) (fun b7 => ((Nat.lt_or_ge k 218).elim (fun a8 => Eq.subst (motive := fun k => (codeT k).all (rowOk k) = true) (Nat.le_antisymm (Nat.le_of_lt_succ a8) b7).symm rk_217) (fun b8 => Eq.subst (motive := fun k => (codeT k).all (rowOk k) = true) (Nat.le_antisymm (Nat.le_of_lt_succ a3) b8).symm rk_218))))))))))) (fun b3 => ((Nat.lt_or_ge k 229).elim (fun a4 => ((Nat.lt_or_ge k 224).elim (fun a5 => ((Nat.lt_or_ge k 221).elim (fun a6 => ((Nat.lt_or_ge k 220).elim (fun a7 => Eq.subst (motive := fun k => (codeT k).all (rowOk k) = true) (Nat.le_antisymm (Nat.le_of_lt_succ a7) b3).symm rk_219) (fun b7 => Eq.subst (motive := fun k => (codeT k).all (rowOk k) = true) (Nat.le_antisymm (Nat.le_of_lt_succ a6) b7).symm rk_220))) (fun b6 => ((Nat.lt_or_ge k 222).elim (fun a7 => Eq.subst (motive := fun k => (codeT k).all (rowOk k) = true) (Nat.le_antisymm (Nat.le_of_lt_succ a7) b6).symm rk_221) (fun b7 => ((Nat.lt_or_ge k 223).elim (fun a8 => Eq.subst (motive := fun k => (codeT k).all (rowOk k) = true) (Nat.le_antisymm (Nat.le_of_lt_succ a8) b7).symm rk_222) (fun b8 => Eq.subst (motive := fun k => (codeT k).all (rowOk k) = true) (Nat.le_antisymm (Nat.le_of_lt_succ a5) b8).symm rk_223))))))) (fun b5 => ((Nat.lt_or_ge k 226).elim (fun a6 => ((Nat.lt_or_ge k 225).elim (fun a7 => Eq.subst (motive := fun k => (codeT k).all (rowOk k) = true) (Nat.le_antisymm (Nat.le_of_lt_succ a7) b5).symm rk_224) (fun b7 => Eq.subst (motive := fun k => (codeT k).all (rowOk k) = true) (Nat.le_antisymm (Nat.le_of_lt_succ a6) b7).symm rk_225))) (fun b6 => ((Nat.lt_or_ge k 227).elim (fun a7 => Eq.subst (motive := fun k => (codeT k).all (rowOk k) = true) (Nat.le_antisymm (Nat.le_of_lt_succ a7) b6).symm rk_226) (fun b7 => ((Nat.lt_or_ge k 228).elim (fun a8 => Eq.subst (motive := fun k => (codeT k).all (rowOk k) = true) (Nat.le_antisymm (Nat.le_of_lt_succ a8) b7).symm rk_227) (fun b8 => Eq.subst (motive := fun k => (codeT k).all (rowOk k) = true) (Nat.le_antisymm (Nat.le_of_lt_succ a4) b8).symm rk_228))))))))) (fun b4 => ((Nat.lt_or_ge k 234).elim (fun a5 => ((Nat.lt_or_ge k 231).elim (fun a6 => ((Nat.lt_or_ge k 230).elim (fun a7 => Eq.subst (motive := fun k => (codeT k).all (rowOk k) = true) (Nat.le_antisymm (Nat.le_of_lt_succ a7) b4).symm rk_229) (fun b7 => Eq.subst (motive := fun k => (codeT k).all (rowOk k) = true) (Nat.le_antisymm (Nat.le_of_lt_succ a6) b7).symm rk_230))) (fun b6 => ((Nat.lt_or_ge k 232).elim (fun a7 => Eq.subst (motive := fun k => (codeT k).all (rowOk k) = true) (Nat.le_antisymm (Nat.le_of_lt_succ a7) b6).symm rk_231) (fun b7 => ((Nat.lt_or_ge k 233).elim (fun a8 => Eq.subst (motive := fun k => (codeT k).all (rowOk k) = true) (Nat.le_antisymm (Nat.le_of_lt_succ a8) b7).symm rk_232) (fun b8 => Eq.subst (motive := fun k => (codeT k).all (rowOk k) = true) (Nat.le_antisymm (Nat.le_of_lt_succ a5) b8).symm rk_233))))))) (fun b5 => ((Nat.lt_or_ge k 236).elim (fun a6 => ((Nat.lt_or_ge k 235).elim (fun a7 => Eq.subst (motive := fun k => (codeT k).all (rowOk k) = true) (Nat.le_antisymm (Nat.le_of_lt_succ a7) b5).symm rk_234) (fun b7 => Eq.subst (motive := fun k => (codeT k).all (rowOk k) = true) (Nat.le_antisymm (Nat.le_of_lt_succ a6) b7).symm rk_235))) (fun b6 => ((Nat.lt_or_ge k 237).elim (fun a7 => Eq.subst (motive := fun k => (codeT k).all (rowOk k) = true) (Nat.le_antisymm (Nat.le_of_lt_succ a7) b6).symm rk_236) (fun b7 => ((Nat.lt_or_ge k 238).elim (fun a8 => Eq.subst (motive := fun k => (codeT k).all (rowOk k) = true) (Nat.le_antisymm (Nat.le_of_lt_succ a8) b7).symm rk_237) (fun b8 => Eq.subst (motive := fun k => (codeT k).all (rowOk k) = true) (Nat.le_antisymm (Nat.le_of_lt_succ a1) b8).symm rk_238))))))))))))))) (fun b1 => ((Nat.lt_or_ge k 279).elim (fun a2 => ((Nat.lt_or_ge k 259).elim (fun a3 => ((Nat.lt_or_ge k 249).elim (fun a4 => ((Nat.lt_or_ge k 244).elim (fun a5 => ((Nat.lt_or_ge k 241).elim (fun a6 => ((Nat.lt_or_ge k 240).elim (fun a7 => Eq.subst (motive := fun k => (codeT k).all (rowOk k) = true) (Nat.le_antisymm (Nat.le_of_lt_succ a7) b1).symm rk_239) (fun b7 => Eq.subst (motive := fun k => (codeT k).all (rowOk k) = true) (Nat.le_antisymm (Nat.le_of_lt_succ a6) b7).symm rk_240))) (fun b6 => ((Nat.lt_or_ge k 242).elim (fun a7 => Eq.subst (motive := fun k => (codeT k).all (rowOk k) = true) (Nat.le_antisymm (Nat.le_of_lt_succ a7) b6).symm rk_241) (fun b7 => ((Nat.lt_or_ge k 243).elim (fun a8 => Eq.subst (motive := fun k => (codeT k).all (rowOk k) = true) (Nat.le_antisymm (Nat.le_of_lt_succ a8) b7).symm rk_242) (fun b8 => Eq.subst (motive := fun k => (codeT k).all (rowOk k) = true) (Nat.le_antisymm (Nat.le_of_lt_succ a5) b8).symm rk_243))))))) (fun b5 => ((Nat.lt_or_ge k 246).elim (fun a6 => ((Nat.lt_or_ge k 245).elim (fun a7 => Eq.subst (motive := fun k => (codeT k).all (rowOk k) = true) (Nat.le_antisymm (Nat.le_of_lt_succ a7) b5).symm rk_244) (fun b7 => Eq.subst (motive := fun k => (codeT k).all (rowOk k) = true) (Nat.le_antisymm (Nat.le_of_lt_succ a6) b7).symm rk_245))) (fun b6 => ((Nat.lt_or_ge k 247).elim (fun a7 => Eq.subst (motive := fun k => (codeT k).all (rowOk k) = true) (Nat.le_antisymm (Nat.le_of_lt_succ a7) b6).symm rk_246) (fun b7 => ((Nat.lt_or_ge k 248).elim (fun a8 => Eq.subst (motive := fun k => (codeT k).all (rowOk k) = true) (Nat.le_antisymm (Nat.le_of_lt_succ a8) b7).symm rk_247) (fun b8 => Eq.subst (motive := fun k => (codeT k).all (rowOk k) = true) (Nat.le_antisymm (Nat.le_of_lt_succ a4) b8).symm rk_248))))))))) (fun b4 => ((Nat.lt_or_ge k 254).elim (fun a5 => ((Nat.lt_or_ge k 251).elim (fun a6 => ((Nat.lt_or_ge k 250).elim (fun a7 => Eq.subst (motive := fun k => (codeT k).all (rowOk k) = true) (Nat.le_antisymm (Nat.le_of_lt_succ a7) b4).symm rk_249) (fun b7 => Eq.subst (motive := fun k => (codeT k).all (rowOk k) = true) (Nat.le_antisymm (Nat.le_of_lt_succ a6) b7).symm rk_250))) (fun b6 => ((Nat.lt_or_ge k 252).elim (fun a7 => Eq.subst (motive := fun k => (codeT k).all (rowOk k) = true) (Nat.le_antisymm (Nat.le_of_lt_succ a7) b6).symm rk_251) (fun b7 => ((Nat.lt_or_ge k 253).elim (fun a8 => Eq.subst (motive := fun k => (codeT k).all (rowOk k) = true) (Nat.le_antisymm (Nat.le_of_lt_succ a8) b7).symm rk_252) (fun b8 => Eq.subst (motive := fun k => (codeT k).all (rowOk k) = true) (Nat.le_antisymm (Nat.le_of_lt_succ a5) b8).symm rk_253))))))) (fun b5 => ((Nat.lt_or_ge k 256).elim (fun a6 => ((Nat.lt_or_ge k 255).elim (fun a7 => Eq.subst (motive := fun k => (codeT k).all (rowOk k) = true) (Nat.le_antisymm (Nat.le_of_lt_succ a7) b5).symm rk_254) (fun b7 => Eq.subst (motive := fun k => (codeT k).all (rowOk k) = true) (Nat.le_antisymm (Nat.le_of_lt_succ a6) b7).symm rk_255))) (fun b6 => ((Nat.lt_or_ge k 257).elim (fun a7 => Eq.subst (motive := fun k => (codeT k).all (rowOk k) = true) (Nat.le_antisymm (Nat.le_of_lt_succ a7) b6).symm rk_256) (fun b7 => ((Nat.lt_or_ge k 258).elim (fun a8 => Eq.subst (motive := fun k => (codeT k).all (rowOk k) = true) (Nat.le_antisymm (Nat.le_of_lt_succ a8) b7).symm rk_257) (fun b8 => Eq.subst (motive := fun k => (codeT k).all (rowOk k) = true) (Nat.le_antisymm (Nat.le_of_lt_succ a3) b8).symm rk_258))))))))))) (fun b3 => ((Nat.lt_or_ge k 269).elim (fun a4 => ((Nat.lt_or_ge k 264).elim (fun a5 => ((Nat.lt_or_ge k 261).elim (fun a6 => ((Nat.lt_or_ge k 260).elim (fun a7 => Eq.subst (motive := fun k => (codeT k).all (rowOk k) = true) (Nat.le_antisymm (Nat.le_of_lt_succ a7) b3).symm rk_259) (fun b7 => Eq.subst (motive := fun k => (codeT k).all (rowOk k) = true) (Nat.le_antisymm (Nat.le_of_lt_succ a6) b7).symm rk_260))) (fun b6 => ((Nat.lt_or_ge k 262).elim (fun a7 => Eq.subst (motive := fun k => (codeT k).all (rowOk k) = true) (Nat.le_antisymm (Nat.le_of_lt_succ a7) b6).symm rk_261) (fun b7 => ((Nat.lt_or_ge k 263).elim (fun a8 => Eq.subst (motive := fun k => (codeT k).all (rowOk k) = true) (Nat.le_antisymm (Nat.le_of_lt_succ a8) b7).symm rk_262) (fun b8 => Eq.subst (motive := fun k => (codeT k).all (rowOk k) = true) (Nat.le_antisymm (Nat.le_of_lt_succ a5) b8).symm rk_263))))))) (fun b5 => ((Nat.lt_or_ge k 266).elim (fun a6 => ((Nat.lt_or_ge k 265).elim (fun a7 => Eq.subst (motive := fun k => (codeT k).all (rowOk k) = true) (Nat.le_antisymm (Nat.le_of_lt_succ a7) b5).symm rk_264) (fun b7 => Eq.subst (motive := fun k => (codeT k).all (rowOk k) = true) (Nat.le_antisymm (Nat.le_of_lt_succ a6) b7).symm rk_265))) (fun b6 => ((Nat.lt_or_ge k 267).elim (fun a7 => Eq.subst (motive := fun k => (codeT k).all (rowOk k) = true) (Nat.le_antisymm (Nat.le_of_lt_succ a7) b6).symm rk_266) (fun b7 => ((Nat.lt_or_ge k 268).elim (fun a8 => Eq.subst (motive := fun k => (codeT k).all (rowOk k) = true) (Nat.le_antisymm (Nat.le_of_lt_succ a8) b7).symm rk_267) (fun b8 => Eq.subst (motive := fun k => (codeT k).all (rowOk k) = true) (Nat.le_antisymm (Nat.le_of_lt_succ a4) b8).symm rk_268))))))))) (fun b4 => ((Nat.lt_or_ge k 274).elim (fun a5 => ((Nat.lt_or_ge k 271).elim (fun a6 => ((Nat.lt_or_ge k 270).elim (fun a7 => Eq.subst (motive := fun k => (codeT k).all (rowOk k) = true) (Nat.le_antisymm (Nat.le_of_lt_succ a7) b4).symm rk_269) (fun b7 => Eq.subst (motive := fun k => (codeT k).all (rowOk k) = true) (Nat.le_antisymm (Nat.le_of_lt_succ a6) b7).symm rk_270))) (fun b6 => ((Nat.lt_or_ge k 272).elim (fun a7 => Eq.subst (motive := fun k => (codeT k).all (rowOk k) = true) (Nat.le_antisymm (Nat.le_of_lt_succ a7) b6).symm rk_271) (fun b7 => ((Nat.lt_or_ge k 273).elim (fun a8 => Eq.subst (motive := fun k => (codeT k).all (rowOk k) = true) (Nat.le_antisymm (Nat.le_of_lt_succ a8) b7).symm rk_272) (fun b8 => Eq.subst (motive := fun k => (codeT k).all (rowOk k) = true) (Nat.le_antisymm (Nat.le_of_lt_succ a5) b8).symm rk_273))))))) (fun b5 => ((Nat.lt_or_ge k 276).elim (fun a6 => ((Nat.lt_or_ge k 275).elim (fun a7 => Eq.subst (motive := fun k => (codeT k).all (rowOk k) = true) (Nat.le_antisymm (Nat.le_of_lt_succ a7) b5).symm rk_274) (fun b7 => Eq.subst (motive := fun k => (codeT k).all (rowOk k) = true) (Nat.le_antisymm (Nat.le_of_lt_succ a6) b7).symm rk_275))) (fun b6 => ((Nat.lt_or_ge k 277).elim (fun a7 => Eq.subst (motive := fun k => (codeT k).all (rowOk k) = true) (Nat.le_antisymm (Nat.le_of_lt_succ a7) b6).symm rk_276) (fun b7 => ((Nat.lt_or_ge k 278).elim (fun a8 => Eq.subst (motive := fun k => (codeT k).all (rowOk k) = true) (Nat.le_antisymm (Nat.le_of_lt_succ a8) b7).symm rk_277) (fun b8 => Eq.subst (motive := fun k => (codeT k).all (rowOk k) = true) (Nat.le_antisymm (Nat.le_of_lt_succ a2) b8).symm rk_278))))))))))))) (fun b2 => ((Nat.lt_or_ge k 299).elim (fun a3 => ((Nat.lt_or_ge k 289).elim (fun a4 => ((Nat.lt_or_ge k 284).elim (fun a5 => ((Nat.lt_or_ge k 281).elim (fun a6 => ((Nat.lt_or_ge k 280).elim (fun a7 => Eq.subst (motive := fun k => (codeT k).all (rowOk k) = true) (Nat.le_antisymm (Nat.le_of_lt_succ a7) b2).symm rk_279) (fun b7 => Eq.subst (motive := fun k => (codeT k).all (rowOk k) = true) (Nat.le_antisymm (Nat.le_of_lt_succ a6) b7).symm rk_280))) (fun b6 => ((Nat.lt_or_ge k 282).elim (fun a7 => Eq.subst (motive := fun k => (codeT k).all (rowOk k) = true) (Nat.le_antisymm (Nat.le_of_lt_succ a7) b6).symm rk_281) (fun b7 => ((Nat.lt_or_ge k 283).elim (fun a8 => Eq.subst (motive := fun k => (codeT k).all (rowOk k) = true) (Nat.le_antisymm (Nat.le_of_lt_succ a8) b7).symm rk_282) (fun b8 => Eq.subst (motive := fun k => (codeT k).all (rowOk k) = true) (Nat.le_antisymm (Nat.le_of_lt_succ a5) b8).symm rk_283))))))) (fun b5 => ((Nat.lt_or_ge k 286).elim (fun a6 => ((Nat.lt_or_ge k 285).elim (fun a7 => Eq.subst (motive := fun k => (codeT k).all (rowOk k) = true) (Nat.le_antisymm (Nat.le_of_lt_succ a7) b5).symm rk_284) (fun b7 => Eq.subst (motive := fun k => (codeT k).all (rowOk k) = true) (Nat.le_antisymm (Nat.le_of_lt_succ a6) b7).symm rk_285))) (fun b6 => ((Nat.lt_or_ge k 287).elim (fun a7 => Eq.subst (motive := fun k => (codeT k).all (rowOk k) = true) (Nat.le_antisymm (Nat.le_of_lt_succ a7) b6).symm rk_286) (fun b7 => ((Nat.lt_or_ge k 288).elim (fun a8 => Eq.subst (motive := fun k => (codeT k).all (rowOk k) = true) (Nat.le_antisymm (Nat.le_of_lt_succ a8) b7).symm rk_287) (fun b8 => Eq.subst (motive := fun k => (codeT k).all (rowOk k) = true) (Nat.le_antisymm (Nat.le_of_lt_succ a4) b8).symm rk_288))))))))) (fun b4 => ((Nat.lt_or_ge k 294).elim (fun a5 => ((Nat.lt_or_ge k 291).elim (fun a6 => ((Nat.lt_or_ge k 290).elim (fun a7 => Eq.subst (motive := fun k => (codeT k).all (rowOk k) = true) (Nat.le_antisymm (Nat.le_of_lt_succ a7) b4).symm rk_289) (fun b7 => Eq.subst (motive := fun k => (codeT k).all (rowOk k) = true) (Nat.le_antisymm (Nat.le_of_lt_succ a6) b7).symm rk_290))) (fun b6 => ((Nat.lt_or_ge k 292).elim (fun a7 => Eq.subst (motive := fun k => (codeT k).all (rowOk k) = true) (Nat.le_antisymm (Nat.le_of_lt_succ a7) b6).symm rk_291) (fun b7 => ((Nat.lt_or_ge k 293).elim (fun a8 => Eq.subst (motive := fun k => (codeT k).all (rowOk k) = true) (Nat.le_antisymm (Nat.le_of_lt_succ a8) b7).symm rk_292) (fun b8 => Eq.subst (motive := fun k => (codeT k).all (rowOk k) = true) (Nat.le_antisymm (Nat.le_of_lt_succ a5) b8).symm rk_293))))))) (fun b5 => ((Nat.lt_or_ge k 296).elim (fun a6 => ((Nat.lt_or_ge k 295).elim (fun a7 => Eq.subst (motive := fun k => (codeT k).all (rowOk k) = true) (Nat.le_antisymm (Nat.le_of_lt_succ a7) b5).symm rk_294) (fun b7 => Eq.subst (motive := fun k => (codeT k).all (rowOk k) = true) (Nat.le_antisymm (Nat.le_of_lt_succ a6) b7).symm rk_295))) (fun b6 => ((Nat.lt_or_ge k 297).elim (fun a7 => Eq.subst (motive := fun k => (codeT k).all (rowOk k) = true) (Nat.le_antisymm (Nat.le_of_lt_succ a7) b6).symm rk_296) (fun b7 => ((Nat.lt_or_ge k 298).elim (fun a8 => Eq.subst (motive := fun k => (codeT k).all (rowOk k) = true) (Nat.le_antisymm (Nat.le_of_lt_succ a8) b7).symm rk_297) (fun b8 => Eq.subst (motive := fun k => (codeT k).all (rowOk k) = true) (Nat.le_antisymm (Nat.le_of_lt_succ a3) b8).symm rk_298))))))))))) (fun b3 => ((Nat.lt_or_ge k 309).elim (fun a4 => ((Nat.lt_or_ge k 304).elim (fun a5 => ((Nat.lt_or_ge k 301).elim (fun a6 => ((Nat.lt_or_ge k 300).elim (fun a7 => Eq.subst (motive := fun k => (codeT k).all (rowOk k) = true) (Nat.le_antisymm (Nat.le_of_lt_succ a7) b3).symm rk_299) (fun b7 => Eq.subst (motive := fun k => (codeT k).all (rowOk k) = true) (Nat.le_antisymm (Nat.le_of_lt_succ a6) b7).symm rk_300))) (fun b6 => ((Nat.lt_or_ge k 302).elim (fun a7 => Eq.subst (motive := fun k => (codeT k).all (rowOk k) = true) (Nat.le_antisymm (Nat.le_of_lt_succ a7) b6).symm rk_301) (fun b7 => ((Nat.lt_or_ge k 303).elim (fun a8 => Eq.subst (motive := fun k => (codeT k).all (rowOk k) = true) (Nat.le_antisymm (Nat.le_of_lt_succ a8) b7).symm rk_302) (fun b8 => Eq.subst (motive := fun k => (codeT k).all (rowOk k) = true) (Nat.le_antisymm (Nat.le_of_lt_succ a5) b8).symm rk_303))))))) (fun b5 => ((Nat.lt_or_ge k 306).elim (fun a6 => ((Nat.lt_or_ge k 305).elim (fun a7 => Eq.subst (motive := fun k => (codeT k).all (rowOk k) = true) (Nat.le_antisymm (Nat.le_of_lt_succ a7) b5).symm rk_304) (fun b7 => Eq.subst (motive := fun k => (codeT k).all (rowOk k) = true) (Nat.le_antisymm (Nat.le_of_lt_succ a6) b7).symm rk_305))) (fun b6 => ((Nat.lt_or_ge k 307).elim (fun a7 => Eq.subst (motive := fun k => (codeT k).all (rowOk k) = true) (Nat.le_antisymm (Nat.le_of_lt_succ a7) b6).symm rk_306) (fun b7 => ((Nat.lt_or_ge k 308).elim (fun a8 => Eq.subst (motive := fun k => (codeT k).all (rowOk k) = true) (Nat.le_antisymm (Nat.le_of_lt_succ a8) b7).symm rk_307) (fun b8 => Eq.subst (motive := fun k => (codeT k).all (rowOk k) = true) (Nat.le_antisymm (Nat.le_of_lt_succ a4) b8).symm rk_308))))))))) (fun b4 => ((Nat.lt_or_ge k 314).elim (fun a5 => ((Nat.lt_or_ge k 311).elim (fun a6 => ((Nat.lt_or_ge k 310).elim (fun a7 => Eq.subst (motive := fun k => (codeT k).all (rowOk k) = true) (Nat.le_antisymm (Nat.le_of_lt_succ a7) b4).symm rk_309) (fun b7 => Eq.subst (motive := fun k => (codeT k).all (rowOk k) = true) (Nat.le_antisymm (Nat.le_of_lt_succ a6) b7).symm rk_310))) (fun b6 => ((Nat.lt_or_ge k 312).elim (fun a7 => Eq.subst (motive := fun k => (codeT k).all (rowOk k) = true) (Nat.le_antisymm (Nat.le_of_lt_succ a7) b6).symm rk_311) (fun b7 => ((Nat.lt_or_ge k 313).elim (fun a8 => Eq.subst (motive := fun k => (codeT k).all (rowOk k) = true) (Nat.le_antisymm (Nat.le_of_lt_succ a8) b7).symm rk_312) (fun b8 => Eq.subst (motive := fun k => (codeT k).all (rowOk k) = true) (Nat.le_antisymm (Nat.le_of_lt_succ a5) b8).symm rk_313))))))) (fun b5 => ((Nat.lt_or_ge k 316).elim (fun a6 => ((Nat.lt_or_ge k 315).elim (fun a7 => Eq.subst (motive := fun k => (codeT k).all (rowOk k) = true) (Nat.le_antisymm (Nat.le_of_lt_succ a7) b5).symm rk_314) (fun b7 => Eq.subst (motive := fun k => (codeT k).all (rowOk k) = true) (Nat.le_antisymm (Nat.le_of_lt_succ a6) b7).symm rk_315))) (fun b6 => ((Nat.lt_or_ge k 317).elim (fun a7 => Eq.subst (motive := fun k => (codeT k).all (rowOk k) = true) (Nat.le_antisymm (Nat.le_of_lt_succ a7) b6).symm rk_316) (fun b7 => ((Nat.lt_or_ge k 318).elim (fun a8 => Eq.subst (motive := fun k => (codeT k).all (rowOk k) = true) (Nat.le_antisymm (Nat.le_of_lt_succ a8) b7).symm rk_317) (fun b8 => Eq.subst (motive := fun k => (codeT k).all (rowOk k) = true) (Nat.le_antisymm (Nat.le_of_lt_succ hk) b8).symm rk_318))))))))))))))))))
