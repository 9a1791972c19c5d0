/-! READS AND WRITES of the cells of the start, a row each (printed by gen/base.py): rg: a reference; rc: that it is an object; ri, rl, rp, rq: its ints and longs, read and written; rn: how long a row is -/
section RVG
variable {S : rvS}
theorem rg_65_0 (h : rv_B S) : rv_gR S 7 65 0 = some 66 := h.gR rfl rfl (List.mem_of_getElem? (i := 0) rfl)
theorem rg_64_0 (h : rv_B S) : rv_gR S 10 64 0 = some 65 := h.gR rfl rfl (List.mem_of_getElem? (i := 1) rfl)
theorem rg_68_3 (h : rv_B S) : rv_gR S 0 68 3 = some 69 := h.gR rfl rfl (List.mem_of_getElem? (i := 2) rfl)
theorem rg_68_4 (h : rv_B S) : rv_gR S 0 68 4 = some 70 := h.gR rfl rfl (List.mem_of_getElem? (i := 3) rfl)
theorem rg_68_5 (h : rv_B S) : rv_gR S 0 68 5 = some 71 := h.gR rfl rfl (List.mem_of_getElem? (i := 4) rfl)
theorem rg_68_6 (h : rv_B S) : rv_gR S 0 68 6 = some 72 := h.gR rfl rfl (List.mem_of_getElem? (i := 5) rfl)
theorem rg_68_7 (h : rv_B S) : rv_gR S 0 68 7 = some 73 := h.gR rfl rfl (List.mem_of_getElem? (i := 6) rfl)
theorem rg_68_8 (h : rv_B S) : rv_gR S 0 68 8 = some 74 := h.gR rfl rfl (List.mem_of_getElem? (i := 7) rfl)
theorem rg_67_0 (h : rv_B S) : rv_gR S 8 67 0 = some 68 := h.gR rfl rfl (List.mem_of_getElem? (i := 8) rfl)
theorem rg_75_2 (h : rv_B S) : rv_gR S 5 75 2 = some 76 := h.gR rfl rfl (List.mem_of_getElem? (i := 9) rfl)
theorem rg_75_3 (h : rv_B S) : rv_gR S 5 75 3 = some 77 := h.gR rfl rfl (List.mem_of_getElem? (i := 10) rfl)
theorem rg_75_4 (h : rv_B S) : rv_gR S 5 75 4 = some 78 := h.gR rfl rfl (List.mem_of_getElem? (i := 11) rfl)
theorem rg_67_1 (h : rv_B S) : rv_gR S 8 67 1 = some 75 := h.gR rfl rfl (List.mem_of_getElem? (i := 12) rfl)
theorem rg_79_0 (h : rv_B S) : rv_gR S 6 79 0 = some 80 := h.gR rfl rfl (List.mem_of_getElem? (i := 13) rfl)
theorem rg_79_1 (h : rv_B S) : rv_gR S 6 79 1 = some 81 := h.gR rfl rfl (List.mem_of_getElem? (i := 14) rfl)
theorem rg_79_2 (h : rv_B S) : rv_gR S 6 79 2 = some 82 := h.gR rfl rfl (List.mem_of_getElem? (i := 15) rfl)
theorem rg_79_3 (h : rv_B S) : rv_gR S 6 79 3 = some 83 := h.gR rfl rfl (List.mem_of_getElem? (i := 16) rfl)
theorem rg_67_2 (h : rv_B S) : rv_gR S 8 67 2 = some 79 := h.gR rfl rfl (List.mem_of_getElem? (i := 17) rfl)
theorem rg_67_3 (h : rv_B S) : rv_gR S 8 67 3 = some 84 := h.gR rfl rfl (List.mem_of_getElem? (i := 18) rfl)
theorem rg_67_4 (h : rv_B S) : rv_gR S 8 67 4 = some 85 := h.gR rfl rfl (List.mem_of_getElem? (i := 19) rfl)
theorem rg_67_5 (h : rv_B S) : rv_gR S 8 67 5 = some 86 := h.gR rfl rfl (List.mem_of_getElem? (i := 20) rfl)
theorem rg_64_1 (h : rv_B S) : rv_gR S 10 64 1 = some 67 := h.gR rfl rfl (List.mem_of_getElem? (i := 21) rfl)
theorem rg_88_3 (h : rv_B S) : rv_gR S 0 88 3 = some 89 := h.gR rfl rfl (List.mem_of_getElem? (i := 22) rfl)
theorem rg_88_4 (h : rv_B S) : rv_gR S 0 88 4 = some 90 := h.gR rfl rfl (List.mem_of_getElem? (i := 23) rfl)
theorem rg_88_5 (h : rv_B S) : rv_gR S 0 88 5 = some 91 := h.gR rfl rfl (List.mem_of_getElem? (i := 24) rfl)
theorem rg_88_6 (h : rv_B S) : rv_gR S 0 88 6 = some 92 := h.gR rfl rfl (List.mem_of_getElem? (i := 25) rfl)
theorem rg_88_7 (h : rv_B S) : rv_gR S 0 88 7 = some 93 := h.gR rfl rfl (List.mem_of_getElem? (i := 26) rfl)
theorem rg_88_8 (h : rv_B S) : rv_gR S 0 88 8 = some 94 := h.gR rfl rfl (List.mem_of_getElem? (i := 27) rfl)
theorem rg_87_0 (h : rv_B S) : rv_gR S 8 87 0 = some 88 := h.gR rfl rfl (List.mem_of_getElem? (i := 28) rfl)
theorem rg_95_2 (h : rv_B S) : rv_gR S 5 95 2 = some 96 := h.gR rfl rfl (List.mem_of_getElem? (i := 29) rfl)
theorem rg_95_3 (h : rv_B S) : rv_gR S 5 95 3 = some 97 := h.gR rfl rfl (List.mem_of_getElem? (i := 30) rfl)
theorem rg_95_4 (h : rv_B S) : rv_gR S 5 95 4 = some 98 := h.gR rfl rfl (List.mem_of_getElem? (i := 31) rfl)
theorem rg_87_1 (h : rv_B S) : rv_gR S 8 87 1 = some 95 := h.gR rfl rfl (List.mem_of_getElem? (i := 32) rfl)
theorem rg_99_0 (h : rv_B S) : rv_gR S 6 99 0 = some 100 := h.gR rfl rfl (List.mem_of_getElem? (i := 33) rfl)
theorem rg_99_1 (h : rv_B S) : rv_gR S 6 99 1 = some 101 := h.gR rfl rfl (List.mem_of_getElem? (i := 34) rfl)
theorem rg_99_2 (h : rv_B S) : rv_gR S 6 99 2 = some 102 := h.gR rfl rfl (List.mem_of_getElem? (i := 35) rfl)
theorem rg_99_3 (h : rv_B S) : rv_gR S 6 99 3 = some 103 := h.gR rfl rfl (List.mem_of_getElem? (i := 36) rfl)
theorem rg_87_2 (h : rv_B S) : rv_gR S 8 87 2 = some 99 := h.gR rfl rfl (List.mem_of_getElem? (i := 37) rfl)
theorem rg_87_3 (h : rv_B S) : rv_gR S 8 87 3 = some 104 := h.gR rfl rfl (List.mem_of_getElem? (i := 38) rfl)
theorem rg_87_4 (h : rv_B S) : rv_gR S 8 87 4 = some 105 := h.gR rfl rfl (List.mem_of_getElem? (i := 39) rfl)
theorem rg_87_5 (h : rv_B S) : rv_gR S 8 87 5 = some 106 := h.gR rfl rfl (List.mem_of_getElem? (i := 40) rfl)
theorem rg_64_2 (h : rv_B S) : rv_gR S 10 64 2 = some 87 := h.gR rfl rfl (List.mem_of_getElem? (i := 41) rfl)
theorem rg_64_3 (h : rv_B S) : rv_gR S 10 64 3 = some 107 := h.gR rfl rfl (List.mem_of_getElem? (i := 42) rfl)
theorem rg_108_0 (h : rv_B S) : rv_gR S 4 108 0 = some 109 := h.gR rfl rfl (List.mem_of_getElem? (i := 43) rfl)
theorem rg_108_1 (h : rv_B S) : rv_gR S 4 108 1 = some 110 := h.gR rfl rfl (List.mem_of_getElem? (i := 44) rfl)
theorem rg_64_5 (h : rv_B S) : rv_gR S 10 64 5 = some 108 := h.gR rfl rfl (List.mem_of_getElem? (i := 45) rfl)
theorem rg_111_0 (h : rv_B S) : rv_gR S 1 111 0 = some 112 := h.gR rfl rfl (List.mem_of_getElem? (i := 46) rfl)
theorem rg_111_1 (h : rv_B S) : rv_gR S 1 111 1 = some 113 := h.gR rfl rfl (List.mem_of_getElem? (i := 47) rfl)
theorem rg_111_2 (h : rv_B S) : rv_gR S 1 111 2 = some 114 := h.gR rfl rfl (List.mem_of_getElem? (i := 48) rfl)
theorem rg_111_4 (h : rv_B S) : rv_gR S 1 111 4 = some 115 := h.gR rfl rfl (List.mem_of_getElem? (i := 49) rfl)
theorem rg_111_6 (h : rv_B S) : rv_gR S 1 111 6 = some 116 := h.gR rfl rfl (List.mem_of_getElem? (i := 50) rfl)
theorem rg_111_7 (h : rv_B S) : rv_gR S 1 111 7 = some 117 := h.gR rfl rfl (List.mem_of_getElem? (i := 51) rfl)
theorem rg_64_6 (h : rv_B S) : rv_gR S 10 64 6 = some 111 := h.gR rfl rfl (List.mem_of_getElem? (i := 52) rfl)
theorem rg_118_0 (h : rv_B S) : rv_gR S 3 118 0 = some 119 := h.gR rfl rfl (List.mem_of_getElem? (i := 53) rfl)
theorem rg_118_1 (h : rv_B S) : rv_gR S 3 118 1 = some 120 := h.gR rfl rfl (List.mem_of_getElem? (i := 54) rfl)
theorem rg_118_2 (h : rv_B S) : rv_gR S 3 118 2 = some 121 := h.gR rfl rfl (List.mem_of_getElem? (i := 55) rfl)
theorem rg_118_3 (h : rv_B S) : rv_gR S 3 118 3 = some 122 := h.gR rfl rfl (List.mem_of_getElem? (i := 56) rfl)
theorem rg_123_2 (h : rv_B S) : rv_gR S 5 123 2 = some 124 := h.gR rfl rfl (List.mem_of_getElem? (i := 57) rfl)
theorem rg_123_3 (h : rv_B S) : rv_gR S 5 123 3 = some 125 := h.gR rfl rfl (List.mem_of_getElem? (i := 58) rfl)
theorem rg_123_4 (h : rv_B S) : rv_gR S 5 123 4 = some 126 := h.gR rfl rfl (List.mem_of_getElem? (i := 59) rfl)
theorem rg_119_0 (h : rv_B S) : S.2.2.2 119 0 = some 123 := h.2 _ (List.mem_of_getElem? (i := 60) rfl)
theorem rg_127_2 (h : rv_B S) : rv_gR S 5 127 2 = some 128 := h.gR rfl rfl (List.mem_of_getElem? (i := 61) rfl)
theorem rg_127_3 (h : rv_B S) : rv_gR S 5 127 3 = some 129 := h.gR rfl rfl (List.mem_of_getElem? (i := 62) rfl)
theorem rg_127_4 (h : rv_B S) : rv_gR S 5 127 4 = some 130 := h.gR rfl rfl (List.mem_of_getElem? (i := 63) rfl)
theorem rg_119_1 (h : rv_B S) : S.2.2.2 119 1 = some 127 := h.2 _ (List.mem_of_getElem? (i := 64) rfl)
theorem rg_131_2 (h : rv_B S) : rv_gR S 5 131 2 = some 132 := h.gR rfl rfl (List.mem_of_getElem? (i := 65) rfl)
theorem rg_131_3 (h : rv_B S) : rv_gR S 5 131 3 = some 133 := h.gR rfl rfl (List.mem_of_getElem? (i := 66) rfl)
theorem rg_131_4 (h : rv_B S) : rv_gR S 5 131 4 = some 134 := h.gR rfl rfl (List.mem_of_getElem? (i := 67) rfl)
theorem rg_119_2 (h : rv_B S) : S.2.2.2 119 2 = some 131 := h.2 _ (List.mem_of_getElem? (i := 68) rfl)
theorem rg_135_2 (h : rv_B S) : rv_gR S 5 135 2 = some 136 := h.gR rfl rfl (List.mem_of_getElem? (i := 69) rfl)
theorem rg_135_3 (h : rv_B S) : rv_gR S 5 135 3 = some 137 := h.gR rfl rfl (List.mem_of_getElem? (i := 70) rfl)
theorem rg_135_4 (h : rv_B S) : rv_gR S 5 135 4 = some 138 := h.gR rfl rfl (List.mem_of_getElem? (i := 71) rfl)
theorem rg_119_3 (h : rv_B S) : S.2.2.2 119 3 = some 135 := h.2 _ (List.mem_of_getElem? (i := 72) rfl)
theorem rg_139_2 (h : rv_B S) : rv_gR S 5 139 2 = some 140 := h.gR rfl rfl (List.mem_of_getElem? (i := 73) rfl)
theorem rg_139_3 (h : rv_B S) : rv_gR S 5 139 3 = some 141 := h.gR rfl rfl (List.mem_of_getElem? (i := 74) rfl)
theorem rg_139_4 (h : rv_B S) : rv_gR S 5 139 4 = some 142 := h.gR rfl rfl (List.mem_of_getElem? (i := 75) rfl)
theorem rg_119_4 (h : rv_B S) : S.2.2.2 119 4 = some 139 := h.2 _ (List.mem_of_getElem? (i := 76) rfl)
theorem rg_143_2 (h : rv_B S) : rv_gR S 5 143 2 = some 144 := h.gR rfl rfl (List.mem_of_getElem? (i := 77) rfl)
theorem rg_143_3 (h : rv_B S) : rv_gR S 5 143 3 = some 145 := h.gR rfl rfl (List.mem_of_getElem? (i := 78) rfl)
theorem rg_143_4 (h : rv_B S) : rv_gR S 5 143 4 = some 146 := h.gR rfl rfl (List.mem_of_getElem? (i := 79) rfl)
theorem rg_119_5 (h : rv_B S) : S.2.2.2 119 5 = some 143 := h.2 _ (List.mem_of_getElem? (i := 80) rfl)
theorem rg_64_7 (h : rv_B S) : rv_gR S 10 64 7 = some 118 := h.gR rfl rfl (List.mem_of_getElem? (i := 81) rfl)
theorem rg_64_8 (h : rv_B S) : rv_gR S 10 64 8 = some 147 := h.gR rfl rfl (List.mem_of_getElem? (i := 82) rfl)
theorem rg_64_9 (h : rv_B S) : rv_gR S 10 64 9 = some 148 := h.gR rfl rfl (List.mem_of_getElem? (i := 83) rfl)
theorem rg_150_3 (h : rv_B S) : rv_gR S 0 150 3 = some 151 := h.gR rfl rfl (List.mem_of_getElem? (i := 84) rfl)
theorem rg_150_4 (h : rv_B S) : rv_gR S 0 150 4 = some 152 := h.gR rfl rfl (List.mem_of_getElem? (i := 85) rfl)
theorem rg_150_5 (h : rv_B S) : rv_gR S 0 150 5 = some 153 := h.gR rfl rfl (List.mem_of_getElem? (i := 86) rfl)
theorem rg_150_6 (h : rv_B S) : rv_gR S 0 150 6 = some 154 := h.gR rfl rfl (List.mem_of_getElem? (i := 87) rfl)
theorem rg_150_7 (h : rv_B S) : rv_gR S 0 150 7 = some 155 := h.gR rfl rfl (List.mem_of_getElem? (i := 88) rfl)
theorem rg_150_8 (h : rv_B S) : rv_gR S 0 150 8 = some 156 := h.gR rfl rfl (List.mem_of_getElem? (i := 89) rfl)
theorem rg_149_0 (h : rv_B S) : rv_gR S 8 149 0 = some 150 := h.gR rfl rfl (List.mem_of_getElem? (i := 90) rfl)
theorem rg_157_2 (h : rv_B S) : rv_gR S 5 157 2 = some 158 := h.gR rfl rfl (List.mem_of_getElem? (i := 91) rfl)
theorem rg_157_3 (h : rv_B S) : rv_gR S 5 157 3 = some 159 := h.gR rfl rfl (List.mem_of_getElem? (i := 92) rfl)
theorem rg_157_4 (h : rv_B S) : rv_gR S 5 157 4 = some 160 := h.gR rfl rfl (List.mem_of_getElem? (i := 93) rfl)
theorem rg_149_1 (h : rv_B S) : rv_gR S 8 149 1 = some 157 := h.gR rfl rfl (List.mem_of_getElem? (i := 94) rfl)
theorem rg_161_0 (h : rv_B S) : rv_gR S 6 161 0 = some 162 := h.gR rfl rfl (List.mem_of_getElem? (i := 95) rfl)
theorem rg_161_1 (h : rv_B S) : rv_gR S 6 161 1 = some 163 := h.gR rfl rfl (List.mem_of_getElem? (i := 96) rfl)
theorem rg_161_2 (h : rv_B S) : rv_gR S 6 161 2 = some 164 := h.gR rfl rfl (List.mem_of_getElem? (i := 97) rfl)
theorem rg_161_3 (h : rv_B S) : rv_gR S 6 161 3 = some 165 := h.gR rfl rfl (List.mem_of_getElem? (i := 98) rfl)
theorem rg_149_2 (h : rv_B S) : rv_gR S 8 149 2 = some 161 := h.gR rfl rfl (List.mem_of_getElem? (i := 99) rfl)
theorem rg_149_3 (h : rv_B S) : rv_gR S 8 149 3 = some 166 := h.gR rfl rfl (List.mem_of_getElem? (i := 100) rfl)
theorem rg_149_4 (h : rv_B S) : rv_gR S 8 149 4 = some 167 := h.gR rfl rfl (List.mem_of_getElem? (i := 101) rfl)
theorem rg_149_5 (h : rv_B S) : rv_gR S 8 149 5 = some 168 := h.gR rfl rfl (List.mem_of_getElem? (i := 102) rfl)
theorem rg_107_0 (h : rv_B S) : S.2.2.2 107 0 = some 149 := h.2 _ (List.mem_of_getElem? (i := 103) rfl)
theorem rg_170_3 (h : rv_B S) : rv_gR S 0 170 3 = some 171 := h.gR rfl rfl (List.mem_of_getElem? (i := 104) rfl)
theorem rg_170_4 (h : rv_B S) : rv_gR S 0 170 4 = some 172 := h.gR rfl rfl (List.mem_of_getElem? (i := 105) rfl)
theorem rg_170_5 (h : rv_B S) : rv_gR S 0 170 5 = some 173 := h.gR rfl rfl (List.mem_of_getElem? (i := 106) rfl)
theorem rg_170_6 (h : rv_B S) : rv_gR S 0 170 6 = some 174 := h.gR rfl rfl (List.mem_of_getElem? (i := 107) rfl)
theorem rg_170_7 (h : rv_B S) : rv_gR S 0 170 7 = some 175 := h.gR rfl rfl (List.mem_of_getElem? (i := 108) rfl)
theorem rg_170_8 (h : rv_B S) : rv_gR S 0 170 8 = some 176 := h.gR rfl rfl (List.mem_of_getElem? (i := 109) rfl)
theorem rg_169_0 (h : rv_B S) : rv_gR S 8 169 0 = some 170 := h.gR rfl rfl (List.mem_of_getElem? (i := 110) rfl)
theorem rg_177_2 (h : rv_B S) : rv_gR S 5 177 2 = some 178 := h.gR rfl rfl (List.mem_of_getElem? (i := 111) rfl)
theorem rg_177_3 (h : rv_B S) : rv_gR S 5 177 3 = some 179 := h.gR rfl rfl (List.mem_of_getElem? (i := 112) rfl)
theorem rg_177_4 (h : rv_B S) : rv_gR S 5 177 4 = some 180 := h.gR rfl rfl (List.mem_of_getElem? (i := 113) rfl)
theorem rg_169_1 (h : rv_B S) : rv_gR S 8 169 1 = some 177 := h.gR rfl rfl (List.mem_of_getElem? (i := 114) rfl)
theorem rg_181_0 (h : rv_B S) : rv_gR S 6 181 0 = some 182 := h.gR rfl rfl (List.mem_of_getElem? (i := 115) rfl)
theorem rg_181_1 (h : rv_B S) : rv_gR S 6 181 1 = some 183 := h.gR rfl rfl (List.mem_of_getElem? (i := 116) rfl)
theorem rg_181_2 (h : rv_B S) : rv_gR S 6 181 2 = some 184 := h.gR rfl rfl (List.mem_of_getElem? (i := 117) rfl)
theorem rg_181_3 (h : rv_B S) : rv_gR S 6 181 3 = some 185 := h.gR rfl rfl (List.mem_of_getElem? (i := 118) rfl)
theorem rg_169_2 (h : rv_B S) : rv_gR S 8 169 2 = some 181 := h.gR rfl rfl (List.mem_of_getElem? (i := 119) rfl)
theorem rg_169_3 (h : rv_B S) : rv_gR S 8 169 3 = some 186 := h.gR rfl rfl (List.mem_of_getElem? (i := 120) rfl)
theorem rg_169_4 (h : rv_B S) : rv_gR S 8 169 4 = some 187 := h.gR rfl rfl (List.mem_of_getElem? (i := 121) rfl)
theorem rg_169_5 (h : rv_B S) : rv_gR S 8 169 5 = some 188 := h.gR rfl rfl (List.mem_of_getElem? (i := 122) rfl)
theorem rg_107_1 (h : rv_B S) : S.2.2.2 107 1 = some 169 := h.2 _ (List.mem_of_getElem? (i := 123) rfl)
theorem rg_189_1 (h : rv_B S) : rv_gR S 11 189 1 = some 190 := h.gR rfl rfl (List.mem_of_getElem? (i := 124) rfl)
theorem rg_189_14 (h : rv_B S) : rv_gR S 11 189 14 = some 191 := h.gR rfl rfl (List.mem_of_getElem? (i := 125) rfl)
theorem rg_189_15 (h : rv_B S) : rv_gR S 11 189 15 = some 192 := h.gR rfl rfl (List.mem_of_getElem? (i := 126) rfl)
theorem rg_189_16 (h : rv_B S) : rv_gR S 11 189 16 = some 193 := h.gR rfl rfl (List.mem_of_getElem? (i := 127) rfl)
theorem rg_189_17 (h : rv_B S) : rv_gR S 11 189 17 = some 194 := h.gR rfl rfl (List.mem_of_getElem? (i := 128) rfl)
theorem rg_189_18 (h : rv_B S) : rv_gR S 11 189 18 = some 195 := h.gR rfl rfl (List.mem_of_getElem? (i := 129) rfl)
theorem rg_189_19 (h : rv_B S) : rv_gR S 11 189 19 = some 196 := h.gR rfl rfl (List.mem_of_getElem? (i := 130) rfl)
theorem rg_189_20 (h : rv_B S) : rv_gR S 11 189 20 = some 197 := h.gR rfl rfl (List.mem_of_getElem? (i := 131) rfl)
theorem rg_189_21 (h : rv_B S) : rv_gR S 11 189 21 = some 198 := h.gR rfl rfl (List.mem_of_getElem? (i := 132) rfl)
theorem rg_189_24 (h : rv_B S) : rv_gR S 11 189 24 = some 199 := h.gR rfl rfl (List.mem_of_getElem? (i := 133) rfl)
theorem rg_189_25 (h : rv_B S) : rv_gR S 11 189 25 = some 200 := h.gR rfl rfl (List.mem_of_getElem? (i := 134) rfl)
theorem rg_189_26 (h : rv_B S) : rv_gR S 11 189 26 = some 201 := h.gR rfl rfl (List.mem_of_getElem? (i := 135) rfl)
theorem rg_189_27 (h : rv_B S) : rv_gR S 11 189 27 = some 202 := h.gR rfl rfl (List.mem_of_getElem? (i := 136) rfl)
theorem rg_189_29 (h : rv_B S) : rv_gR S 11 189 29 = some 203 := h.gR rfl rfl (List.mem_of_getElem? (i := 137) rfl)
theorem rg_189_30 (h : rv_B S) : rv_gR S 11 189 30 = some 204 := h.gR rfl rfl (List.mem_of_getElem? (i := 138) rfl)
theorem rg_189_31 (h : rv_B S) : rv_gR S 11 189 31 = some 205 := h.gR rfl rfl (List.mem_of_getElem? (i := 139) rfl)
theorem rg_189_32 (h : rv_B S) : rv_gR S 11 189 32 = some 206 := h.gR rfl rfl (List.mem_of_getElem? (i := 140) rfl)
theorem rg_189_33 (h : rv_B S) : rv_gR S 11 189 33 = some 207 := h.gR rfl rfl (List.mem_of_getElem? (i := 141) rfl)
theorem rg_189_34 (h : rv_B S) : rv_gR S 11 189 34 = some 208 := h.gR rfl rfl (List.mem_of_getElem? (i := 142) rfl)
theorem rg_189_38 (h : rv_B S) : rv_gR S 11 189 38 = some 209 := h.gR rfl rfl (List.mem_of_getElem? (i := 143) rfl)
theorem rg_189_39 (h : rv_B S) : rv_gR S 11 189 39 = some 210 := h.gR rfl rfl (List.mem_of_getElem? (i := 144) rfl)
theorem rg_189_40 (h : rv_B S) : rv_gR S 11 189 40 = some 211 := h.gR rfl rfl (List.mem_of_getElem? (i := 145) rfl)
theorem rg_189_44 (h : rv_B S) : rv_gR S 11 189 44 = some 212 := h.gR rfl rfl (List.mem_of_getElem? (i := 146) rfl)
theorem rg_189_45 (h : rv_B S) : rv_gR S 11 189 45 = some 213 := h.gR rfl rfl (List.mem_of_getElem? (i := 147) rfl)
theorem rg_189_46 (h : rv_B S) : rv_gR S 11 189 46 = some 214 := h.gR rfl rfl (List.mem_of_getElem? (i := 148) rfl)
theorem rg_189_54 (h : rv_B S) : rv_gR S 11 189 54 = some 215 := h.gR rfl rfl (List.mem_of_getElem? (i := 149) rfl)
theorem rg_189_55 (h : rv_B S) : rv_gR S 11 189 55 = some 216 := h.gR rfl rfl (List.mem_of_getElem? (i := 150) rfl)
theorem rc_64 (h : rv_B S) : rv_ck S 10 64 = some () := h.ck rfl rfl
theorem ri_64 (h : rv_B S) (k : Nat) : rv_gI S 10 64 k = some (S.2.1 64 k) := h.gI k rfl rfl
theorem rl_64 (h : rv_B S) (k : Nat) : rv_gL S 10 64 k = some (S.2.2.1 64 k) := h.gL k rfl rfl
theorem rp_64 (h : rv_B S) (k : Nat) (v : Int32) : rv_pI S 10 64 k v = some (rv_sI S 64 k v) := h.pI k v rfl rfl
theorem rq_64 (h : rv_B S) (k : Nat) (v : Int64) : rv_pL S 10 64 k v = some (rv_sL S 64 k v) := h.pL k v rfl rfl
theorem rc_65 (h : rv_B S) : rv_ck S 7 65 = some () := h.ck rfl rfl
theorem ri_65 (h : rv_B S) (k : Nat) : rv_gI S 7 65 k = some (S.2.1 65 k) := h.gI k rfl rfl
theorem rl_65 (h : rv_B S) (k : Nat) : rv_gL S 7 65 k = some (S.2.2.1 65 k) := h.gL k rfl rfl
theorem rp_65 (h : rv_B S) (k : Nat) (v : Int32) : rv_pI S 7 65 k v = some (rv_sI S 65 k v) := h.pI k v rfl rfl
theorem rq_65 (h : rv_B S) (k : Nat) (v : Int64) : rv_pL S 7 65 k v = some (rv_sL S 65 k v) := h.pL k v rfl rfl
theorem rn_66 (h : rv_B S) : rv_ln S 2 66 = some 940 := h.ln rfl rfl
theorem rc_67 (h : rv_B S) : rv_ck S 8 67 = some () := h.ck rfl rfl
theorem ri_67 (h : rv_B S) (k : Nat) : rv_gI S 8 67 k = some (S.2.1 67 k) := h.gI k rfl rfl
theorem rl_67 (h : rv_B S) (k : Nat) : rv_gL S 8 67 k = some (S.2.2.1 67 k) := h.gL k rfl rfl
theorem rp_67 (h : rv_B S) (k : Nat) (v : Int32) : rv_pI S 8 67 k v = some (rv_sI S 67 k v) := h.pI k v rfl rfl
theorem rq_67 (h : rv_B S) (k : Nat) (v : Int64) : rv_pL S 8 67 k v = some (rv_sL S 67 k v) := h.pL k v rfl rfl
theorem rc_68 (h : rv_B S) : rv_ck S 0 68 = some () := h.ck rfl rfl
theorem ri_68 (h : rv_B S) (k : Nat) : rv_gI S 0 68 k = some (S.2.1 68 k) := h.gI k rfl rfl
theorem rl_68 (h : rv_B S) (k : Nat) : rv_gL S 0 68 k = some (S.2.2.1 68 k) := h.gL k rfl rfl
theorem rp_68 (h : rv_B S) (k : Nat) (v : Int32) : rv_pI S 0 68 k v = some (rv_sI S 68 k v) := h.pI k v rfl rfl
theorem rq_68 (h : rv_B S) (k : Nat) (v : Int64) : rv_pL S 0 68 k v = some (rv_sL S 68 k v) := h.pL k v rfl rfl
theorem rn_69 (h : rv_B S) : rv_ln S 0 69 = some 24 := h.ln rfl rfl
theorem rn_70 (h : rv_B S) : rv_ln S 0 70 = some 24 := h.ln rfl rfl
theorem rn_71 (h : rv_B S) : rv_ln S 0 71 = some 24 := h.ln rfl rfl
theorem rn_72 (h : rv_B S) : rv_ln S 1 72 = some 24 := h.ln rfl rfl
theorem rn_73 (h : rv_B S) : rv_ln S 0 73 = some 4 := h.ln rfl rfl
theorem rn_74 (h : rv_B S) : rv_ln S 0 74 = some 4 := h.ln rfl rfl
theorem rc_75 (h : rv_B S) : rv_ck S 5 75 = some () := h.ck rfl rfl
theorem ri_75 (h : rv_B S) (k : Nat) : rv_gI S 5 75 k = some (S.2.1 75 k) := h.gI k rfl rfl
theorem rl_75 (h : rv_B S) (k : Nat) : rv_gL S 5 75 k = some (S.2.2.1 75 k) := h.gL k rfl rfl
theorem rp_75 (h : rv_B S) (k : Nat) (v : Int32) : rv_pI S 5 75 k v = some (rv_sI S 75 k v) := h.pI k v rfl rfl
theorem rq_75 (h : rv_B S) (k : Nat) (v : Int64) : rv_pL S 5 75 k v = some (rv_sL S 75 k v) := h.pL k v rfl rfl
theorem rn_76 (h : rv_B S) : rv_ln S 0 76 = some 40 := h.ln rfl rfl
theorem rn_77 (h : rv_B S) : rv_ln S 0 77 = some 40 := h.ln rfl rfl
theorem rn_78 (h : rv_B S) : rv_ln S 0 78 = some 40 := h.ln rfl rfl
theorem rc_79 (h : rv_B S) : rv_ck S 6 79 = some () := h.ck rfl rfl
theorem ri_79 (h : rv_B S) (k : Nat) : rv_gI S 6 79 k = some (S.2.1 79 k) := h.gI k rfl rfl
theorem rl_79 (h : rv_B S) (k : Nat) : rv_gL S 6 79 k = some (S.2.2.1 79 k) := h.gL k rfl rfl
theorem rp_79 (h : rv_B S) (k : Nat) (v : Int32) : rv_pI S 6 79 k v = some (rv_sI S 79 k v) := h.pI k v rfl rfl
theorem rq_79 (h : rv_B S) (k : Nat) (v : Int64) : rv_pL S 6 79 k v = some (rv_sL S 79 k v) := h.pL k v rfl rfl
theorem rn_80 (h : rv_B S) : rv_ln S 4 80 = some 40 := h.ln rfl rfl
theorem rn_81 (h : rv_B S) : rv_ln S 0 81 = some 40 := h.ln rfl rfl
theorem rn_82 (h : rv_B S) : rv_ln S 0 82 = some 40 := h.ln rfl rfl
theorem rn_83 (h : rv_B S) : rv_ln S 1 83 = some 40 := h.ln rfl rfl
theorem rn_84 (h : rv_B S) : rv_ln S 0 84 = some 12 := h.ln rfl rfl
theorem rn_85 (h : rv_B S) : rv_ln S 0 85 = some 12 := h.ln rfl rfl
theorem rn_86 (h : rv_B S) : rv_ln S 0 86 = some 12 := h.ln rfl rfl
theorem rc_87 (h : rv_B S) : rv_ck S 8 87 = some () := h.ck rfl rfl
theorem ri_87 (h : rv_B S) (k : Nat) : rv_gI S 8 87 k = some (S.2.1 87 k) := h.gI k rfl rfl
theorem rl_87 (h : rv_B S) (k : Nat) : rv_gL S 8 87 k = some (S.2.2.1 87 k) := h.gL k rfl rfl
theorem rp_87 (h : rv_B S) (k : Nat) (v : Int32) : rv_pI S 8 87 k v = some (rv_sI S 87 k v) := h.pI k v rfl rfl
theorem rq_87 (h : rv_B S) (k : Nat) (v : Int64) : rv_pL S 8 87 k v = some (rv_sL S 87 k v) := h.pL k v rfl rfl
theorem rc_88 (h : rv_B S) : rv_ck S 0 88 = some () := h.ck rfl rfl
theorem ri_88 (h : rv_B S) (k : Nat) : rv_gI S 0 88 k = some (S.2.1 88 k) := h.gI k rfl rfl
theorem rl_88 (h : rv_B S) (k : Nat) : rv_gL S 0 88 k = some (S.2.2.1 88 k) := h.gL k rfl rfl
theorem rp_88 (h : rv_B S) (k : Nat) (v : Int32) : rv_pI S 0 88 k v = some (rv_sI S 88 k v) := h.pI k v rfl rfl
theorem rq_88 (h : rv_B S) (k : Nat) (v : Int64) : rv_pL S 0 88 k v = some (rv_sL S 88 k v) := h.pL k v rfl rfl
theorem rn_89 (h : rv_B S) : rv_ln S 0 89 = some 24 := h.ln rfl rfl
theorem rn_90 (h : rv_B S) : rv_ln S 0 90 = some 24 := h.ln rfl rfl
theorem rn_91 (h : rv_B S) : rv_ln S 0 91 = some 24 := h.ln rfl rfl
theorem rn_92 (h : rv_B S) : rv_ln S 1 92 = some 24 := h.ln rfl rfl
theorem rn_93 (h : rv_B S) : rv_ln S 0 93 = some 4 := h.ln rfl rfl
theorem rn_94 (h : rv_B S) : rv_ln S 0 94 = some 4 := h.ln rfl rfl
theorem rc_95 (h : rv_B S) : rv_ck S 5 95 = some () := h.ck rfl rfl
theorem ri_95 (h : rv_B S) (k : Nat) : rv_gI S 5 95 k = some (S.2.1 95 k) := h.gI k rfl rfl
theorem rl_95 (h : rv_B S) (k : Nat) : rv_gL S 5 95 k = some (S.2.2.1 95 k) := h.gL k rfl rfl
theorem rp_95 (h : rv_B S) (k : Nat) (v : Int32) : rv_pI S 5 95 k v = some (rv_sI S 95 k v) := h.pI k v rfl rfl
theorem rq_95 (h : rv_B S) (k : Nat) (v : Int64) : rv_pL S 5 95 k v = some (rv_sL S 95 k v) := h.pL k v rfl rfl
theorem rn_96 (h : rv_B S) : rv_ln S 0 96 = some 40 := h.ln rfl rfl
theorem rn_97 (h : rv_B S) : rv_ln S 0 97 = some 40 := h.ln rfl rfl
theorem rn_98 (h : rv_B S) : rv_ln S 0 98 = some 40 := h.ln rfl rfl
theorem rc_99 (h : rv_B S) : rv_ck S 6 99 = some () := h.ck rfl rfl
theorem ri_99 (h : rv_B S) (k : Nat) : rv_gI S 6 99 k = some (S.2.1 99 k) := h.gI k rfl rfl
theorem rl_99 (h : rv_B S) (k : Nat) : rv_gL S 6 99 k = some (S.2.2.1 99 k) := h.gL k rfl rfl
theorem rp_99 (h : rv_B S) (k : Nat) (v : Int32) : rv_pI S 6 99 k v = some (rv_sI S 99 k v) := h.pI k v rfl rfl
theorem rq_99 (h : rv_B S) (k : Nat) (v : Int64) : rv_pL S 6 99 k v = some (rv_sL S 99 k v) := h.pL k v rfl rfl
theorem rn_100 (h : rv_B S) : rv_ln S 4 100 = some 40 := h.ln rfl rfl
theorem rn_101 (h : rv_B S) : rv_ln S 0 101 = some 40 := h.ln rfl rfl
theorem rn_102 (h : rv_B S) : rv_ln S 0 102 = some 40 := h.ln rfl rfl
theorem rn_103 (h : rv_B S) : rv_ln S 1 103 = some 40 := h.ln rfl rfl
theorem rn_104 (h : rv_B S) : rv_ln S 0 104 = some 12 := h.ln rfl rfl
theorem rn_105 (h : rv_B S) : rv_ln S 0 105 = some 12 := h.ln rfl rfl
theorem rn_106 (h : rv_B S) : rv_ln S 0 106 = some 12 := h.ln rfl rfl
theorem rn_107 (h : rv_B S) : rv_ln S 5 107 = some 2 := h.ln rfl rfl
theorem rc_108 (h : rv_B S) : rv_ck S 4 108 = some () := h.ck rfl rfl
theorem ri_108 (h : rv_B S) (k : Nat) : rv_gI S 4 108 k = some (S.2.1 108 k) := h.gI k rfl rfl
theorem rl_108 (h : rv_B S) (k : Nat) : rv_gL S 4 108 k = some (S.2.2.1 108 k) := h.gL k rfl rfl
theorem rp_108 (h : rv_B S) (k : Nat) (v : Int32) : rv_pI S 4 108 k v = some (rv_sI S 108 k v) := h.pI k v rfl rfl
theorem rq_108 (h : rv_B S) (k : Nat) (v : Int64) : rv_pL S 4 108 k v = some (rv_sL S 108 k v) := h.pL k v rfl rfl
theorem rn_109 (h : rv_B S) : rv_ln S 1 109 = some 1000 := h.ln rfl rfl
theorem rn_110 (h : rv_B S) : rv_ln S 1 110 = some 10000 := h.ln rfl rfl
theorem rc_111 (h : rv_B S) : rv_ck S 1 111 = some () := h.ck rfl rfl
theorem ri_111 (h : rv_B S) (k : Nat) : rv_gI S 1 111 k = some (S.2.1 111 k) := h.gI k rfl rfl
theorem rl_111 (h : rv_B S) (k : Nat) : rv_gL S 1 111 k = some (S.2.2.1 111 k) := h.gL k rfl rfl
theorem rp_111 (h : rv_B S) (k : Nat) (v : Int32) : rv_pI S 1 111 k v = some (rv_sI S 111 k v) := h.pI k v rfl rfl
theorem rq_111 (h : rv_B S) (k : Nat) (v : Int64) : rv_pL S 1 111 k v = some (rv_sL S 111 k v) := h.pL k v rfl rfl
theorem rn_112 (h : rv_B S) : rv_ln S 1 112 = some 5860 := h.ln rfl rfl
theorem rn_113 (h : rv_B S) : rv_ln S 1 113 = some 5860 := h.ln rfl rfl
theorem rn_114 (h : rv_B S) : rv_ln S 1 114 = some 266240 := h.ln rfl rfl
theorem rn_115 (h : rv_B S) : rv_ln S 0 115 = some 1024 := h.ln rfl rfl
theorem rn_116 (h : rv_B S) : rv_ln S 0 116 = some 5 := h.ln rfl rfl
theorem rn_117 (h : rv_B S) : rv_ln S 0 117 = some 5 := h.ln rfl rfl
theorem rc_118 (h : rv_B S) : rv_ck S 3 118 = some () := h.ck rfl rfl
theorem ri_118 (h : rv_B S) (k : Nat) : rv_gI S 3 118 k = some (S.2.1 118 k) := h.gI k rfl rfl
theorem rl_118 (h : rv_B S) (k : Nat) : rv_gL S 3 118 k = some (S.2.2.1 118 k) := h.gL k rfl rfl
theorem rp_118 (h : rv_B S) (k : Nat) (v : Int32) : rv_pI S 3 118 k v = some (rv_sI S 118 k v) := h.pI k v rfl rfl
theorem rq_118 (h : rv_B S) (k : Nat) (v : Int64) : rv_pL S 3 118 k v = some (rv_sL S 118 k v) := h.pL k v rfl rfl
theorem rn_119 (h : rv_B S) : rv_ln S 6 119 = some 6 := h.ln rfl rfl
theorem rn_120 (h : rv_B S) : rv_ln S 0 120 = some 5 := h.ln rfl rfl
theorem rn_121 (h : rv_B S) : rv_ln S 0 121 = some 5 := h.ln rfl rfl
theorem rn_122 (h : rv_B S) : rv_ln S 0 122 = some 5 := h.ln rfl rfl
theorem rc_123 (h : rv_B S) : rv_ck S 5 123 = some () := h.ck rfl rfl
theorem ri_123 (h : rv_B S) (k : Nat) : rv_gI S 5 123 k = some (S.2.1 123 k) := h.gI k rfl rfl
theorem rl_123 (h : rv_B S) (k : Nat) : rv_gL S 5 123 k = some (S.2.2.1 123 k) := h.gL k rfl rfl
theorem rp_123 (h : rv_B S) (k : Nat) (v : Int32) : rv_pI S 5 123 k v = some (rv_sI S 123 k v) := h.pI k v rfl rfl
theorem rq_123 (h : rv_B S) (k : Nat) (v : Int64) : rv_pL S 5 123 k v = some (rv_sL S 123 k v) := h.pL k v rfl rfl
theorem rn_124 (h : rv_B S) : rv_ln S 0 124 = some 40 := h.ln rfl rfl
theorem rn_125 (h : rv_B S) : rv_ln S 0 125 = some 40 := h.ln rfl rfl
theorem rn_126 (h : rv_B S) : rv_ln S 0 126 = some 40 := h.ln rfl rfl
theorem rc_127 (h : rv_B S) : rv_ck S 5 127 = some () := h.ck rfl rfl
theorem ri_127 (h : rv_B S) (k : Nat) : rv_gI S 5 127 k = some (S.2.1 127 k) := h.gI k rfl rfl
theorem rl_127 (h : rv_B S) (k : Nat) : rv_gL S 5 127 k = some (S.2.2.1 127 k) := h.gL k rfl rfl
theorem rp_127 (h : rv_B S) (k : Nat) (v : Int32) : rv_pI S 5 127 k v = some (rv_sI S 127 k v) := h.pI k v rfl rfl
theorem rq_127 (h : rv_B S) (k : Nat) (v : Int64) : rv_pL S 5 127 k v = some (rv_sL S 127 k v) := h.pL k v rfl rfl
theorem rn_128 (h : rv_B S) : rv_ln S 0 128 = some 40 := h.ln rfl rfl
theorem rn_129 (h : rv_B S) : rv_ln S 0 129 = some 40 := h.ln rfl rfl
theorem rn_130 (h : rv_B S) : rv_ln S 0 130 = some 40 := h.ln rfl rfl
theorem rc_131 (h : rv_B S) : rv_ck S 5 131 = some () := h.ck rfl rfl
theorem ri_131 (h : rv_B S) (k : Nat) : rv_gI S 5 131 k = some (S.2.1 131 k) := h.gI k rfl rfl
theorem rl_131 (h : rv_B S) (k : Nat) : rv_gL S 5 131 k = some (S.2.2.1 131 k) := h.gL k rfl rfl
theorem rp_131 (h : rv_B S) (k : Nat) (v : Int32) : rv_pI S 5 131 k v = some (rv_sI S 131 k v) := h.pI k v rfl rfl
theorem rq_131 (h : rv_B S) (k : Nat) (v : Int64) : rv_pL S 5 131 k v = some (rv_sL S 131 k v) := h.pL k v rfl rfl
theorem rn_132 (h : rv_B S) : rv_ln S 0 132 = some 40 := h.ln rfl rfl
theorem rn_133 (h : rv_B S) : rv_ln S 0 133 = some 40 := h.ln rfl rfl
theorem rn_134 (h : rv_B S) : rv_ln S 0 134 = some 40 := h.ln rfl rfl
theorem rc_135 (h : rv_B S) : rv_ck S 5 135 = some () := h.ck rfl rfl
theorem ri_135 (h : rv_B S) (k : Nat) : rv_gI S 5 135 k = some (S.2.1 135 k) := h.gI k rfl rfl
theorem rl_135 (h : rv_B S) (k : Nat) : rv_gL S 5 135 k = some (S.2.2.1 135 k) := h.gL k rfl rfl
theorem rp_135 (h : rv_B S) (k : Nat) (v : Int32) : rv_pI S 5 135 k v = some (rv_sI S 135 k v) := h.pI k v rfl rfl
theorem rq_135 (h : rv_B S) (k : Nat) (v : Int64) : rv_pL S 5 135 k v = some (rv_sL S 135 k v) := h.pL k v rfl rfl
theorem rn_136 (h : rv_B S) : rv_ln S 0 136 = some 40 := h.ln rfl rfl
theorem rn_137 (h : rv_B S) : rv_ln S 0 137 = some 40 := h.ln rfl rfl
theorem rn_138 (h : rv_B S) : rv_ln S 0 138 = some 40 := h.ln rfl rfl
theorem rc_139 (h : rv_B S) : rv_ck S 5 139 = some () := h.ck rfl rfl
theorem ri_139 (h : rv_B S) (k : Nat) : rv_gI S 5 139 k = some (S.2.1 139 k) := h.gI k rfl rfl
theorem rl_139 (h : rv_B S) (k : Nat) : rv_gL S 5 139 k = some (S.2.2.1 139 k) := h.gL k rfl rfl
theorem rp_139 (h : rv_B S) (k : Nat) (v : Int32) : rv_pI S 5 139 k v = some (rv_sI S 139 k v) := h.pI k v rfl rfl
theorem rq_139 (h : rv_B S) (k : Nat) (v : Int64) : rv_pL S 5 139 k v = some (rv_sL S 139 k v) := h.pL k v rfl rfl
theorem rn_140 (h : rv_B S) : rv_ln S 0 140 = some 40 := h.ln rfl rfl
theorem rn_141 (h : rv_B S) : rv_ln S 0 141 = some 40 := h.ln rfl rfl
theorem rn_142 (h : rv_B S) : rv_ln S 0 142 = some 40 := h.ln rfl rfl
theorem rc_143 (h : rv_B S) : rv_ck S 5 143 = some () := h.ck rfl rfl
theorem ri_143 (h : rv_B S) (k : Nat) : rv_gI S 5 143 k = some (S.2.1 143 k) := h.gI k rfl rfl
theorem rl_143 (h : rv_B S) (k : Nat) : rv_gL S 5 143 k = some (S.2.2.1 143 k) := h.gL k rfl rfl
theorem rp_143 (h : rv_B S) (k : Nat) (v : Int32) : rv_pI S 5 143 k v = some (rv_sI S 143 k v) := h.pI k v rfl rfl
theorem rq_143 (h : rv_B S) (k : Nat) (v : Int64) : rv_pL S 5 143 k v = some (rv_sL S 143 k v) := h.pL k v rfl rfl
theorem rn_144 (h : rv_B S) : rv_ln S 0 144 = some 40 := h.ln rfl rfl
theorem rn_145 (h : rv_B S) : rv_ln S 0 145 = some 40 := h.ln rfl rfl
theorem rn_146 (h : rv_B S) : rv_ln S 0 146 = some 40 := h.ln rfl rfl
theorem rc_147 (h : rv_B S) : rv_ck S 2 147 = some () := h.ck rfl rfl
theorem ri_147 (h : rv_B S) (k : Nat) : rv_gI S 2 147 k = some (S.2.1 147 k) := h.gI k rfl rfl
theorem rl_147 (h : rv_B S) (k : Nat) : rv_gL S 2 147 k = some (S.2.2.1 147 k) := h.gL k rfl rfl
theorem rp_147 (h : rv_B S) (k : Nat) (v : Int32) : rv_pI S 2 147 k v = some (rv_sI S 147 k v) := h.pI k v rfl rfl
theorem rq_147 (h : rv_B S) (k : Nat) (v : Int64) : rv_pL S 2 147 k v = some (rv_sL S 147 k v) := h.pL k v rfl rfl
theorem rc_148 (h : rv_B S) : rv_ck S 2 148 = some () := h.ck rfl rfl
theorem ri_148 (h : rv_B S) (k : Nat) : rv_gI S 2 148 k = some (S.2.1 148 k) := h.gI k rfl rfl
theorem rl_148 (h : rv_B S) (k : Nat) : rv_gL S 2 148 k = some (S.2.2.1 148 k) := h.gL k rfl rfl
theorem rp_148 (h : rv_B S) (k : Nat) (v : Int32) : rv_pI S 2 148 k v = some (rv_sI S 148 k v) := h.pI k v rfl rfl
theorem rq_148 (h : rv_B S) (k : Nat) (v : Int64) : rv_pL S 2 148 k v = some (rv_sL S 148 k v) := h.pL k v rfl rfl
theorem rc_149 (h : rv_B S) : rv_ck S 8 149 = some () := h.ck rfl rfl
theorem ri_149 (h : rv_B S) (k : Nat) : rv_gI S 8 149 k = some (S.2.1 149 k) := h.gI k rfl rfl
theorem rl_149 (h : rv_B S) (k : Nat) : rv_gL S 8 149 k = some (S.2.2.1 149 k) := h.gL k rfl rfl
theorem rp_149 (h : rv_B S) (k : Nat) (v : Int32) : rv_pI S 8 149 k v = some (rv_sI S 149 k v) := h.pI k v rfl rfl
theorem rq_149 (h : rv_B S) (k : Nat) (v : Int64) : rv_pL S 8 149 k v = some (rv_sL S 149 k v) := h.pL k v rfl rfl
theorem rc_150 (h : rv_B S) : rv_ck S 0 150 = some () := h.ck rfl rfl
theorem ri_150 (h : rv_B S) (k : Nat) : rv_gI S 0 150 k = some (S.2.1 150 k) := h.gI k rfl rfl
theorem rl_150 (h : rv_B S) (k : Nat) : rv_gL S 0 150 k = some (S.2.2.1 150 k) := h.gL k rfl rfl
theorem rp_150 (h : rv_B S) (k : Nat) (v : Int32) : rv_pI S 0 150 k v = some (rv_sI S 150 k v) := h.pI k v rfl rfl
theorem rq_150 (h : rv_B S) (k : Nat) (v : Int64) : rv_pL S 0 150 k v = some (rv_sL S 150 k v) := h.pL k v rfl rfl
theorem rn_151 (h : rv_B S) : rv_ln S 0 151 = some 24 := h.ln rfl rfl
theorem rn_152 (h : rv_B S) : rv_ln S 0 152 = some 24 := h.ln rfl rfl
theorem rn_153 (h : rv_B S) : rv_ln S 0 153 = some 24 := h.ln rfl rfl
theorem rn_154 (h : rv_B S) : rv_ln S 1 154 = some 24 := h.ln rfl rfl
theorem rn_155 (h : rv_B S) : rv_ln S 0 155 = some 4 := h.ln rfl rfl
theorem rn_156 (h : rv_B S) : rv_ln S 0 156 = some 4 := h.ln rfl rfl
theorem rc_157 (h : rv_B S) : rv_ck S 5 157 = some () := h.ck rfl rfl
theorem ri_157 (h : rv_B S) (k : Nat) : rv_gI S 5 157 k = some (S.2.1 157 k) := h.gI k rfl rfl
theorem rl_157 (h : rv_B S) (k : Nat) : rv_gL S 5 157 k = some (S.2.2.1 157 k) := h.gL k rfl rfl
theorem rp_157 (h : rv_B S) (k : Nat) (v : Int32) : rv_pI S 5 157 k v = some (rv_sI S 157 k v) := h.pI k v rfl rfl
theorem rq_157 (h : rv_B S) (k : Nat) (v : Int64) : rv_pL S 5 157 k v = some (rv_sL S 157 k v) := h.pL k v rfl rfl
theorem rn_158 (h : rv_B S) : rv_ln S 0 158 = some 40 := h.ln rfl rfl
theorem rn_159 (h : rv_B S) : rv_ln S 0 159 = some 40 := h.ln rfl rfl
theorem rn_160 (h : rv_B S) : rv_ln S 0 160 = some 40 := h.ln rfl rfl
theorem rc_161 (h : rv_B S) : rv_ck S 6 161 = some () := h.ck rfl rfl
theorem ri_161 (h : rv_B S) (k : Nat) : rv_gI S 6 161 k = some (S.2.1 161 k) := h.gI k rfl rfl
theorem rl_161 (h : rv_B S) (k : Nat) : rv_gL S 6 161 k = some (S.2.2.1 161 k) := h.gL k rfl rfl
theorem rp_161 (h : rv_B S) (k : Nat) (v : Int32) : rv_pI S 6 161 k v = some (rv_sI S 161 k v) := h.pI k v rfl rfl
theorem rq_161 (h : rv_B S) (k : Nat) (v : Int64) : rv_pL S 6 161 k v = some (rv_sL S 161 k v) := h.pL k v rfl rfl
theorem rn_162 (h : rv_B S) : rv_ln S 4 162 = some 40 := h.ln rfl rfl
theorem rn_163 (h : rv_B S) : rv_ln S 0 163 = some 40 := h.ln rfl rfl
theorem rn_164 (h : rv_B S) : rv_ln S 0 164 = some 40 := h.ln rfl rfl
theorem rn_165 (h : rv_B S) : rv_ln S 1 165 = some 40 := h.ln rfl rfl
theorem rn_166 (h : rv_B S) : rv_ln S 0 166 = some 12 := h.ln rfl rfl
theorem rn_167 (h : rv_B S) : rv_ln S 0 167 = some 12 := h.ln rfl rfl
theorem rn_168 (h : rv_B S) : rv_ln S 0 168 = some 12 := h.ln rfl rfl
theorem rc_169 (h : rv_B S) : rv_ck S 8 169 = some () := h.ck rfl rfl
theorem ri_169 (h : rv_B S) (k : Nat) : rv_gI S 8 169 k = some (S.2.1 169 k) := h.gI k rfl rfl
theorem rl_169 (h : rv_B S) (k : Nat) : rv_gL S 8 169 k = some (S.2.2.1 169 k) := h.gL k rfl rfl
theorem rp_169 (h : rv_B S) (k : Nat) (v : Int32) : rv_pI S 8 169 k v = some (rv_sI S 169 k v) := h.pI k v rfl rfl
theorem rq_169 (h : rv_B S) (k : Nat) (v : Int64) : rv_pL S 8 169 k v = some (rv_sL S 169 k v) := h.pL k v rfl rfl
theorem rc_170 (h : rv_B S) : rv_ck S 0 170 = some () := h.ck rfl rfl
theorem ri_170 (h : rv_B S) (k : Nat) : rv_gI S 0 170 k = some (S.2.1 170 k) := h.gI k rfl rfl
theorem rl_170 (h : rv_B S) (k : Nat) : rv_gL S 0 170 k = some (S.2.2.1 170 k) := h.gL k rfl rfl
theorem rp_170 (h : rv_B S) (k : Nat) (v : Int32) : rv_pI S 0 170 k v = some (rv_sI S 170 k v) := h.pI k v rfl rfl
theorem rq_170 (h : rv_B S) (k : Nat) (v : Int64) : rv_pL S 0 170 k v = some (rv_sL S 170 k v) := h.pL k v rfl rfl
theorem rn_171 (h : rv_B S) : rv_ln S 0 171 = some 24 := h.ln rfl rfl
theorem rn_172 (h : rv_B S) : rv_ln S 0 172 = some 24 := h.ln rfl rfl
theorem rn_173 (h : rv_B S) : rv_ln S 0 173 = some 24 := h.ln rfl rfl
theorem rn_174 (h : rv_B S) : rv_ln S 1 174 = some 24 := h.ln rfl rfl
theorem rn_175 (h : rv_B S) : rv_ln S 0 175 = some 4 := h.ln rfl rfl
theorem rn_176 (h : rv_B S) : rv_ln S 0 176 = some 4 := h.ln rfl rfl
theorem rc_177 (h : rv_B S) : rv_ck S 5 177 = some () := h.ck rfl rfl
theorem ri_177 (h : rv_B S) (k : Nat) : rv_gI S 5 177 k = some (S.2.1 177 k) := h.gI k rfl rfl
theorem rl_177 (h : rv_B S) (k : Nat) : rv_gL S 5 177 k = some (S.2.2.1 177 k) := h.gL k rfl rfl
theorem rp_177 (h : rv_B S) (k : Nat) (v : Int32) : rv_pI S 5 177 k v = some (rv_sI S 177 k v) := h.pI k v rfl rfl
theorem rq_177 (h : rv_B S) (k : Nat) (v : Int64) : rv_pL S 5 177 k v = some (rv_sL S 177 k v) := h.pL k v rfl rfl
theorem rn_178 (h : rv_B S) : rv_ln S 0 178 = some 40 := h.ln rfl rfl
theorem rn_179 (h : rv_B S) : rv_ln S 0 179 = some 40 := h.ln rfl rfl
theorem rn_180 (h : rv_B S) : rv_ln S 0 180 = some 40 := h.ln rfl rfl
theorem rc_181 (h : rv_B S) : rv_ck S 6 181 = some () := h.ck rfl rfl
theorem ri_181 (h : rv_B S) (k : Nat) : rv_gI S 6 181 k = some (S.2.1 181 k) := h.gI k rfl rfl
theorem rl_181 (h : rv_B S) (k : Nat) : rv_gL S 6 181 k = some (S.2.2.1 181 k) := h.gL k rfl rfl
theorem rp_181 (h : rv_B S) (k : Nat) (v : Int32) : rv_pI S 6 181 k v = some (rv_sI S 181 k v) := h.pI k v rfl rfl
theorem rq_181 (h : rv_B S) (k : Nat) (v : Int64) : rv_pL S 6 181 k v = some (rv_sL S 181 k v) := h.pL k v rfl rfl
theorem rn_182 (h : rv_B S) : rv_ln S 4 182 = some 40 := h.ln rfl rfl
theorem rn_183 (h : rv_B S) : rv_ln S 0 183 = some 40 := h.ln rfl rfl
theorem rn_184 (h : rv_B S) : rv_ln S 0 184 = some 40 := h.ln rfl rfl
theorem rn_185 (h : rv_B S) : rv_ln S 1 185 = some 40 := h.ln rfl rfl
theorem rn_186 (h : rv_B S) : rv_ln S 0 186 = some 12 := h.ln rfl rfl
theorem rn_187 (h : rv_B S) : rv_ln S 0 187 = some 12 := h.ln rfl rfl
theorem rn_188 (h : rv_B S) : rv_ln S 0 188 = some 12 := h.ln rfl rfl
theorem rc_189 (h : rv_B S) : rv_ck S 11 189 = some () := h.ck rfl rfl
theorem ri_189 (h : rv_B S) (k : Nat) : rv_gI S 11 189 k = some (S.2.1 189 k) := h.gI k rfl rfl
theorem rl_189 (h : rv_B S) (k : Nat) : rv_gL S 11 189 k = some (S.2.2.1 189 k) := h.gL k rfl rfl
theorem rp_189 (h : rv_B S) (k : Nat) (v : Int32) : rv_pI S 11 189 k v = some (rv_sI S 189 k v) := h.pI k v rfl rfl
theorem rq_189 (h : rv_B S) (k : Nat) (v : Int64) : rv_pL S 11 189 k v = some (rv_sL S 189 k v) := h.pL k v rfl rfl
theorem rn_190 (h : rv_B S) : rv_ln S 0 190 = some 940 := h.ln rfl rfl
theorem rn_191 (h : rv_B S) : rv_ln S 0 191 = some 662 := h.ln rfl rfl
theorem rn_192 (h : rv_B S) : rv_ln S 0 192 = some 420 := h.ln rfl rfl
theorem rn_193 (h : rv_B S) : rv_ln S 0 193 = some 1324 := h.ln rfl rfl
theorem rn_194 (h : rv_B S) : rv_ln S 0 194 = some 420 := h.ln rfl rfl
theorem rn_195 (h : rv_B S) : rv_ln S 1 195 = some 16 := h.ln rfl rfl
theorem rn_196 (h : rv_B S) : rv_ln S 1 196 = some 16 := h.ln rfl rfl
theorem rn_197 (h : rv_B S) : rv_ln S 1 197 = some 32 := h.ln rfl rfl
theorem rn_198 (h : rv_B S) : rv_ln S 3 198 = some 2 := h.ln rfl rfl
theorem rn_199 (h : rv_B S) : rv_ln S 0 199 = some 5 := h.ln rfl rfl
theorem rn_200 (h : rv_B S) : rv_ln S 0 200 = some 410000 := h.ln rfl rfl
theorem rn_201 (h : rv_B S) : rv_ln S 0 201 = some 40 := h.ln rfl rfl
theorem rn_202 (h : rv_B S) : rv_ln S 0 202 = some 40 := h.ln rfl rfl
theorem rn_203 (h : rv_B S) : rv_ln S 3 203 = some 100 := h.ln rfl rfl
theorem rn_204 (h : rv_B S) : rv_ln S 3 204 = some 100 := h.ln rfl rfl
theorem rn_205 (h : rv_B S) : rv_ln S 0 205 = some 390625 := h.ln rfl rfl
theorem rn_206 (h : rv_B S) : rv_ln S 0 206 = some 390625 := h.ln rfl rfl
theorem rn_207 (h : rv_B S) : rv_ln S 0 207 = some 390625 := h.ln rfl rfl
theorem rn_208 (h : rv_B S) : rv_ln S 0 208 = some 2000 := h.ln rfl rfl
theorem rn_209 (h : rv_B S) : rv_ln S 0 209 = some 5 := h.ln rfl rfl
theorem rn_210 (h : rv_B S) : rv_ln S 0 210 = some 5 := h.ln rfl rfl
theorem rn_211 (h : rv_B S) : rv_ln S 0 211 = some 5 := h.ln rfl rfl
theorem rn_212 (h : rv_B S) : rv_ln S 0 212 = some 5 := h.ln rfl rfl
theorem rn_213 (h : rv_B S) : rv_ln S 0 213 = some 5 := h.ln rfl rfl
theorem rn_214 (h : rv_B S) : rv_ln S 0 214 = some 5 := h.ln rfl rfl
theorem rn_215 (h : rv_B S) : rv_ln S 0 215 = some 3 := h.ln rfl rfl
theorem rn_216 (h : rv_B S) : rv_ln S 0 216 = some 240 := h.ln rfl rfl
theorem rn_217 (h : rv_B S) : rv_ln S 1 217 = some 1 := h.ln rfl rfl
theorem rb_sI (S : rvS) (a k : Nat) (v : Int32) : rv_B (rv_sI S a k v) = rv_B S := rfl
theorem rb_sL (S : rvS) (a k : Nat) (v : Int64) : rv_B (rv_sL S a k v) = rv_B S := rfl
theorem rd_I (S : rvS) (a k x y : Nat) (v : Int32) : (rv_sI S a k v).2.1 x y = if x = a ∧ y = k then v else S.2.1 x y := rfl
theorem rd_L (S : rvS) (a k x y : Nat) (v : Int64) : (rv_sL S a k v).2.2.1 x y = if x = a ∧ y = k then v else S.2.2.1 x y := rfl
theorem rd_IL (S : rvS) (a k x y : Nat) (v : Int32) : (rv_sI S a k v).2.2.1 x y = S.2.2.1 x y := rfl
theorem rd_LI (S : rvS) (a k x y : Nat) (v : Int64) : (rv_sL S a k v).2.1 x y = S.2.1 x y := rfl
end RVG
