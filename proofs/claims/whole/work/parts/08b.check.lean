/-! ===== the checks themselves ===== -/
set_option maxRecDepth 1000000 in
theorem cd_chk_y0 : cd_chk 0 = true := by decide +kernel
set_option maxRecDepth 1000000 in
theorem cd_chk_y1 : cd_chk 1 = true := by decide +kernel
set_option maxRecDepth 1000000 in
theorem cd_chk_y2 : cd_chk 2 = true := by decide +kernel
set_option maxRecDepth 1000000 in
theorem cd_chk_y3 : cd_chk 3 = true := by decide +kernel
set_option maxRecDepth 1000000 in
theorem cd_chk_y4 : cd_chk 4 = true := by decide +kernel
set_option maxRecDepth 1000000 in
theorem cd_chk_y5 : cd_chk 5 = true := by decide +kernel
set_option maxRecDepth 1000000 in
theorem cd_chk_y6 : cd_chk 6 = true := by decide +kernel
set_option maxRecDepth 1000000 in
theorem cd_chk_y7 : cd_chk 7 = true := by decide +kernel
set_option maxRecDepth 1000000 in
theorem cd_chk_y8 : cd_chk 8 = true := by decide +kernel
set_option maxRecDepth 1000000 in
theorem cd_chk_y9 : cd_chk 9 = true := by decide +kernel
set_option maxRecDepth 1000000 in
theorem cd_chk_y10 : cd_chk 10 = true := by decide +kernel
set_option maxRecDepth 1000000 in
theorem cd_chk_y11 : cd_chk 11 = true := by decide +kernel
set_option maxRecDepth 1000000 in
theorem cd_chk_y12 : cd_chk 12 = true := by decide +kernel
set_option maxRecDepth 1000000 in
theorem cd_chk_y13 : cd_chk 13 = true := by decide +kernel
set_option maxRecDepth 1000000 in
theorem cd_chk_y14 : cd_chk 14 = true := by decide +kernel
set_option maxRecDepth 1000000 in
theorem cd_chk_y15 : cd_chk 15 = true := by decide +kernel
set_option maxRecDepth 1000000 in
theorem cd_chk_y16 : cd_chk 16 = true := by decide +kernel
set_option maxRecDepth 1000000 in
theorem cd_chk_y17 : cd_chk 17 = true := by decide +kernel
set_option maxRecDepth 1000000 in
theorem cd_chk_y18 : cd_chk 18 = true := by decide +kernel
set_option maxRecDepth 1000000 in
theorem cd_chk_y19 : cd_chk 19 = true := by decide +kernel
set_option maxRecDepth 1000000 in
theorem cd_chk_y20 : cd_chk 20 = true := by decide +kernel
set_option maxRecDepth 1000000 in
theorem cd_chk_y21 : cd_chk 21 = true := by decide +kernel
set_option maxRecDepth 1000000 in
theorem cd_chk_y22 : cd_chk 22 = true := by decide +kernel
set_option maxRecDepth 1000000 in
theorem cd_chk_y23 : cd_chk 23 = true := by decide +kernel
set_option maxRecDepth 1000000 in
theorem cd_chk_y24 : cd_chk 24 = true := by decide +kernel
set_option maxRecDepth 1000000 in
theorem cd_chk_y25 : cd_chk 25 = true := by decide +kernel
set_option maxRecDepth 1000000 in
theorem cd_chk_y26 : cd_chk 26 = true := by decide +kernel
set_option maxRecDepth 1000000 in
theorem cd_chk_y27 : cd_chk 27 = true := by decide +kernel
set_option maxRecDepth 1000000 in
theorem cd_chk_y28 : cd_chk 28 = true := by decide +kernel
set_option maxRecDepth 1000000 in
theorem cd_chk_y29 : cd_chk 29 = true := by decide +kernel
set_option maxRecDepth 1000000 in
theorem cd_chk_y30 : cd_chk 30 = true := by decide +kernel
set_option maxRecDepth 1000000 in
theorem cd_chk_y31 : cd_chk 31 = true := by decide +kernel
set_option maxRecDepth 1000000 in
theorem cd_chk_y32 : cd_chk 32 = true := by decide +kernel
set_option maxRecDepth 1000000 in
theorem cd_chk_y33 : cd_chk 33 = true := by decide +kernel
set_option maxRecDepth 1000000 in
theorem cd_chk_y34 : cd_chk 34 = true := by decide +kernel
set_option maxRecDepth 1000000 in
theorem cd_chk_y35 : cd_chk 35 = true := by decide +kernel
set_option maxRecDepth 1000000 in
theorem cd_chk_y36 : cd_chk 36 = true := by decide +kernel
set_option maxRecDepth 1000000 in
theorem cd_chk_y37 : cd_chk 37 = true := by decide +kernel
set_option maxRecDepth 1000000 in
theorem cd_chk_y38 : cd_chk 38 = true := by decide +kernel
set_option maxRecDepth 1000000 in
theorem cd_chk_y39 : cd_chk 39 = true := by decide +kernel
set_option maxRecDepth 1000000 in
theorem cd_chk_y40 : cd_chk 40 = true := by decide +kernel
set_option maxRecDepth 1000000 in
theorem cd_chk_y41 : cd_chk 41 = true := by decide +kernel
set_option maxRecDepth 1000000 in
theorem cd_chk_y42 : cd_chk 42 = true := by decide +kernel
set_option maxRecDepth 1000000 in
theorem cd_chk_y43 : cd_chk 43 = true := by decide +kernel
set_option maxRecDepth 1000000 in
theorem cd_chk_y44 : cd_chk 44 = true := by decide +kernel
set_option maxRecDepth 1000000 in
theorem cd_chk_y45 : cd_chk 45 = true := by decide +kernel
set_option maxRecDepth 1000000 in
theorem cd_chk_y46 : cd_chk 46 = true := by decide +kernel
set_option maxRecDepth 1000000 in
theorem cd_chk_y47 : cd_chk 47 = true := by decide +kernel
set_option maxRecDepth 1000000 in
theorem cd_chk_y48 : cd_chk 48 = true := by decide +kernel
set_option maxRecDepth 1000000 in
theorem cd_chk_y49 : cd_chk 49 = true := by decide +kernel
set_option maxRecDepth 1000000 in
theorem cd_chk_y50 : cd_chk 50 = true := by decide +kernel
set_option maxRecDepth 1000000 in
theorem cd_chk_y51 : cd_chk 51 = true := by decide +kernel
set_option maxRecDepth 1000000 in
theorem cd_chk_y52 : cd_chk 52 = true := by decide +kernel
set_option maxRecDepth 1000000 in
theorem cd_chk_y53 : cd_chk 53 = true := by decide +kernel
set_option maxRecDepth 1000000 in
theorem cd_chk_y54 : cd_chk 54 = true := by decide +kernel
set_option maxRecDepth 1000000 in
theorem cd_chk_y55 : cd_chk 55 = true := by decide +kernel
set_option maxRecDepth 1000000 in
theorem cd_chk_y56 : cd_chk 56 = true := by decide +kernel
set_option maxRecDepth 1000000 in
theorem cd_chk_y57 : cd_chk 57 = true := by decide +kernel
set_option maxRecDepth 1000000 in
theorem cd_chk_y58 : cd_chk 58 = true := by decide +kernel
set_option maxRecDepth 1000000 in
theorem cd_chk_y59 : cd_chk 59 = true := by decide +kernel
set_option maxRecDepth 1000000 in
theorem cd_chk_y60 : cd_chk 60 = true := by decide +kernel
set_option maxRecDepth 1000000 in
theorem cd_chk_y61 : cd_chk 61 = true := by decide +kernel
set_option maxRecDepth 1000000 in
theorem cd_chk_y62 : cd_chk 62 = true := by decide +kernel
set_option maxRecDepth 1000000 in
theorem cd_chk_y63 : cd_chk 63 = true := by decide +kernel
set_option maxRecDepth 1000000 in
theorem cd_chk_y64 : cd_chk 64 = true := by decide +kernel
set_option maxRecDepth 1000000 in
theorem cd_chk_y65 : cd_chk 65 = true := by decide +kernel
set_option maxRecDepth 1000000 in
theorem cd_chk_y66 : cd_chk 66 = true := by decide +kernel
set_option maxRecDepth 1000000 in
theorem cd_chk_y67 : cd_chk 67 = true := by decide +kernel
set_option maxRecDepth 1000000 in
theorem cd_chk_y68 : cd_chk 68 = true := by decide +kernel
set_option maxRecDepth 1000000 in
theorem cd_chk_y69 : cd_chk 69 = true := by decide +kernel
set_option maxRecDepth 1000000 in
theorem cd_chk_y70 : cd_chk 70 = true := by decide +kernel
set_option maxRecDepth 1000000 in
theorem cd_chk_y71 : cd_chk 71 = true := by decide +kernel
set_option maxRecDepth 1000000 in
theorem cd_chk_y72 : cd_chk 72 = true := by decide +kernel
set_option maxRecDepth 1000000 in
theorem cd_chk_y73 : cd_chk 73 = true := by decide +kernel
set_option maxRecDepth 1000000 in
theorem cd_chk_y74 : cd_chk 74 = true := by decide +kernel
set_option maxRecDepth 1000000 in
theorem cd_chk_y75 : cd_chk 75 = true := by decide +kernel
set_option maxRecDepth 1000000 in
theorem cd_chk_y76 : cd_chk 76 = true := by decide +kernel
set_option maxRecDepth 1000000 in
theorem cd_chk_y77 : cd_chk 77 = true := by decide +kernel
set_option maxRecDepth 1000000 in
theorem cd_chk_y78 : cd_chk 78 = true := by decide +kernel
set_option maxRecDepth 1000000 in
theorem cd_chk_y79 : cd_chk 79 = true := by decide +kernel
set_option maxRecDepth 1000000 in
theorem cd_chk_y80 : cd_chk 80 = true := by decide +kernel
set_option maxRecDepth 1000000 in
theorem cd_chk_y81 : cd_chk 81 = true := by decide +kernel
set_option maxRecDepth 1000000 in
theorem cd_chk_y82 : cd_chk 82 = true := by decide +kernel
set_option maxRecDepth 1000000 in
theorem cd_chk_y83 : cd_chk 83 = true := by decide +kernel
set_option maxRecDepth 1000000 in
theorem cd_chk_y84 : cd_chk 84 = true := by decide +kernel
set_option maxRecDepth 1000000 in
theorem cd_chk_y85 : cd_chk 85 = true := by decide +kernel
set_option maxRecDepth 1000000 in
theorem cd_chk_y86 : cd_chk 86 = true := by decide +kernel
set_option maxRecDepth 1000000 in
theorem cd_chk_y87 : cd_chk 87 = true := by decide +kernel
set_option maxRecDepth 1000000 in
theorem cd_chk_y88 : cd_chk 88 = true := by decide +kernel
set_option maxRecDepth 1000000 in
theorem cd_chk_y89 : cd_chk 89 = true := by decide +kernel
set_option maxRecDepth 1000000 in
theorem cd_chk_y90 : cd_chk 90 = true := by decide +kernel
set_option maxRecDepth 1000000 in
theorem cd_chk_y91 : cd_chk 91 = true := by decide +kernel
set_option maxRecDepth 1000000 in
theorem cd_chk_y92 : cd_chk 92 = true := by decide +kernel
set_option maxRecDepth 1000000 in
theorem cd_chk_y93 : cd_chk 93 = true := by decide +kernel
set_option maxRecDepth 1000000 in
theorem cd_chk_y94 : cd_chk 94 = true := by decide +kernel
set_option maxRecDepth 1000000 in
theorem cd_chk_y95 : cd_chk 95 = true := by decide +kernel
set_option maxRecDepth 1000000 in
theorem cd_chk_y96 : cd_chk 96 = true := by decide +kernel
set_option maxRecDepth 1000000 in
theorem cd_chk_y97 : cd_chk 97 = true := by decide +kernel
set_option maxRecDepth 1000000 in
theorem cd_chk_y98 : cd_chk 98 = true := by decide +kernel
set_option maxRecDepth 1000000 in
theorem cd_chk_y99 : cd_chk 99 = true := by decide +kernel
set_option maxRecDepth 1000000 in
theorem cd_chk_y100 : cd_chk 100 = true := by decide +kernel
set_option maxRecDepth 1000000 in
theorem cd_chk_y101 : cd_chk 101 = true := by decide +kernel
set_option maxRecDepth 1000000 in
theorem cd_chk_y102 : cd_chk 102 = true := by decide +kernel
set_option maxRecDepth 1000000 in
theorem cd_chk_y103 : cd_chk 103 = true := by decide +kernel
set_option maxRecDepth 1000000 in
theorem cd_chk_y104 : cd_chk 104 = true := by decide +kernel
set_option maxRecDepth 1000000 in
theorem cd_chk_y105 : cd_chk 105 = true := by decide +kernel
set_option maxRecDepth 1000000 in
theorem cd_chk_y106 : cd_chk 106 = true := by decide +kernel
set_option maxRecDepth 1000000 in
theorem cd_chk_y107 : cd_chk 107 = true := by decide +kernel
set_option maxRecDepth 1000000 in
theorem cd_chk_y108 : cd_chk 108 = true := by decide +kernel
set_option maxRecDepth 1000000 in
theorem cd_chk_y109 : cd_chk 109 = true := by decide +kernel
set_option maxRecDepth 1000000 in
theorem cd_chk_y110 : cd_chk 110 = true := by decide +kernel
set_option maxRecDepth 1000000 in
theorem cd_chk_y111 : cd_chk 111 = true := by decide +kernel
set_option maxRecDepth 1000000 in
theorem cd_chk_y112 : cd_chk 112 = true := by decide +kernel
set_option maxRecDepth 1000000 in
theorem cd_chk_y113 : cd_chk 113 = true := by decide +kernel
set_option maxRecDepth 1000000 in
theorem cd_chk_y114 : cd_chk 114 = true := by decide +kernel
set_option maxRecDepth 1000000 in
theorem cd_chk_y115 : cd_chk 115 = true := by decide +kernel
set_option maxRecDepth 1000000 in
theorem cd_chk_y116 : cd_chk 116 = true := by decide +kernel
set_option maxRecDepth 1000000 in
theorem cd_chk_y117 : cd_chk 117 = true := by decide +kernel
set_option maxRecDepth 1000000 in
theorem cd_chk_y118 : cd_chk 118 = true := by decide +kernel
set_option maxRecDepth 1000000 in
theorem cd_chk_y119 : cd_chk 119 = true := by decide +kernel
set_option maxRecDepth 1000000 in
theorem cd_chk_y120 : cd_chk 120 = true := by decide +kernel
set_option maxRecDepth 1000000 in
theorem cd_chk_y121 : cd_chk 121 = true := by decide +kernel
set_option maxRecDepth 1000000 in
theorem cd_chk_y122 : cd_chk 122 = true := by decide +kernel
set_option maxRecDepth 1000000 in
theorem cd_chk_y123 : cd_chk 123 = true := by decide +kernel
set_option maxRecDepth 1000000 in
theorem cd_chk_y124 : cd_chk 124 = true := by decide +kernel
set_option maxRecDepth 1000000 in
theorem cd_chk_y125 : cd_chk 125 = true := by decide +kernel
set_option maxRecDepth 1000000 in
theorem cd_chk_y126 : cd_chk 126 = true := by decide +kernel
set_option maxRecDepth 1000000 in
theorem cd_chk_y127 : cd_chk 127 = true := by decide +kernel
set_option maxRecDepth 1000000 in
theorem cd_chk_y128 : cd_chk 128 = true := by decide +kernel
set_option maxRecDepth 1000000 in
theorem cd_chk_y129 : cd_chk 129 = true := by decide +kernel
set_option maxRecDepth 1000000 in
theorem cd_chk_y130 : cd_chk 130 = true := by decide +kernel
set_option maxRecDepth 1000000 in
theorem cd_chk_y131 : cd_chk 131 = true := by decide +kernel
set_option maxRecDepth 1000000 in
theorem cd_chk_y132 : cd_chk 132 = true := by decide +kernel
set_option maxRecDepth 1000000 in
theorem cd_chk_y133 : cd_chk 133 = true := by decide +kernel
set_option maxRecDepth 1000000 in
theorem cd_chk_y134 : cd_chk 134 = true := by decide +kernel
set_option maxRecDepth 1000000 in
theorem cd_chk_y135 : cd_chk 135 = true := by decide +kernel
set_option maxRecDepth 1000000 in
theorem cd_chk_y136 : cd_chk 136 = true := by decide +kernel
set_option maxRecDepth 1000000 in
theorem cd_chk_y137 : cd_chk 137 = true := by decide +kernel
set_option maxRecDepth 1000000 in
theorem cd_chk_y138 : cd_chk 138 = true := by decide +kernel
set_option maxRecDepth 1000000 in
theorem cd_chk_y139 : cd_chk 139 = true := by decide +kernel
set_option maxRecDepth 1000000 in
theorem cd_chk_y140 : cd_chk 140 = true := by decide +kernel
set_option maxRecDepth 1000000 in
theorem cd_chk_y141 : cd_chk 141 = true := by decide +kernel
set_option maxRecDepth 1000000 in
theorem cd_chk_y142 : cd_chk 142 = true := by decide +kernel
set_option maxRecDepth 1000000 in
theorem cd_chk_y143 : cd_chk 143 = true := by decide +kernel
set_option maxRecDepth 1000000 in
theorem cd_chk_y144 : cd_chk 144 = true := by decide +kernel
set_option maxRecDepth 1000000 in
theorem cd_chk_y145 : cd_chk 145 = true := by decide +kernel
set_option maxRecDepth 1000000 in
theorem cd_chk_y146 : cd_chk 146 = true := by decide +kernel
set_option maxRecDepth 1000000 in
theorem cd_chk_y147 : cd_chk 147 = true := by decide +kernel
set_option maxRecDepth 1000000 in
theorem cd_chk_y148 : cd_chk 148 = true := by decide +kernel
set_option maxRecDepth 1000000 in
theorem cd_chk_y149 : cd_chk 149 = true := by decide +kernel
set_option maxRecDepth 1000000 in
theorem cd_chk_y150 : cd_chk 150 = true := by decide +kernel
set_option maxRecDepth 1000000 in
theorem cd_chk_y151 : cd_chk 151 = true := by decide +kernel
set_option maxRecDepth 1000000 in
theorem cd_chk_y152 : cd_chk 152 = true := by decide +kernel
set_option maxRecDepth 1000000 in
theorem cd_chk_y153 : cd_chk 153 = true := by decide +kernel
set_option maxRecDepth 1000000 in
theorem cd_chk_y154 : cd_chk 154 = true := by decide +kernel
set_option maxRecDepth 1000000 in
theorem cd_chk_y155 : cd_chk 155 = true := by decide +kernel
set_option maxRecDepth 1000000 in
theorem cd_chk_y156 : cd_chk 156 = true := by decide +kernel
set_option maxRecDepth 1000000 in
theorem cd_chk_y157 : cd_chk 157 = true := by decide +kernel
set_option maxRecDepth 1000000 in
theorem cd_chk_y158 : cd_chk 158 = true := by decide +kernel
set_option maxRecDepth 1000000 in
theorem cd_chk_y159 : cd_chk 159 = true := by decide +kernel
set_option maxRecDepth 1000000 in
theorem cd_chk_y160 : cd_chk 160 = true := by decide +kernel
set_option maxRecDepth 1000000 in
theorem cd_chk_y161 : cd_chk 161 = true := by decide +kernel
set_option maxRecDepth 1000000 in
theorem cd_chk_y162 : cd_chk 162 = true := by decide +kernel
set_option maxRecDepth 1000000 in
theorem cd_chk_y163 : cd_chk 163 = true := by decide +kernel
set_option maxRecDepth 1000000 in
theorem cd_chk_y164 : cd_chk 164 = true := by decide +kernel
set_option maxRecDepth 1000000 in
theorem cd_chk_y165 : cd_chk 165 = true := by decide +kernel
set_option maxRecDepth 1000000 in
theorem cd_chk_y166 : cd_chk 166 = true := by decide +kernel
set_option maxRecDepth 1000000 in
theorem cd_chk_y167 : cd_chk 167 = true := by decide +kernel
set_option maxRecDepth 1000000 in
theorem cd_chk_y168 : cd_chk 168 = true := by decide +kernel
set_option maxRecDepth 1000000 in
theorem cd_chk_y169 : cd_chk 169 = true := by decide +kernel
set_option maxRecDepth 1000000 in
theorem cd_chk_y170 : cd_chk 170 = true := by decide +kernel
set_option maxRecDepth 1000000 in
theorem cd_chk_y171 : cd_chk 171 = true := by decide +kernel
set_option maxRecDepth 1000000 in
theorem cd_chk_y172 : cd_chk 172 = true := by decide +kernel
set_option maxRecDepth 1000000 in
theorem cd_chk_y173 : cd_chk 173 = true := by decide +kernel
set_option maxRecDepth 1000000 in
theorem cd_chk_y174 : cd_chk 174 = true := by decide +kernel
set_option maxRecDepth 1000000 in
theorem cd_chk_y175 : cd_chk 175 = true := by decide +kernel
set_option maxRecDepth 1000000 in
theorem cd_chk_y176 : cd_chk 176 = true := by decide +kernel
set_option maxRecDepth 1000000 in
theorem cd_chk_y177 : cd_chk 177 = true := by decide +kernel
set_option maxRecDepth 1000000 in
theorem cd_chk_y178 : cd_chk 178 = true := by decide +kernel
set_option maxRecDepth 1000000 in
theorem cd_chk_y179 : cd_chk 179 = true := by decide +kernel
set_option maxRecDepth 1000000 in
theorem cd_chk_y180 : cd_chk 180 = true := by decide +kernel
set_option maxRecDepth 1000000 in
theorem cd_chk_y181 : cd_chk 181 = true := by decide +kernel
set_option maxRecDepth 1000000 in
theorem cd_chk_y182 : cd_chk 182 = true := by decide +kernel
set_option maxRecDepth 1000000 in
theorem cd_chk_y183 : cd_chk 183 = true := by decide +kernel
set_option maxRecDepth 1000000 in
theorem cd_chk_y184 : cd_chk 184 = true := by decide +kernel
set_option maxRecDepth 1000000 in
theorem cd_chk_y185 : cd_chk 185 = true := by decide +kernel
set_option maxRecDepth 1000000 in
theorem cd_chk_y186 : cd_chk 186 = true := by decide +kernel
set_option maxRecDepth 1000000 in
theorem cd_chk_y187 : cd_chk 187 = true := by decide +kernel
set_option maxRecDepth 1000000 in
theorem cd_chk_y188 : cd_chk 188 = true := by decide +kernel
set_option maxRecDepth 1000000 in
theorem cd_chk_y189 : cd_chk 189 = true := by decide +kernel
set_option maxRecDepth 1000000 in
theorem cd_chk_y190 : cd_chk 190 = true := by decide +kernel
set_option maxRecDepth 1000000 in
theorem cd_chk_y191 : cd_chk 191 = true := by decide +kernel
set_option maxRecDepth 1000000 in
theorem cd_chk_y192 : cd_chk 192 = true := by decide +kernel
set_option maxRecDepth 1000000 in
theorem cd_chk_y193 : cd_chk 193 = true := by decide +kernel
set_option maxRecDepth 1000000 in
theorem cd_chk_y194 : cd_chk 194 = true := by decide +kernel
set_option maxRecDepth 1000000 in
theorem cd_chk_y195 : cd_chk 195 = true := by decide +kernel
set_option maxRecDepth 1000000 in
theorem cd_chk_y196 : cd_chk 196 = true := by decide +kernel
set_option maxRecDepth 1000000 in
theorem cd_chk_y197 : cd_chk 197 = true := by decide +kernel
set_option maxRecDepth 1000000 in
theorem cd_chk_y198 : cd_chk 198 = true := by decide +kernel
set_option maxRecDepth 1000000 in
theorem cd_chk_y199 : cd_chk 199 = true := by decide +kernel
set_option maxRecDepth 1000000 in
theorem cd_chk_y200 : cd_chk 200 = true := by decide +kernel
set_option maxRecDepth 1000000 in
theorem cd_chk_y201 : cd_chk 201 = true := by decide +kernel
set_option maxRecDepth 1000000 in
theorem cd_chk_y202 : cd_chk 202 = true := by decide +kernel
set_option maxRecDepth 1000000 in
theorem cd_chk_y203 : cd_chk 203 = true := by decide +kernel
set_option maxRecDepth 1000000 in
theorem cd_chk_y204 : cd_chk 204 = true := by decide +kernel
set_option maxRecDepth 1000000 in
theorem cd_chk_y205 : cd_chk 205 = true := by decide +kernel
set_option maxRecDepth 1000000 in
theorem cd_chk_y206 : cd_chk 206 = true := by decide +kernel
set_option maxRecDepth 1000000 in
theorem cd_chk_y207 : cd_chk 207 = true := by decide +kernel
set_option maxRecDepth 1000000 in
theorem cd_chk_y208 : cd_chk 208 = true := by decide +kernel
set_option maxRecDepth 1000000 in
theorem cd_chk_y209 : cd_chk 209 = true := by decide +kernel
set_option maxRecDepth 1000000 in
theorem cd_chk_y210 : cd_chk 210 = true := by decide +kernel
set_option maxRecDepth 1000000 in
theorem cd_chk_y211 : cd_chk 211 = true := by decide +kernel
set_option maxRecDepth 1000000 in
theorem cd_chk_y212 : cd_chk 212 = true := by decide +kernel
set_option maxRecDepth 1000000 in
theorem cd_chk_y213 : cd_chk 213 = true := by decide +kernel
set_option maxRecDepth 1000000 in
theorem cd_chk_y214 : cd_chk 214 = true := by decide +kernel
set_option maxRecDepth 1000000 in
theorem cd_chk_y215 : cd_chk 215 = true := by decide +kernel
set_option maxRecDepth 1000000 in
theorem cd_chk_y216 : cd_chk 216 = true := by decide +kernel
set_option maxRecDepth 1000000 in
theorem cd_chk_y217 : cd_chk 217 = true := by decide +kernel
set_option maxRecDepth 1000000 in
theorem cd_chk_y218 : cd_chk 218 = true := by decide +kernel
set_option maxRecDepth 1000000 in
theorem cd_chk_y219 : cd_chk 219 = true := by decide +kernel
set_option maxRecDepth 1000000 in
theorem cd_chk_y220 : cd_chk 220 = true := by decide +kernel
set_option maxRecDepth 1000000 in
theorem cd_chk_y221 : cd_chk 221 = true := by decide +kernel
set_option maxRecDepth 1000000 in
theorem cd_chk_y222 : cd_chk 222 = true := by decide +kernel
set_option maxRecDepth 1000000 in
theorem cd_chk_y223 : cd_chk 223 = true := by decide +kernel
set_option maxRecDepth 1000000 in
theorem cd_chk_y224 : cd_chk 224 = true := by decide +kernel
set_option maxRecDepth 1000000 in
theorem cd_chk_y225 : cd_chk 225 = true := by decide +kernel
set_option maxRecDepth 1000000 in
theorem cd_chk_y226 : cd_chk 226 = true := by decide +kernel
set_option maxRecDepth 1000000 in
theorem cd_chk_y227 : cd_chk 227 = true := by decide +kernel
set_option maxRecDepth 1000000 in
theorem cd_chk_y228 : cd_chk 228 = true := by decide +kernel
set_option maxRecDepth 1000000 in
theorem cd_chk_y229 : cd_chk 229 = true := by decide +kernel
set_option maxRecDepth 1000000 in
theorem cd_chk_y230 : cd_chk 230 = true := by decide +kernel
set_option maxRecDepth 1000000 in
theorem cd_chk_y231 : cd_chk 231 = true := by decide +kernel
set_option maxRecDepth 1000000 in
theorem cd_chk_y232 : cd_chk 232 = true := by decide +kernel
set_option maxRecDepth 1000000 in
theorem cd_chk_y233 : cd_chk 233 = true := by decide +kernel
set_option maxRecDepth 1000000 in
theorem cd_chk_y234 : cd_chk 234 = true := by decide +kernel
set_option maxRecDepth 1000000 in
theorem cd_chk_y235 : cd_chk 235 = true := by decide +kernel
set_option maxRecDepth 1000000 in
theorem cd_chk_y236 : cd_chk 236 = true := by decide +kernel
set_option maxRecDepth 1000000 in
theorem cd_chk_y237 : cd_chk 237 = true := by decide +kernel
set_option maxRecDepth 1000000 in
theorem cd_chk_y238 : cd_chk 238 = true := by decide +kernel
set_option maxRecDepth 1000000 in
theorem cd_chk_y239 : cd_chk 239 = true := by decide +kernel
set_option maxRecDepth 1000000 in
theorem cd_chk_y240 : cd_chk 240 = true := by decide +kernel
set_option maxRecDepth 1000000 in
theorem cd_chk_y241 : cd_chk 241 = true := by decide +kernel
set_option maxRecDepth 1000000 in
theorem cd_chk_y242 : cd_chk 242 = true := by decide +kernel
set_option maxRecDepth 1000000 in
theorem cd_chk_y243 : cd_chk 243 = true := by decide +kernel
set_option maxRecDepth 1000000 in
theorem cd_chk_y244 : cd_chk 244 = true := by decide +kernel
set_option maxRecDepth 1000000 in
theorem cd_chk_y245 : cd_chk 245 = true := by decide +kernel
theorem cd_chk_all {y : Nat} (h : y < 247) : cd_chk y = true := by
  rcases Nat.lt_or_ge y 123 with a123 | a123
  · skip
    rcases Nat.lt_or_ge y 61 with a61 | a61
    · skip
      rcases Nat.lt_or_ge y 30 with a30 | a30
      · skip
        rcases Nat.lt_or_ge y 15 with a15 | a15
        · skip
          rcases Nat.lt_or_ge y 7 with a7 | a7
          · skip
            rcases Nat.lt_or_ge y 3 with a3 | a3
            · skip
              rcases Nat.lt_or_ge y 1 with a1 | a1
              · skip
                obtain rfl : y = 0 := by omega
                exact cd_chk_y0
              · skip
                rcases Nat.lt_or_ge y 2 with a2 | a2
                · skip
                  obtain rfl : y = 1 := by omega
                  exact cd_chk_y1
                · skip
                  obtain rfl : y = 2 := by omega
                  exact cd_chk_y2
            · skip
              rcases Nat.lt_or_ge y 5 with a5 | a5
              · skip
                rcases Nat.lt_or_ge y 4 with a4 | a4
                · skip
                  obtain rfl : y = 3 := by omega
                  exact cd_chk_y3
                · skip
                  obtain rfl : y = 4 := by omega
                  exact cd_chk_y4
              · skip
                rcases Nat.lt_or_ge y 6 with a6 | a6
                · skip
                  obtain rfl : y = 5 := by omega
                  exact cd_chk_y5
                · skip
                  obtain rfl : y = 6 := by omega
                  exact cd_chk_y6
          · skip
            rcases Nat.lt_or_ge y 11 with a11 | a11
            · skip
              rcases Nat.lt_or_ge y 9 with a9 | a9
              · skip
                rcases Nat.lt_or_ge y 8 with a8 | a8
                · skip
                  obtain rfl : y = 7 := by omega
                  exact cd_chk_y7
                · skip
                  obtain rfl : y = 8 := by omega
                  exact cd_chk_y8
              · skip
                rcases Nat.lt_or_ge y 10 with a10 | a10
                · skip
                  obtain rfl : y = 9 := by omega
                  exact cd_chk_y9
                · skip
                  obtain rfl : y = 10 := by omega
                  exact cd_chk_y10
            · skip
              rcases Nat.lt_or_ge y 13 with a13 | a13
              · skip
                rcases Nat.lt_or_ge y 12 with a12 | a12
                · skip
                  obtain rfl : y = 11 := by omega
                  exact cd_chk_y11
                · skip
                  obtain rfl : y = 12 := by omega
                  exact cd_chk_y12
              · skip
                rcases Nat.lt_or_ge y 14 with a14 | a14
                · skip
                  obtain rfl : y = 13 := by omega
                  exact cd_chk_y13
                · skip
                  obtain rfl : y = 14 := by omega
                  exact cd_chk_y14
        · skip
          rcases Nat.lt_or_ge y 22 with a22 | a22
          · skip
            rcases Nat.lt_or_ge y 18 with a18 | a18
            · skip
              rcases Nat.lt_or_ge y 16 with a16 | a16
              · skip
                obtain rfl : y = 15 := by omega
                exact cd_chk_y15
              · skip
                rcases Nat.lt_or_ge y 17 with a17 | a17
                · skip
                  obtain rfl : y = 16 := by omega
                  exact cd_chk_y16
                · skip
                  obtain rfl : y = 17 := by omega
                  exact cd_chk_y17
            · skip
              rcases Nat.lt_or_ge y 20 with a20 | a20
              · skip
                rcases Nat.lt_or_ge y 19 with a19 | a19
                · skip
                  obtain rfl : y = 18 := by omega
                  exact cd_chk_y18
                · skip
                  obtain rfl : y = 19 := by omega
                  exact cd_chk_y19
              · skip
                rcases Nat.lt_or_ge y 21 with a21 | a21
                · skip
                  obtain rfl : y = 20 := by omega
                  exact cd_chk_y20
                · skip
                  obtain rfl : y = 21 := by omega
                  exact cd_chk_y21
          · skip
            rcases Nat.lt_or_ge y 26 with a26 | a26
            · skip
              rcases Nat.lt_or_ge y 24 with a24 | a24
              · skip
                rcases Nat.lt_or_ge y 23 with a23 | a23
                · skip
                  obtain rfl : y = 22 := by omega
                  exact cd_chk_y22
                · skip
                  obtain rfl : y = 23 := by omega
                  exact cd_chk_y23
              · skip
                rcases Nat.lt_or_ge y 25 with a25 | a25
                · skip
                  obtain rfl : y = 24 := by omega
                  exact cd_chk_y24
                · skip
                  obtain rfl : y = 25 := by omega
                  exact cd_chk_y25
            · skip
              rcases Nat.lt_or_ge y 28 with a28 | a28
              · skip
                rcases Nat.lt_or_ge y 27 with a27 | a27
                · skip
                  obtain rfl : y = 26 := by omega
                  exact cd_chk_y26
                · skip
                  obtain rfl : y = 27 := by omega
                  exact cd_chk_y27
              · skip
                rcases Nat.lt_or_ge y 29 with a29 | a29
                · skip
                  obtain rfl : y = 28 := by omega
                  exact cd_chk_y28
                · skip
                  obtain rfl : y = 29 := by omega
                  exact cd_chk_y29
      · skip
        rcases Nat.lt_or_ge y 45 with a45 | a45
        · skip
          rcases Nat.lt_or_ge y 37 with a37 | a37
          · skip
            rcases Nat.lt_or_ge y 33 with a33 | a33
            · skip
              rcases Nat.lt_or_ge y 31 with a31 | a31
              · skip
                obtain rfl : y = 30 := by omega
                exact cd_chk_y30
              · skip
                rcases Nat.lt_or_ge y 32 with a32 | a32
                · skip
                  obtain rfl : y = 31 := by omega
                  exact cd_chk_y31
                · skip
                  obtain rfl : y = 32 := by omega
                  exact cd_chk_y32
            · skip
              rcases Nat.lt_or_ge y 35 with a35 | a35
              · skip
                rcases Nat.lt_or_ge y 34 with a34 | a34
                · skip
                  obtain rfl : y = 33 := by omega
                  exact cd_chk_y33
                · skip
                  obtain rfl : y = 34 := by omega
                  exact cd_chk_y34
              · skip
                rcases Nat.lt_or_ge y 36 with a36 | a36
                · skip
                  obtain rfl : y = 35 := by omega
                  exact cd_chk_y35
                · skip
                  obtain rfl : y = 36 := by omega
                  exact cd_chk_y36
          · skip
            rcases Nat.lt_or_ge y 41 with a41 | a41
            · skip
              rcases Nat.lt_or_ge y 39 with a39 | a39
              · skip
                rcases Nat.lt_or_ge y 38 with a38 | a38
                · skip
                  obtain rfl : y = 37 := by omega
                  exact cd_chk_y37
                · skip
                  obtain rfl : y = 38 := by omega
                  exact cd_chk_y38
              · skip
                rcases Nat.lt_or_ge y 40 with a40 | a40
                · skip
                  obtain rfl : y = 39 := by omega
                  exact cd_chk_y39
                · skip
                  obtain rfl : y = 40 := by omega
                  exact cd_chk_y40
            · skip
              rcases Nat.lt_or_ge y 43 with a43 | a43
              · skip
                rcases Nat.lt_or_ge y 42 with a42 | a42
                · skip
                  obtain rfl : y = 41 := by omega
                  exact cd_chk_y41
                · skip
                  obtain rfl : y = 42 := by omega
                  exact cd_chk_y42
              · skip
                rcases Nat.lt_or_ge y 44 with a44 | a44
                · skip
                  obtain rfl : y = 43 := by omega
                  exact cd_chk_y43
                · skip
                  obtain rfl : y = 44 := by omega
                  exact cd_chk_y44
        · skip
          rcases Nat.lt_or_ge y 53 with a53 | a53
          · skip
            rcases Nat.lt_or_ge y 49 with a49 | a49
            · skip
              rcases Nat.lt_or_ge y 47 with a47 | a47
              · skip
                rcases Nat.lt_or_ge y 46 with a46 | a46
                · skip
                  obtain rfl : y = 45 := by omega
                  exact cd_chk_y45
                · skip
                  obtain rfl : y = 46 := by omega
                  exact cd_chk_y46
              · skip
                rcases Nat.lt_or_ge y 48 with a48 | a48
                · skip
                  obtain rfl : y = 47 := by omega
                  exact cd_chk_y47
                · skip
                  obtain rfl : y = 48 := by omega
                  exact cd_chk_y48
            · skip
              rcases Nat.lt_or_ge y 51 with a51 | a51
              · skip
                rcases Nat.lt_or_ge y 50 with a50 | a50
                · skip
                  obtain rfl : y = 49 := by omega
                  exact cd_chk_y49
                · skip
                  obtain rfl : y = 50 := by omega
                  exact cd_chk_y50
              · skip
                rcases Nat.lt_or_ge y 52 with a52 | a52
                · skip
                  obtain rfl : y = 51 := by omega
                  exact cd_chk_y51
                · skip
                  obtain rfl : y = 52 := by omega
                  exact cd_chk_y52
          · skip
            rcases Nat.lt_or_ge y 57 with a57 | a57
            · skip
              rcases Nat.lt_or_ge y 55 with a55 | a55
              · skip
                rcases Nat.lt_or_ge y 54 with a54 | a54
                · skip
                  obtain rfl : y = 53 := by omega
                  exact cd_chk_y53
                · skip
                  obtain rfl : y = 54 := by omega
                  exact cd_chk_y54
              · skip
                rcases Nat.lt_or_ge y 56 with a56 | a56
                · skip
                  obtain rfl : y = 55 := by omega
                  exact cd_chk_y55
                · skip
                  obtain rfl : y = 56 := by omega
                  exact cd_chk_y56
            · skip
              rcases Nat.lt_or_ge y 59 with a59 | a59
              · skip
                rcases Nat.lt_or_ge y 58 with a58 | a58
                · skip
                  obtain rfl : y = 57 := by omega
                  exact cd_chk_y57
                · skip
                  obtain rfl : y = 58 := by omega
                  exact cd_chk_y58
              · skip
                rcases Nat.lt_or_ge y 60 with a60 | a60
                · skip
                  obtain rfl : y = 59 := by omega
                  exact cd_chk_y59
                · skip
                  obtain rfl : y = 60 := by omega
                  exact cd_chk_y60
    · skip
      rcases Nat.lt_or_ge y 92 with a92 | a92
      · skip
        rcases Nat.lt_or_ge y 76 with a76 | a76
        · skip
          rcases Nat.lt_or_ge y 68 with a68 | a68
          · skip
            rcases Nat.lt_or_ge y 64 with a64 | a64
            · skip
              rcases Nat.lt_or_ge y 62 with a62 | a62
              · skip
                obtain rfl : y = 61 := by omega
                exact cd_chk_y61
              · skip
                rcases Nat.lt_or_ge y 63 with a63 | a63
                · skip
                  obtain rfl : y = 62 := by omega
                  exact cd_chk_y62
                · skip
                  obtain rfl : y = 63 := by omega
                  exact cd_chk_y63
            · skip
              rcases Nat.lt_or_ge y 66 with a66 | a66
              · skip
                rcases Nat.lt_or_ge y 65 with a65 | a65
                · skip
                  obtain rfl : y = 64 := by omega
                  exact cd_chk_y64
                · skip
                  obtain rfl : y = 65 := by omega
                  exact cd_chk_y65
              · skip
                rcases Nat.lt_or_ge y 67 with a67 | a67
                · skip
                  obtain rfl : y = 66 := by omega
                  exact cd_chk_y66
                · skip
                  obtain rfl : y = 67 := by omega
                  exact cd_chk_y67
          · skip
            rcases Nat.lt_or_ge y 72 with a72 | a72
            · skip
              rcases Nat.lt_or_ge y 70 with a70 | a70
              · skip
                rcases Nat.lt_or_ge y 69 with a69 | a69
                · skip
                  obtain rfl : y = 68 := by omega
                  exact cd_chk_y68
                · skip
                  obtain rfl : y = 69 := by omega
                  exact cd_chk_y69
              · skip
                rcases Nat.lt_or_ge y 71 with a71 | a71
                · skip
                  obtain rfl : y = 70 := by omega
                  exact cd_chk_y70
                · skip
                  obtain rfl : y = 71 := by omega
                  exact cd_chk_y71
            · skip
              rcases Nat.lt_or_ge y 74 with a74 | a74
              · skip
                rcases Nat.lt_or_ge y 73 with a73 | a73
                · skip
                  obtain rfl : y = 72 := by omega
                  exact cd_chk_y72
                · skip
                  obtain rfl : y = 73 := by omega
                  exact cd_chk_y73
              · skip
                rcases Nat.lt_or_ge y 75 with a75 | a75
                · skip
                  obtain rfl : y = 74 := by omega
                  exact cd_chk_y74
                · skip
                  obtain rfl : y = 75 := by omega
                  exact cd_chk_y75
        · skip
          rcases Nat.lt_or_ge y 84 with a84 | a84
          · skip
            rcases Nat.lt_or_ge y 80 with a80 | a80
            · skip
              rcases Nat.lt_or_ge y 78 with a78 | a78
              · skip
                rcases Nat.lt_or_ge y 77 with a77 | a77
                · skip
                  obtain rfl : y = 76 := by omega
                  exact cd_chk_y76
                · skip
                  obtain rfl : y = 77 := by omega
                  exact cd_chk_y77
              · skip
                rcases Nat.lt_or_ge y 79 with a79 | a79
                · skip
                  obtain rfl : y = 78 := by omega
                  exact cd_chk_y78
                · skip
                  obtain rfl : y = 79 := by omega
                  exact cd_chk_y79
            · skip
              rcases Nat.lt_or_ge y 82 with a82 | a82
              · skip
                rcases Nat.lt_or_ge y 81 with a81 | a81
                · skip
                  obtain rfl : y = 80 := by omega
                  exact cd_chk_y80
                · skip
                  obtain rfl : y = 81 := by omega
                  exact cd_chk_y81
              · skip
                rcases Nat.lt_or_ge y 83 with a83 | a83
                · skip
                  obtain rfl : y = 82 := by omega
                  exact cd_chk_y82
                · skip
                  obtain rfl : y = 83 := by omega
                  exact cd_chk_y83
          · skip
            rcases Nat.lt_or_ge y 88 with a88 | a88
            · skip
              rcases Nat.lt_or_ge y 86 with a86 | a86
              · skip
                rcases Nat.lt_or_ge y 85 with a85 | a85
                · skip
                  obtain rfl : y = 84 := by omega
                  exact cd_chk_y84
                · skip
                  obtain rfl : y = 85 := by omega
                  exact cd_chk_y85
              · skip
                rcases Nat.lt_or_ge y 87 with a87 | a87
                · skip
                  obtain rfl : y = 86 := by omega
                  exact cd_chk_y86
                · skip
                  obtain rfl : y = 87 := by omega
                  exact cd_chk_y87
            · skip
              rcases Nat.lt_or_ge y 90 with a90 | a90
              · skip
                rcases Nat.lt_or_ge y 89 with a89 | a89
                · skip
                  obtain rfl : y = 88 := by omega
                  exact cd_chk_y88
                · skip
                  obtain rfl : y = 89 := by omega
                  exact cd_chk_y89
              · skip
                rcases Nat.lt_or_ge y 91 with a91 | a91
                · skip
                  obtain rfl : y = 90 := by omega
                  exact cd_chk_y90
                · skip
                  obtain rfl : y = 91 := by omega
                  exact cd_chk_y91
      · skip
        rcases Nat.lt_or_ge y 107 with a107 | a107
        · skip
          rcases Nat.lt_or_ge y 99 with a99 | a99
          · skip
            rcases Nat.lt_or_ge y 95 with a95 | a95
            · skip
              rcases Nat.lt_or_ge y 93 with a93 | a93
              · skip
                obtain rfl : y = 92 := by omega
                exact cd_chk_y92
              · skip
                rcases Nat.lt_or_ge y 94 with a94 | a94
                · skip
                  obtain rfl : y = 93 := by omega
                  exact cd_chk_y93
                · skip
                  obtain rfl : y = 94 := by omega
                  exact cd_chk_y94
            · skip
              rcases Nat.lt_or_ge y 97 with a97 | a97
              · skip
                rcases Nat.lt_or_ge y 96 with a96 | a96
                · skip
                  obtain rfl : y = 95 := by omega
                  exact cd_chk_y95
                · skip
                  obtain rfl : y = 96 := by omega
                  exact cd_chk_y96
              · skip
                rcases Nat.lt_or_ge y 98 with a98 | a98
                · skip
                  obtain rfl : y = 97 := by omega
                  exact cd_chk_y97
                · skip
                  obtain rfl : y = 98 := by omega
                  exact cd_chk_y98
          · skip
            rcases Nat.lt_or_ge y 103 with a103 | a103
            · skip
              rcases Nat.lt_or_ge y 101 with a101 | a101
              · skip
                rcases Nat.lt_or_ge y 100 with a100 | a100
                · skip
                  obtain rfl : y = 99 := by omega
                  exact cd_chk_y99
                · skip
                  obtain rfl : y = 100 := by omega
                  exact cd_chk_y100
              · skip
                rcases Nat.lt_or_ge y 102 with a102 | a102
                · skip
                  obtain rfl : y = 101 := by omega
                  exact cd_chk_y101
                · skip
                  obtain rfl : y = 102 := by omega
                  exact cd_chk_y102
            · skip
              rcases Nat.lt_or_ge y 105 with a105 | a105
              · skip
                rcases Nat.lt_or_ge y 104 with a104 | a104
                · skip
                  obtain rfl : y = 103 := by omega
                  exact cd_chk_y103
                · skip
                  obtain rfl : y = 104 := by omega
                  exact cd_chk_y104
              · skip
                rcases Nat.lt_or_ge y 106 with a106 | a106
                · skip
                  obtain rfl : y = 105 := by omega
                  exact cd_chk_y105
                · skip
                  obtain rfl : y = 106 := by omega
                  exact cd_chk_y106
        · skip
          rcases Nat.lt_or_ge y 115 with a115 | a115
          · skip
            rcases Nat.lt_or_ge y 111 with a111 | a111
            · skip
              rcases Nat.lt_or_ge y 109 with a109 | a109
              · skip
                rcases Nat.lt_or_ge y 108 with a108 | a108
                · skip
                  obtain rfl : y = 107 := by omega
                  exact cd_chk_y107
                · skip
                  obtain rfl : y = 108 := by omega
                  exact cd_chk_y108
              · skip
                rcases Nat.lt_or_ge y 110 with a110 | a110
                · skip
                  obtain rfl : y = 109 := by omega
                  exact cd_chk_y109
                · skip
                  obtain rfl : y = 110 := by omega
                  exact cd_chk_y110
            · skip
              rcases Nat.lt_or_ge y 113 with a113 | a113
              · skip
                rcases Nat.lt_or_ge y 112 with a112 | a112
                · skip
                  obtain rfl : y = 111 := by omega
                  exact cd_chk_y111
                · skip
                  obtain rfl : y = 112 := by omega
                  exact cd_chk_y112
              · skip
                rcases Nat.lt_or_ge y 114 with a114 | a114
                · skip
                  obtain rfl : y = 113 := by omega
                  exact cd_chk_y113
                · skip
                  obtain rfl : y = 114 := by omega
                  exact cd_chk_y114
          · skip
            rcases Nat.lt_or_ge y 119 with a119 | a119
            · skip
              rcases Nat.lt_or_ge y 117 with a117 | a117
              · skip
                rcases Nat.lt_or_ge y 116 with a116 | a116
                · skip
                  obtain rfl : y = 115 := by omega
                  exact cd_chk_y115
                · skip
                  obtain rfl : y = 116 := by omega
                  exact cd_chk_y116
              · skip
                rcases Nat.lt_or_ge y 118 with a118 | a118
                · skip
                  obtain rfl : y = 117 := by omega
                  exact cd_chk_y117
                · skip
                  obtain rfl : y = 118 := by omega
                  exact cd_chk_y118
            · skip
              rcases Nat.lt_or_ge y 121 with a121 | a121
              · skip
                rcases Nat.lt_or_ge y 120 with a120 | a120
                · skip
                  obtain rfl : y = 119 := by omega
                  exact cd_chk_y119
                · skip
                  obtain rfl : y = 120 := by omega
                  exact cd_chk_y120
              · skip
                rcases Nat.lt_or_ge y 122 with a122 | a122
                · skip
                  obtain rfl : y = 121 := by omega
                  exact cd_chk_y121
                · skip
                  obtain rfl : y = 122 := by omega
                  exact cd_chk_y122
  · skip
    rcases Nat.lt_or_ge y 185 with a185 | a185
    · skip
      rcases Nat.lt_or_ge y 154 with a154 | a154
      · skip
        rcases Nat.lt_or_ge y 138 with a138 | a138
        · skip
          rcases Nat.lt_or_ge y 130 with a130 | a130
          · skip
            rcases Nat.lt_or_ge y 126 with a126 | a126
            · skip
              rcases Nat.lt_or_ge y 124 with a124 | a124
              · skip
                obtain rfl : y = 123 := by omega
                exact cd_chk_y123
              · skip
                rcases Nat.lt_or_ge y 125 with a125 | a125
                · skip
                  obtain rfl : y = 124 := by omega
                  exact cd_chk_y124
                · skip
                  obtain rfl : y = 125 := by omega
                  exact cd_chk_y125
            · skip
              rcases Nat.lt_or_ge y 128 with a128 | a128
              · skip
                rcases Nat.lt_or_ge y 127 with a127 | a127
                · skip
                  obtain rfl : y = 126 := by omega
                  exact cd_chk_y126
                · skip
                  obtain rfl : y = 127 := by omega
                  exact cd_chk_y127
              · skip
                rcases Nat.lt_or_ge y 129 with a129 | a129
                · skip
                  obtain rfl : y = 128 := by omega
                  exact cd_chk_y128
                · skip
                  obtain rfl : y = 129 := by omega
                  exact cd_chk_y129
          · skip
            rcases Nat.lt_or_ge y 134 with a134 | a134
            · skip
              rcases Nat.lt_or_ge y 132 with a132 | a132
              · skip
                rcases Nat.lt_or_ge y 131 with a131 | a131
                · skip
                  obtain rfl : y = 130 := by omega
                  exact cd_chk_y130
                · skip
                  obtain rfl : y = 131 := by omega
                  exact cd_chk_y131
              · skip
                rcases Nat.lt_or_ge y 133 with a133 | a133
                · skip
                  obtain rfl : y = 132 := by omega
                  exact cd_chk_y132
                · skip
                  obtain rfl : y = 133 := by omega
                  exact cd_chk_y133
            · skip
              rcases Nat.lt_or_ge y 136 with a136 | a136
              · skip
                rcases Nat.lt_or_ge y 135 with a135 | a135
                · skip
                  obtain rfl : y = 134 := by omega
                  exact cd_chk_y134
                · skip
                  obtain rfl : y = 135 := by omega
                  exact cd_chk_y135
              · skip
                rcases Nat.lt_or_ge y 137 with a137 | a137
                · skip
                  obtain rfl : y = 136 := by omega
                  exact cd_chk_y136
                · skip
                  obtain rfl : y = 137 := by omega
                  exact cd_chk_y137
        · skip
          rcases Nat.lt_or_ge y 146 with a146 | a146
          · skip
            rcases Nat.lt_or_ge y 142 with a142 | a142
            · skip
              rcases Nat.lt_or_ge y 140 with a140 | a140
              · skip
                rcases Nat.lt_or_ge y 139 with a139 | a139
                · skip
                  obtain rfl : y = 138 := by omega
                  exact cd_chk_y138
                · skip
                  obtain rfl : y = 139 := by omega
                  exact cd_chk_y139
              · skip
                rcases Nat.lt_or_ge y 141 with a141 | a141
                · skip
                  obtain rfl : y = 140 := by omega
                  exact cd_chk_y140
                · skip
                  obtain rfl : y = 141 := by omega
                  exact cd_chk_y141
            · skip
              rcases Nat.lt_or_ge y 144 with a144 | a144
              · skip
                rcases Nat.lt_or_ge y 143 with a143 | a143
                · skip
                  obtain rfl : y = 142 := by omega
                  exact cd_chk_y142
                · skip
                  obtain rfl : y = 143 := by omega
                  exact cd_chk_y143
              · skip
                rcases Nat.lt_or_ge y 145 with a145 | a145
                · skip
                  obtain rfl : y = 144 := by omega
                  exact cd_chk_y144
                · skip
                  obtain rfl : y = 145 := by omega
                  exact cd_chk_y145
          · skip
            rcases Nat.lt_or_ge y 150 with a150 | a150
            · skip
              rcases Nat.lt_or_ge y 148 with a148 | a148
              · skip
                rcases Nat.lt_or_ge y 147 with a147 | a147
                · skip
                  obtain rfl : y = 146 := by omega
                  exact cd_chk_y146
                · skip
                  obtain rfl : y = 147 := by omega
                  exact cd_chk_y147
              · skip
                rcases Nat.lt_or_ge y 149 with a149 | a149
                · skip
                  obtain rfl : y = 148 := by omega
                  exact cd_chk_y148
                · skip
                  obtain rfl : y = 149 := by omega
                  exact cd_chk_y149
            · skip
              rcases Nat.lt_or_ge y 152 with a152 | a152
              · skip
                rcases Nat.lt_or_ge y 151 with a151 | a151
                · skip
                  obtain rfl : y = 150 := by omega
                  exact cd_chk_y150
                · skip
                  obtain rfl : y = 151 := by omega
                  exact cd_chk_y151
              · skip
                rcases Nat.lt_or_ge y 153 with a153 | a153
                · skip
                  obtain rfl : y = 152 := by omega
                  exact cd_chk_y152
                · skip
                  obtain rfl : y = 153 := by omega
                  exact cd_chk_y153
      · skip
        rcases Nat.lt_or_ge y 169 with a169 | a169
        · skip
          rcases Nat.lt_or_ge y 161 with a161 | a161
          · skip
            rcases Nat.lt_or_ge y 157 with a157 | a157
            · skip
              rcases Nat.lt_or_ge y 155 with a155 | a155
              · skip
                obtain rfl : y = 154 := by omega
                exact cd_chk_y154
              · skip
                rcases Nat.lt_or_ge y 156 with a156 | a156
                · skip
                  obtain rfl : y = 155 := by omega
                  exact cd_chk_y155
                · skip
                  obtain rfl : y = 156 := by omega
                  exact cd_chk_y156
            · skip
              rcases Nat.lt_or_ge y 159 with a159 | a159
              · skip
                rcases Nat.lt_or_ge y 158 with a158 | a158
                · skip
                  obtain rfl : y = 157 := by omega
                  exact cd_chk_y157
                · skip
                  obtain rfl : y = 158 := by omega
                  exact cd_chk_y158
              · skip
                rcases Nat.lt_or_ge y 160 with a160 | a160
                · skip
                  obtain rfl : y = 159 := by omega
                  exact cd_chk_y159
                · skip
                  obtain rfl : y = 160 := by omega
                  exact cd_chk_y160
          · skip
            rcases Nat.lt_or_ge y 165 with a165 | a165
            · skip
              rcases Nat.lt_or_ge y 163 with a163 | a163
              · skip
                rcases Nat.lt_or_ge y 162 with a162 | a162
                · skip
                  obtain rfl : y = 161 := by omega
                  exact cd_chk_y161
                · skip
                  obtain rfl : y = 162 := by omega
                  exact cd_chk_y162
              · skip
                rcases Nat.lt_or_ge y 164 with a164 | a164
                · skip
                  obtain rfl : y = 163 := by omega
                  exact cd_chk_y163
                · skip
                  obtain rfl : y = 164 := by omega
                  exact cd_chk_y164
            · skip
              rcases Nat.lt_or_ge y 167 with a167 | a167
              · skip
                rcases Nat.lt_or_ge y 166 with a166 | a166
                · skip
                  obtain rfl : y = 165 := by omega
                  exact cd_chk_y165
                · skip
                  obtain rfl : y = 166 := by omega
                  exact cd_chk_y166
              · skip
                rcases Nat.lt_or_ge y 168 with a168 | a168
                · skip
                  obtain rfl : y = 167 := by omega
                  exact cd_chk_y167
                · skip
                  obtain rfl : y = 168 := by omega
                  exact cd_chk_y168
        · skip
          rcases Nat.lt_or_ge y 177 with a177 | a177
          · skip
            rcases Nat.lt_or_ge y 173 with a173 | a173
            · skip
              rcases Nat.lt_or_ge y 171 with a171 | a171
              · skip
                rcases Nat.lt_or_ge y 170 with a170 | a170
                · skip
                  obtain rfl : y = 169 := by omega
                  exact cd_chk_y169
                · skip
                  obtain rfl : y = 170 := by omega
                  exact cd_chk_y170
              · skip
                rcases Nat.lt_or_ge y 172 with a172 | a172
                · skip
                  obtain rfl : y = 171 := by omega
                  exact cd_chk_y171
                · skip
                  obtain rfl : y = 172 := by omega
                  exact cd_chk_y172
            · skip
              rcases Nat.lt_or_ge y 175 with a175 | a175
              · skip
                rcases Nat.lt_or_ge y 174 with a174 | a174
                · skip
                  obtain rfl : y = 173 := by omega
                  exact cd_chk_y173
                · skip
                  obtain rfl : y = 174 := by omega
                  exact cd_chk_y174
              · skip
                rcases Nat.lt_or_ge y 176 with a176 | a176
                · skip
                  obtain rfl : y = 175 := by omega
                  exact cd_chk_y175
                · skip
                  obtain rfl : y = 176 := by omega
                  exact cd_chk_y176
          · skip
            rcases Nat.lt_or_ge y 181 with a181 | a181
            · skip
              rcases Nat.lt_or_ge y 179 with a179 | a179
              · skip
                rcases Nat.lt_or_ge y 178 with a178 | a178
                · skip
                  obtain rfl : y = 177 := by omega
                  exact cd_chk_y177
                · skip
                  obtain rfl : y = 178 := by omega
                  exact cd_chk_y178
              · skip
                rcases Nat.lt_or_ge y 180 with a180 | a180
                · skip
                  obtain rfl : y = 179 := by omega
                  exact cd_chk_y179
                · skip
                  obtain rfl : y = 180 := by omega
                  exact cd_chk_y180
            · skip
              rcases Nat.lt_or_ge y 183 with a183 | a183
              · skip
                rcases Nat.lt_or_ge y 182 with a182 | a182
                · skip
                  obtain rfl : y = 181 := by omega
                  exact cd_chk_y181
                · skip
                  obtain rfl : y = 182 := by omega
                  exact cd_chk_y182
              · skip
                rcases Nat.lt_or_ge y 184 with a184 | a184
                · skip
                  obtain rfl : y = 183 := by omega
                  exact cd_chk_y183
                · skip
                  obtain rfl : y = 184 := by omega
                  exact cd_chk_y184
    · skip
      rcases Nat.lt_or_ge y 216 with a216 | a216
      · skip
        rcases Nat.lt_or_ge y 200 with a200 | a200
        · skip
          rcases Nat.lt_or_ge y 192 with a192 | a192
          · skip
            rcases Nat.lt_or_ge y 188 with a188 | a188
            · skip
              rcases Nat.lt_or_ge y 186 with a186 | a186
              · skip
                obtain rfl : y = 185 := by omega
                exact cd_chk_y185
              · skip
                rcases Nat.lt_or_ge y 187 with a187 | a187
                · skip
                  obtain rfl : y = 186 := by omega
                  exact cd_chk_y186
                · skip
                  obtain rfl : y = 187 := by omega
                  exact cd_chk_y187
            · skip
              rcases Nat.lt_or_ge y 190 with a190 | a190
              · skip
                rcases Nat.lt_or_ge y 189 with a189 | a189
                · skip
                  obtain rfl : y = 188 := by omega
                  exact cd_chk_y188
                · skip
                  obtain rfl : y = 189 := by omega
                  exact cd_chk_y189
              · skip
                rcases Nat.lt_or_ge y 191 with a191 | a191
                · skip
                  obtain rfl : y = 190 := by omega
                  exact cd_chk_y190
                · skip
                  obtain rfl : y = 191 := by omega
                  exact cd_chk_y191
          · skip
            rcases Nat.lt_or_ge y 196 with a196 | a196
            · skip
              rcases Nat.lt_or_ge y 194 with a194 | a194
              · skip
                rcases Nat.lt_or_ge y 193 with a193 | a193
                · skip
                  obtain rfl : y = 192 := by omega
                  exact cd_chk_y192
                · skip
                  obtain rfl : y = 193 := by omega
                  exact cd_chk_y193
              · skip
                rcases Nat.lt_or_ge y 195 with a195 | a195
                · skip
                  obtain rfl : y = 194 := by omega
                  exact cd_chk_y194
                · skip
                  obtain rfl : y = 195 := by omega
                  exact cd_chk_y195
            · skip
              rcases Nat.lt_or_ge y 198 with a198 | a198
              · skip
                rcases Nat.lt_or_ge y 197 with a197 | a197
                · skip
                  obtain rfl : y = 196 := by omega
                  exact cd_chk_y196
                · skip
                  obtain rfl : y = 197 := by omega
                  exact cd_chk_y197
              · skip
                rcases Nat.lt_or_ge y 199 with a199 | a199
                · skip
                  obtain rfl : y = 198 := by omega
                  exact cd_chk_y198
                · skip
                  obtain rfl : y = 199 := by omega
                  exact cd_chk_y199
        · skip
          rcases Nat.lt_or_ge y 208 with a208 | a208
          · skip
            rcases Nat.lt_or_ge y 204 with a204 | a204
            · skip
              rcases Nat.lt_or_ge y 202 with a202 | a202
              · skip
                rcases Nat.lt_or_ge y 201 with a201 | a201
                · skip
                  obtain rfl : y = 200 := by omega
                  exact cd_chk_y200
                · skip
                  obtain rfl : y = 201 := by omega
                  exact cd_chk_y201
              · skip
                rcases Nat.lt_or_ge y 203 with a203 | a203
                · skip
                  obtain rfl : y = 202 := by omega
                  exact cd_chk_y202
                · skip
                  obtain rfl : y = 203 := by omega
                  exact cd_chk_y203
            · skip
              rcases Nat.lt_or_ge y 206 with a206 | a206
              · skip
                rcases Nat.lt_or_ge y 205 with a205 | a205
                · skip
                  obtain rfl : y = 204 := by omega
                  exact cd_chk_y204
                · skip
                  obtain rfl : y = 205 := by omega
                  exact cd_chk_y205
              · skip
                rcases Nat.lt_or_ge y 207 with a207 | a207
                · skip
                  obtain rfl : y = 206 := by omega
                  exact cd_chk_y206
                · skip
                  obtain rfl : y = 207 := by omega
                  exact cd_chk_y207
          · skip
            rcases Nat.lt_or_ge y 212 with a212 | a212
            · skip
              rcases Nat.lt_or_ge y 210 with a210 | a210
              · skip
                rcases Nat.lt_or_ge y 209 with a209 | a209
                · skip
                  obtain rfl : y = 208 := by omega
                  exact cd_chk_y208
                · skip
                  obtain rfl : y = 209 := by omega
                  exact cd_chk_y209
              · skip
                rcases Nat.lt_or_ge y 211 with a211 | a211
                · skip
                  obtain rfl : y = 210 := by omega
                  exact cd_chk_y210
                · skip
                  obtain rfl : y = 211 := by omega
                  exact cd_chk_y211
            · skip
              rcases Nat.lt_or_ge y 214 with a214 | a214
              · skip
                rcases Nat.lt_or_ge y 213 with a213 | a213
                · skip
                  obtain rfl : y = 212 := by omega
                  exact cd_chk_y212
                · skip
                  obtain rfl : y = 213 := by omega
                  exact cd_chk_y213
              · skip
                rcases Nat.lt_or_ge y 215 with a215 | a215
                · skip
                  obtain rfl : y = 214 := by omega
                  exact cd_chk_y214
                · skip
                  obtain rfl : y = 215 := by omega
                  exact cd_chk_y215
      · skip
        rcases Nat.lt_or_ge y 231 with a231 | a231
        · skip
          rcases Nat.lt_or_ge y 223 with a223 | a223
          · skip
            rcases Nat.lt_or_ge y 219 with a219 | a219
            · skip
              rcases Nat.lt_or_ge y 217 with a217 | a217
              · skip
                obtain rfl : y = 216 := by omega
                exact cd_chk_y216
              · skip
                rcases Nat.lt_or_ge y 218 with a218 | a218
                · skip
                  obtain rfl : y = 217 := by omega
                  exact cd_chk_y217
                · skip
                  obtain rfl : y = 218 := by omega
                  exact cd_chk_y218
            · skip
              rcases Nat.lt_or_ge y 221 with a221 | a221
              · skip
                rcases Nat.lt_or_ge y 220 with a220 | a220
                · skip
                  obtain rfl : y = 219 := by omega
                  exact cd_chk_y219
                · skip
                  obtain rfl : y = 220 := by omega
                  exact cd_chk_y220
              · skip
                rcases Nat.lt_or_ge y 222 with a222 | a222
                · skip
                  obtain rfl : y = 221 := by omega
                  exact cd_chk_y221
                · skip
                  obtain rfl : y = 222 := by omega
                  exact cd_chk_y222
          · skip
            rcases Nat.lt_or_ge y 227 with a227 | a227
            · skip
              rcases Nat.lt_or_ge y 225 with a225 | a225
              · skip
                rcases Nat.lt_or_ge y 224 with a224 | a224
                · skip
                  obtain rfl : y = 223 := by omega
                  exact cd_chk_y223
                · skip
                  obtain rfl : y = 224 := by omega
                  exact cd_chk_y224
              · skip
                rcases Nat.lt_or_ge y 226 with a226 | a226
                · skip
                  obtain rfl : y = 225 := by omega
                  exact cd_chk_y225
                · skip
                  obtain rfl : y = 226 := by omega
                  exact cd_chk_y226
            · skip
              rcases Nat.lt_or_ge y 229 with a229 | a229
              · skip
                rcases Nat.lt_or_ge y 228 with a228 | a228
                · skip
                  obtain rfl : y = 227 := by omega
                  exact cd_chk_y227
                · skip
                  obtain rfl : y = 228 := by omega
                  exact cd_chk_y228
              · skip
                rcases Nat.lt_or_ge y 230 with a230 | a230
                · skip
                  obtain rfl : y = 229 := by omega
                  exact cd_chk_y229
                · skip
                  obtain rfl : y = 230 := by omega
                  exact cd_chk_y230
        · skip
          rcases Nat.lt_or_ge y 239 with a239 | a239
          · skip
            rcases Nat.lt_or_ge y 235 with a235 | a235
            · skip
              rcases Nat.lt_or_ge y 233 with a233 | a233
              · skip
                rcases Nat.lt_or_ge y 232 with a232 | a232
                · skip
                  obtain rfl : y = 231 := by omega
                  exact cd_chk_y231
                · skip
                  obtain rfl : y = 232 := by omega
                  exact cd_chk_y232
              · skip
                rcases Nat.lt_or_ge y 234 with a234 | a234
                · skip
                  obtain rfl : y = 233 := by omega
                  exact cd_chk_y233
                · skip
                  obtain rfl : y = 234 := by omega
                  exact cd_chk_y234
            · skip
              rcases Nat.lt_or_ge y 237 with a237 | a237
              · skip
                rcases Nat.lt_or_ge y 236 with a236 | a236
                · skip
                  obtain rfl : y = 235 := by omega
                  exact cd_chk_y235
                · skip
                  obtain rfl : y = 236 := by omega
                  exact cd_chk_y236
              · skip
                rcases Nat.lt_or_ge y 238 with a238 | a238
                · skip
                  obtain rfl : y = 237 := by omega
                  exact cd_chk_y237
                · skip
                  obtain rfl : y = 238 := by omega
                  exact cd_chk_y238
          · skip
            rcases Nat.lt_or_ge y 243 with a243 | a243
            · skip
              rcases Nat.lt_or_ge y 241 with a241 | a241
              · skip
                rcases Nat.lt_or_ge y 240 with a240 | a240
                · skip
                  obtain rfl : y = 239 := by omega
                  exact cd_chk_y239
                · skip
                  obtain rfl : y = 240 := by omega
                  exact cd_chk_y240
              · skip
                rcases Nat.lt_or_ge y 242 with a242 | a242
                · skip
                  obtain rfl : y = 241 := by omega
                  exact cd_chk_y241
                · skip
                  obtain rfl : y = 242 := by omega
                  exact cd_chk_y242
            · skip
              rcases Nat.lt_or_ge y 245 with a245 | a245
              · skip
                rcases Nat.lt_or_ge y 244 with a244 | a244
                · skip
                  obtain rfl : y = 243 := by omega
                  exact cd_chk_y243
                · skip
                  obtain rfl : y = 244 := by omega
                  exact cd_chk_y244
              · skip
                rcases Nat.lt_or_ge y 246 with a246 | a246
                · skip
                  obtain rfl : y = 245 := by omega
                  exact cd_chk_y245
                · skip
                  obtain rfl : y = 246 := by omega
                  exact cd_chk_y246
