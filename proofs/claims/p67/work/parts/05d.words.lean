set_option maxRecDepth 100000 in
theorem uw_X0 : ∀ w ∈ u_ws RX0 TX0 8, w ∈ gTbl := by decide +kernel
set_option maxRecDepth 100000 in
theorem uw_X1 : ∀ w ∈ u_ws RX1 TX1 3, w ∈ gTbl := by decide +kernel
set_option maxRecDepth 100000 in
theorem uw_X2 : ∀ w ∈ u_ws RX2 TX2 7, w ∈ gTbl := by decide +kernel
set_option maxRecDepth 100000 in
theorem uw_X3 : ∀ w ∈ u_ws RX3 TX3 13, w ∈ gTbl := by decide +kernel
set_option maxRecDepth 100000 in
theorem uw_X4 : ∀ w ∈ u_ws RX4 TX4 2, w ∈ gTbl := by decide +kernel
set_option maxRecDepth 100000 in
theorem uw_X5 : ∀ w ∈ u_ws RX5 TX5 5, w ∈ gTbl := by decide +kernel
set_option maxRecDepth 100000 in
theorem uw_X6 : ∀ w ∈ u_ws RX6 TX6 2, w ∈ gTbl := by decide +kernel
set_option maxRecDepth 100000 in
theorem uw_X7 : ∀ w ∈ u_ws RX7 TX7 12, w ∈ gTbl := by decide +kernel
set_option maxRecDepth 100000 in
theorem uw_X8 : ∀ w ∈ u_ws RX8 TX8 7, w ∈ gTbl := by decide +kernel
set_option maxRecDepth 100000 in
theorem uw_X9 : ∀ w ∈ u_ws RX9 TX9 15, w ∈ gTbl := by decide +kernel
set_option maxRecDepth 100000 in
theorem uw_J4 : ∀ w ∈ u_ws RJ4 TJ4 4, w ∈ gTbl := by decide +kernel
set_option maxRecDepth 100000 in
theorem uw_J0 : ∀ w ∈ u_ws RJ0 TJ0 4, w ∈ gTbl := by decide +kernel
set_option maxRecDepth 100000 in
theorem uw_Jx4a65c : ∀ w ∈ u_ws RJx4a65c TJx4a65c 3, w ∈ gTbl := by decide +kernel
theorem fa_X2_9 : FA RX2 9 2 0 (.array .int) true := ⟨_, _, _, tyX2, rfl, rfl, by decide, by decide, uw_X2, gm 109 (by decide +kernel) rfl, tyX2_ok, nmX2, rfl, rfl⟩
theorem fa_X2_15 : FA RX2 15 2 1 .int false := ⟨_, _, _, tyX2, rfl, rfl, by decide, by decide, uw_X2, gm 110 (by decide +kernel) rfl, tyX2_ok, nmX2, rfl, rfl⟩
theorem fa_X8_55 : FA RX8 55 2 1 .int false := ⟨_, _, _, tyX2, rfl, rfl, by decide, by decide, uw_X2, gm 111 (by decide +kernel) rfl, tyX2_ok, nmX2, rfl, rfl⟩
theorem fa_X5_38 : FA RX5 38 2 1 .int false := ⟨_, _, _, tyX2, rfl, rfl, by decide, by decide, uw_X2, gm 112 (by decide +kernel) rfl, tyX2_ok, nmX2, rfl, rfl⟩
theorem fa_X2_19 : FA RX2 19 2 2 .int false := ⟨_, _, _, tyX2, rfl, rfl, by decide, by decide, uw_X2, gm 113 (by decide +kernel) rfl, tyX2_ok, nmX2, rfl, rfl⟩
theorem fa_X2_22 : FA RX2 22 2 3 .int false := ⟨_, _, _, tyX2, rfl, rfl, by decide, by decide, uw_X2, gm 114 (by decide +kernel) rfl, tyX2_ok, nmX2, rfl, rfl⟩
theorem fa_X2_25 : FA RX2 25 2 4 .int false := ⟨_, _, _, tyX2, rfl, rfl, by decide, by decide, uw_X2, gm 115 (by decide +kernel) rfl, tyX2_ok, nmX2, rfl, rfl⟩
theorem fa_X5_49 : FA RX5 49 2 4 .int false := ⟨_, _, _, tyX2, rfl, rfl, by decide, by decide, uw_X2, gm 116 (by decide +kernel) rfl, tyX2_ok, nmX2, rfl, rfl⟩
theorem fa_X2_28 : FA RX2 28 2 5 .int false := ⟨_, _, _, tyX2, rfl, rfl, by decide, by decide, uw_X2, gm 117 (by decide +kernel) rfl, tyX2_ok, nmX2, rfl, rfl⟩
theorem fa_X5_65 : FA RX5 65 2 5 .int false := ⟨_, _, _, tyX2, rfl, rfl, by decide, by decide, uw_X2, gm 118 (by decide +kernel) rfl, tyX2_ok, nmX2, rfl, rfl⟩
theorem fa_X2_31 : FA RX2 31 2 6 .int false := ⟨_, _, _, tyX2, rfl, rfl, by decide, by decide, uw_X2, gm 119 (by decide +kernel) rfl, tyX2_ok, nmX2, rfl, rfl⟩
theorem fa_X5_68 : FA RX5 68 2 6 .int false := ⟨_, _, _, tyX2, rfl, rfl, by decide, by decide, uw_X2, gm 120 (by decide +kernel) rfl, tyX2_ok, nmX2, rfl, rfl⟩
theorem fa_X0_9 : FA RX0 9 0 0 (.array .int) true := ⟨_, _, _, tyX0, rfl, rfl, by decide, by decide, uw_X0, gm 149 (by decide +kernel) rfl, tyX0_ok, nmX0, rfl, rfl⟩
theorem fa_X0_15 : FA RX0 15 0 1 .int false := ⟨_, _, _, tyX0, rfl, rfl, by decide, by decide, uw_X0, gm 150 (by decide +kernel) rfl, tyX0_ok, nmX0, rfl, rfl⟩
theorem fa_X0_19 : FA RX0 19 0 2 (.array .int) true := ⟨_, _, _, tyX0, rfl, rfl, by decide, by decide, uw_X0, gm 151 (by decide +kernel) rfl, tyX0_ok, nmX0, rfl, rfl⟩
theorem fa_X0_22 : FA RX0 22 0 3 .int false := ⟨_, _, _, tyX0, rfl, rfl, by decide, by decide, uw_X0, gm 152 (by decide +kernel) rfl, tyX0_ok, nmX0, rfl, rfl⟩
theorem fa_X8_92 : FA RX8 92 0 3 .int false := ⟨_, _, _, tyX0, rfl, rfl, by decide, by decide, uw_X0, gm 153 (by decide +kernel) rfl, tyX0_ok, nmX0, rfl, rfl⟩
theorem fa_X3_82 : FA RX3 82 0 3 .int false := ⟨_, _, _, tyX0, rfl, rfl, by decide, by decide, uw_X0, gm 154 (by decide +kernel) rfl, tyX0_ok, nmX0, rfl, rfl⟩
theorem fa_X0_25 : FA RX0 25 0 4 .int false := ⟨_, _, _, tyX0, rfl, rfl, by decide, by decide, uw_X0, gm 155 (by decide +kernel) rfl, tyX0_ok, nmX0, rfl, rfl⟩
theorem fa_X0_28 : FA RX0 28 0 5 (.array .int) true := ⟨_, _, _, tyX0, rfl, rfl, by decide, by decide, uw_X0, gm 156 (by decide +kernel) rfl, tyX0_ok, nmX0, rfl, rfl⟩
theorem fa_X0_31 : FA RX0 31 0 6 (.array .int) true := ⟨_, _, _, tyX0, rfl, rfl, by decide, by decide, uw_X0, gm 157 (by decide +kernel) rfl, tyX0_ok, nmX0, rfl, rfl⟩
theorem fa_X0_34 : FA RX0 34 0 7 .int false := ⟨_, _, _, tyX0, rfl, rfl, by decide, by decide, uw_X0, gm 158 (by decide +kernel) rfl, tyX0_ok, nmX0, rfl, rfl⟩
theorem fa_X5_197 : FA RX5 197 0 7 .int false := ⟨_, _, _, tyX0, rfl, rfl, by decide, by decide, uw_X0, gm 159 (by decide +kernel) rfl, tyX0_ok, nmX0, rfl, rfl⟩
theorem fa_X7_9 : FA RX7 9 7 0 .int false := ⟨_, _, _, tyX7, rfl, rfl, by decide, by decide, uw_X7, gm 183 (by decide +kernel) rfl, tyX7_ok, nmX7, rfl, rfl⟩
theorem fa_X3_119 : FA RX3 119 7 0 .int false := ⟨_, _, _, tyX7, rfl, rfl, by decide, by decide, uw_X7, gm 184 (by decide +kernel) rfl, tyX7_ok, nmX7, rfl, rfl⟩
theorem fa_X8_151 : FA RX8 151 7 0 .int false := ⟨_, _, _, tyX7, rfl, rfl, by decide, by decide, uw_X7, gm 185 (by decide +kernel) rfl, tyX7_ok, nmX7, rfl, rfl⟩
theorem fa_X7_15 : FA RX7 15 7 1 .int false := ⟨_, _, _, tyX7, rfl, rfl, by decide, by decide, uw_X7, gm 186 (by decide +kernel) rfl, tyX7_ok, nmX7, rfl, rfl⟩
theorem fa_X3_131 : FA RX3 131 7 1 .int false := ⟨_, _, _, tyX7, rfl, rfl, by decide, by decide, uw_X7, gm 187 (by decide +kernel) rfl, tyX7_ok, nmX7, rfl, rfl⟩
theorem fa_X8_157 : FA RX8 157 7 1 .int false := ⟨_, _, _, tyX7, rfl, rfl, by decide, by decide, uw_X7, gm 188 (by decide +kernel) rfl, tyX7_ok, nmX7, rfl, rfl⟩
theorem fa_X7_18 : FA RX7 18 7 2 .int false := ⟨_, _, _, tyX7, rfl, rfl, by decide, by decide, uw_X7, gm 189 (by decide +kernel) rfl, tyX7_ok, nmX7, rfl, rfl⟩
theorem fa_X3_122 : FA RX3 122 7 2 .int false := ⟨_, _, _, tyX7, rfl, rfl, by decide, by decide, uw_X7, gm 190 (by decide +kernel) rfl, tyX7_ok, nmX7, rfl, rfl⟩
theorem fa_X8_142 : FA RX8 142 7 2 .int false := ⟨_, _, _, tyX7, rfl, rfl, by decide, by decide, uw_X7, gm 191 (by decide +kernel) rfl, tyX7_ok, nmX7, rfl, rfl⟩
theorem fa_X5_275 : FA RX5 275 7 2 .int false := ⟨_, _, _, tyX7, rfl, rfl, by decide, by decide, uw_X7, gm 192 (by decide +kernel) rfl, tyX7_ok, nmX7, rfl, rfl⟩
theorem fa_X7_21 : FA RX7 21 7 3 .int false := ⟨_, _, _, tyX7, rfl, rfl, by decide, by decide, uw_X7, gm 193 (by decide +kernel) rfl, tyX7_ok, nmX7, rfl, rfl⟩
theorem fa_X3_85 : FA RX3 85 7 3 .int false := ⟨_, _, _, tyX7, rfl, rfl, by decide, by decide, uw_X7, gm 194 (by decide +kernel) rfl, tyX7_ok, nmX7, rfl, rfl⟩
theorem fa_X5_176 : FA RX5 176 7 3 .int false := ⟨_, _, _, tyX7, rfl, rfl, by decide, by decide, uw_X7, gm 195 (by decide +kernel) rfl, tyX7_ok, nmX7, rfl, rfl⟩
theorem fa_X8_196 : FA RX8 196 7 3 .int false := ⟨_, _, _, tyX7, rfl, rfl, by decide, by decide, uw_X7, gm 196 (by decide +kernel) rfl, tyX7_ok, nmX7, rfl, rfl⟩
theorem fa_X7_24 : FA RX7 24 7 4 .int false := ⟨_, _, _, tyX7, rfl, rfl, by decide, by decide, uw_X7, gm 197 (by decide +kernel) rfl, tyX7_ok, nmX7, rfl, rfl⟩
theorem fa_X8_269 : FA RX8 269 7 4 .int false := ⟨_, _, _, tyX7, rfl, rfl, by decide, by decide, uw_X7, gm 198 (by decide +kernel) rfl, tyX7_ok, nmX7, rfl, rfl⟩
theorem fa_X7_27 : FA RX7 27 7 5 .boolean false := ⟨_, _, _, tyX7, rfl, rfl, by decide, by decide, uw_X7, gm 199 (by decide +kernel) rfl, tyX7_ok, nmX7, rfl, rfl⟩
theorem fa_X3_137 : FA RX3 137 7 5 .boolean false := ⟨_, _, _, tyX7, rfl, rfl, by decide, by decide, uw_X7, gm 200 (by decide +kernel) rfl, tyX7_ok, nmX7, rfl, rfl⟩
theorem fa_X8_272 : FA RX8 272 7 5 .boolean false := ⟨_, _, _, tyX7, rfl, rfl, by decide, by decide, uw_X7, gm 201 (by decide +kernel) rfl, tyX7_ok, nmX7, rfl, rfl⟩
theorem fa_X7_31 : FA RX7 31 7 6 (.array .int) true := ⟨_, _, _, tyX7, rfl, rfl, by decide, by decide, uw_X7, gm 202 (by decide +kernel) rfl, tyX7_ok, nmX7, rfl, rfl⟩
theorem fa_X3_134 : FA RX3 134 7 6 (.array .int) true := ⟨_, _, _, tyX7, rfl, rfl, by decide, by decide, uw_X7, gm 203 (by decide +kernel) rfl, tyX7_ok, nmX7, rfl, rfl⟩
theorem fa_X8_154 : FA RX8 154 7 6 (.array .int) true := ⟨_, _, _, tyX7, rfl, rfl, by decide, by decide, uw_X7, gm 204 (by decide +kernel) rfl, tyX7_ok, nmX7, rfl, rfl⟩
theorem fa_X7_35 : FA RX7 35 7 7 (.array .int) true := ⟨_, _, _, tyX7, rfl, rfl, by decide, by decide, uw_X7, gm 205 (by decide +kernel) rfl, tyX7_ok, nmX7, rfl, rfl⟩
theorem fa_X3_92 : FA RX3 92 7 7 (.array .int) true := ⟨_, _, _, tyX7, rfl, rfl, by decide, by decide, uw_X7, gm 206 (by decide +kernel) rfl, tyX7_ok, nmX7, rfl, rfl⟩
theorem fa_X8_242 : FA RX8 242 7 7 (.array .int) true := ⟨_, _, _, tyX7, rfl, rfl, by decide, by decide, uw_X7, gm 207 (by decide +kernel) rfl, tyX7_ok, nmX7, rfl, rfl⟩
theorem fa_X7_38 : FA RX7 38 7 8 (.array .int) true := ⟨_, _, _, tyX7, rfl, rfl, by decide, by decide, uw_X7, gm 208 (by decide +kernel) rfl, tyX7_ok, nmX7, rfl, rfl⟩
theorem fa_X3_68 : FA RX3 68 7 8 (.array .int) true := ⟨_, _, _, tyX7, rfl, rfl, by decide, by decide, uw_X7, gm 209 (by decide +kernel) rfl, tyX7_ok, nmX7, rfl, rfl⟩
theorem fa_X8_166 : FA RX8 166 7 8 (.array .int) true := ⟨_, _, _, tyX7, rfl, rfl, by decide, by decide, uw_X7, gm 210 (by decide +kernel) rfl, tyX7_ok, nmX7, rfl, rfl⟩
theorem fa_X5_256 : FA RX5 256 7 8 (.array .int) true := ⟨_, _, _, tyX7, rfl, rfl, by decide, by decide, uw_X7, gm 211 (by decide +kernel) rfl, tyX7_ok, nmX7, rfl, rfl⟩
theorem fa_X7_41 : FA RX7 41 7 9 (.array .int) true := ⟨_, _, _, tyX7, rfl, rfl, by decide, by decide, uw_X7, gm 212 (by decide +kernel) rfl, tyX7_ok, nmX7, rfl, rfl⟩
theorem fa_X3_71 : FA RX3 71 7 9 (.array .int) true := ⟨_, _, _, tyX7, rfl, rfl, by decide, by decide, uw_X7, gm 213 (by decide +kernel) rfl, tyX7_ok, nmX7, rfl, rfl⟩
theorem fa_X8_169 : FA RX8 169 7 9 (.array .int) true := ⟨_, _, _, tyX7, rfl, rfl, by decide, by decide, uw_X7, gm 214 (by decide +kernel) rfl, tyX7_ok, nmX7, rfl, rfl⟩
theorem fa_X7_44 : FA RX7 44 7 10 (.array .int) true := ⟨_, _, _, tyX7, rfl, rfl, by decide, by decide, uw_X7, gm 215 (by decide +kernel) rfl, tyX7_ok, nmX7, rfl, rfl⟩
theorem fa_X3_141 : FA RX3 141 7 10 (.array .int) true := ⟨_, _, _, tyX7, rfl, rfl, by decide, by decide, uw_X7, gm 216 (by decide +kernel) rfl, tyX7_ok, nmX7, rfl, rfl⟩
theorem fa_X8_206 : FA RX8 206 7 10 (.array .int) true := ⟨_, _, _, tyX7, rfl, rfl, by decide, by decide, uw_X7, gm 217 (by decide +kernel) rfl, tyX7_ok, nmX7, rfl, rfl⟩
theorem fa_X7_47 : FA RX7 47 7 11 (.array .int) true := ⟨_, _, _, tyX7, rfl, rfl, by decide, by decide, uw_X7, gm 218 (by decide +kernel) rfl, tyX7_ok, nmX7, rfl, rfl⟩
theorem fa_X3_144 : FA RX3 144 7 11 (.array .int) true := ⟨_, _, _, tyX7, rfl, rfl, by decide, by decide, uw_X7, gm 219 (by decide +kernel) rfl, tyX7_ok, nmX7, rfl, rfl⟩
theorem fa_X3_9 : FA RX3 9 3 0 .int false := ⟨_, _, _, tyX3, rfl, rfl, by decide, by decide, uw_X3, gm 245 (by decide +kernel) rfl, tyX3_ok, nmX3, rfl, rfl⟩
theorem fa_X8_106 : FA RX8 106 3 0 .int false := ⟨_, _, _, tyX3, rfl, rfl, by decide, by decide, uw_X3, gm 246 (by decide +kernel) rfl, tyX3_ok, nmX3, rfl, rfl⟩
theorem fa_X5_81 : FA RX5 81 3 0 .int false := ⟨_, _, _, tyX3, rfl, rfl, by decide, by decide, uw_X3, gm 247 (by decide +kernel) rfl, tyX3_ok, nmX3, rfl, rfl⟩
theorem fa_X3_15 : FA RX3 15 3 1 .int false := ⟨_, _, _, tyX3, rfl, rfl, by decide, by decide, uw_X3, gm 248 (by decide +kernel) rfl, tyX3_ok, nmX3, rfl, rfl⟩
theorem fa_X5_99 : FA RX5 99 3 1 .int false := ⟨_, _, _, tyX3, rfl, rfl, by decide, by decide, uw_X3, gm 249 (by decide +kernel) rfl, tyX3_ok, nmX3, rfl, rfl⟩
theorem fa_X3_18 : FA RX3 18 3 2 .int false := ⟨_, _, _, tyX3, rfl, rfl, by decide, by decide, uw_X3, gm 250 (by decide +kernel) rfl, tyX3_ok, nmX3, rfl, rfl⟩
theorem fa_X5_271 : FA RX5 271 3 2 .int false := ⟨_, _, _, tyX3, rfl, rfl, by decide, by decide, uw_X3, gm 251 (by decide +kernel) rfl, tyX3_ok, nmX3, rfl, rfl⟩
theorem fa_X3_21 : FA RX3 21 3 3 .int false := ⟨_, _, _, tyX3, rfl, rfl, by decide, by decide, uw_X3, gm 252 (by decide +kernel) rfl, tyX3_ok, nmX3, rfl, rfl⟩
theorem fa_X5_273 : FA RX5 273 3 3 .int false := ⟨_, _, _, tyX3, rfl, rfl, by decide, by decide, uw_X3, gm 253 (by decide +kernel) rfl, tyX3_ok, nmX3, rfl, rfl⟩
theorem fa_X3_24 : FA RX3 24 3 4 .int false := ⟨_, _, _, tyX3, rfl, rfl, by decide, by decide, uw_X3, gm 254 (by decide +kernel) rfl, tyX3_ok, nmX3, rfl, rfl⟩
theorem fa_X5_62 : FA RX5 62 3 4 .int false := ⟨_, _, _, tyX3, rfl, rfl, by decide, by decide, uw_X3, gm 255 (by decide +kernel) rfl, tyX3_ok, nmX3, rfl, rfl⟩
theorem fa_X8_109 : FA RX8 109 3 4 .int false := ⟨_, _, _, tyX3, rfl, rfl, by decide, by decide, uw_X3, gm 256 (by decide +kernel) rfl, tyX3_ok, nmX3, rfl, rfl⟩
theorem fa_X3_27 : FA RX3 27 3 5 (.array .int) true := ⟨_, _, _, tyX3, rfl, rfl, by decide, by decide, uw_X3, gm 257 (by decide +kernel) rfl, tyX3_ok, nmX3, rfl, rfl⟩
theorem fa_X3_31 : FA RX3 31 3 6 (.array .int) true := ⟨_, _, _, tyX3, rfl, rfl, by decide, by decide, uw_X3, gm 258 (by decide +kernel) rfl, tyX3_ok, nmX3, rfl, rfl⟩
theorem fa_X3_34 : FA RX3 34 3 7 .int false := ⟨_, _, _, tyX3, rfl, rfl, by decide, by decide, uw_X3, gm 259 (by decide +kernel) rfl, tyX3_ok, nmX3, rfl, rfl⟩
theorem fa_X5_75 : FA RX5 75 3 7 .int false := ⟨_, _, _, tyX3, rfl, rfl, by decide, by decide, uw_X3, gm 260 (by decide +kernel) rfl, tyX3_ok, nmX3, rfl, rfl⟩
theorem fa_X8_160 : FA RX8 160 3 7 .int false := ⟨_, _, _, tyX3, rfl, rfl, by decide, by decide, uw_X3, gm 261 (by decide +kernel) rfl, tyX3_ok, nmX3, rfl, rfl⟩
theorem fa_X3_37 : FA RX3 37 3 8 (.array .int) true := ⟨_, _, _, tyX3, rfl, rfl, by decide, by decide, uw_X3, gm 262 (by decide +kernel) rfl, tyX3_ok, nmX3, rfl, rfl⟩
theorem fa_X3_40 : FA RX3 40 3 9 (.array .int) true := ⟨_, _, _, tyX3, rfl, rfl, by decide, by decide, uw_X3, gm 263 (by decide +kernel) rfl, tyX3_ok, nmX3, rfl, rfl⟩
theorem fa_X3_46 : FA RX3 46 3 10 (.object "CardLoom$Deck") true := ⟨_, _, _, tyX3, rfl, rfl, by decide, by decide, uw_X3, gm 264 (by decide +kernel) rfl, tyX3_ok, nmX3, rfl, rfl⟩
theorem fa_X8_88 : FA RX8 88 3 10 (.object "CardLoom$Deck") true := ⟨_, _, _, tyX3, rfl, rfl, by decide, by decide, uw_X3, gm 265 (by decide +kernel) rfl, tyX3_ok, nmX3, rfl, rfl⟩
theorem fa_X5_194 : FA RX5 194 3 10 (.object "CardLoom$Deck") true := ⟨_, _, _, tyX3, rfl, rfl, by decide, by decide, uw_X3, gm 266 (by decide +kernel) rfl, tyX3_ok, nmX3, rfl, rfl⟩
theorem fa_X3_53 : FA RX3 53 3 11 (.object "CardLoom$State") true := ⟨_, _, _, tyX3, rfl, rfl, by decide, by decide, uw_X3, gm 267 (by decide +kernel) rfl, tyX3_ok, nmX3, rfl, rfl⟩
theorem fa_X5_172 : FA RX5 172 3 11 (.object "CardLoom$State") true := ⟨_, _, _, tyX3, rfl, rfl, by decide, by decide, uw_X3, gm 268 (by decide +kernel) rfl, tyX3_ok, nmX3, rfl, rfl⟩
theorem fa_X8_138 : FA RX8 138 3 11 (.object "CardLoom$State") true := ⟨_, _, _, tyX3, rfl, rfl, by decide, by decide, uw_X3, gm 269 (by decide +kernel) rfl, tyX3_ok, nmX3, rfl, rfl⟩
theorem fa_X3_57 : FA RX3 57 3 12 (.object "CardLoom$State") true := ⟨_, _, _, tyX3, rfl, rfl, by decide, by decide, uw_X3, gm 270 (by decide +kernel) rfl, tyX3_ok, nmX3, rfl, rfl⟩
theorem fa_X8_255 : FA RX8 255 3 12 (.object "CardLoom$State") true := ⟨_, _, _, tyX3, rfl, rfl, by decide, by decide, uw_X3, gm 271 (by decide +kernel) rfl, tyX3_ok, nmX3, rfl, rfl⟩
theorem fa_X5_12 : FA RX5 12 5 0 (.object "CardLoom$Input") true := ⟨_, _, _, tyX5, rfl, rfl, by decide, by decide, uw_X5, gm 299 (by decide +kernel) rfl, tyX5_ok, nmX5, rfl, rfl⟩
theorem fa_X8_51 : FA RX8 51 5 0 (.object "CardLoom$Input") true := ⟨_, _, _, tyX5, rfl, rfl, by decide, by decide, uw_X5, gm 300 (by decide +kernel) rfl, tyX5_ok, nmX5, rfl, rfl⟩
theorem fa_X5_21 : FA RX5 21 5 1 (.object "CardLoom$Loom") false := ⟨_, _, _, tyX5, rfl, rfl, by decide, by decide, uw_X5, gm 301 (by decide +kernel) rfl, tyX5_ok, nmX5, rfl, rfl⟩
theorem fa_X8_81 : FA RX8 81 5 1 (.object "CardLoom$Loom") false := ⟨_, _, _, tyX5, rfl, rfl, by decide, by decide, uw_X5, gm 302 (by decide +kernel) rfl, tyX5_ok, nmX5, rfl, rfl⟩
theorem fa_X5_25 : FA RX5 25 5 2 .int false := ⟨_, _, _, tyX5, rfl, rfl, by decide, by decide, uw_X5, gm 303 (by decide +kernel) rfl, tyX5_ok, nmX5, rfl, rfl⟩
theorem fa_X5_29 : FA RX5 29 5 3 .int false := ⟨_, _, _, tyX5, rfl, rfl, by decide, by decide, uw_X5, gm 304 (by decide +kernel) rfl, tyX5_ok, nmX5, rfl, rfl⟩
theorem fa_X5_32 : FA RX5 32 5 4 .int false := ⟨_, _, _, tyX5, rfl, rfl, by decide, by decide, uw_X5, gm 305 (by decide +kernel) rfl, tyX5_ok, nmX5, rfl, rfl⟩
theorem fa_X4_9 : FA RX4 9 4 0 (.array .int) true := ⟨_, _, _, tyX4, rfl, rfl, by decide, by decide, uw_X4, gm 323 (by decide +kernel) rfl, tyX4_ok, nmX4, rfl, rfl⟩
theorem fa_X4_15 : FA RX4 15 4 1 .int false := ⟨_, _, _, tyX4, rfl, rfl, by decide, by decide, uw_X4, gm 324 (by decide +kernel) rfl, tyX4_ok, nmX4, rfl, rfl⟩
theorem fa_X1_11 : FA RX1 11 1 0 (.array (.object "CardLoom$State")) true := ⟨_, _, _, tyX1, rfl, rfl, by decide, by decide, uw_X1, gm 339 (by decide +kernel) rfl, tyX1_ok, nmX1, rfl, rfl⟩
theorem fa_X1_17 : FA RX1 17 1 1 .int false := ⟨_, _, _, tyX1, rfl, rfl, by decide, by decide, uw_X1, gm 340 (by decide +kernel) rfl, tyX1_ok, nmX1, rfl, rfl⟩
theorem fa_X1_21 : FA RX1 21 1 2 .int false := ⟨_, _, _, tyX1, rfl, rfl, by decide, by decide, uw_X1, gm 341 (by decide +kernel) rfl, tyX1_ok, nmX1, rfl, rfl⟩
theorem fa_X8_330 : FA RX8 330 1 2 .int false := ⟨_, _, _, tyX1, rfl, rfl, by decide, by decide, uw_X1, gm 342 (by decide +kernel) rfl, tyX1_ok, nmX1, rfl, rfl⟩
theorem fa_X6_10 : FA RX6 10 6 0 (.object "CardLoom$State") true := ⟨_, _, _, tyX6, rfl, rfl, by decide, by decide, uw_X6, gm 358 (by decide +kernel) rfl, tyX6_ok, nmX6, rfl, rfl⟩
theorem fa_X8_333 : FA RX8 333 6 0 (.object "CardLoom$State") true := ⟨_, _, _, tyX6, rfl, rfl, by decide, by decide, uw_X6, gm 359 (by decide +kernel) rfl, tyX6_ok, nmX6, rfl, rfl⟩
theorem fa_X6_16 : FA RX6 16 6 1 .boolean false := ⟨_, _, _, tyX6, rfl, rfl, by decide, by decide, uw_X6, gm 360 (by decide +kernel) rfl, tyX6_ok, nmX6, rfl, rfl⟩
theorem fa_X8_85 : FA RX8 85 6 1 .boolean false := ⟨_, _, _, tyX6, rfl, rfl, by decide, by decide, uw_X6, gm 361 (by decide +kernel) rfl, tyX6_ok, nmX6, rfl, rfl⟩
theorem fa_X8_10 : FA RX8 10 8 0 (.object "CardLoom$Parser") true := ⟨_, _, _, tyX8, rfl, rfl, by decide, by decide, uw_X8, gm 369 (by decide +kernel) rfl, tyX8_ok, nmX8, rfl, rfl⟩
theorem fa_X8_19 : FA RX8 19 8 1 (.object "CardLoom$Output") true := ⟨_, _, _, tyX8, rfl, rfl, by decide, by decide, uw_X8, gm 370 (by decide +kernel) rfl, tyX8_ok, nmX8, rfl, rfl⟩
theorem fa_X8_26 : FA RX8 26 8 2 (.object "CardLoom$History") true := ⟨_, _, _, tyX8, rfl, rfl, by decide, by decide, uw_X8, gm 371 (by decide +kernel) rfl, tyX8_ok, nmX8, rfl, rfl⟩
theorem fa_X8_33 : FA RX8 33 8 3 (.object "CardLoom$Slot") true := ⟨_, _, _, tyX8, rfl, rfl, by decide, by decide, uw_X8, gm 372 (by decide +kernel) rfl, tyX8_ok, nmX8, rfl, rfl⟩
theorem fa_X8_37 : FA RX8 37 8 4 (.object "CardLoom$Slot") true := ⟨_, _, _, tyX8, rfl, rfl, by decide, by decide, uw_X8, gm 373 (by decide +kernel) rfl, tyX8_ok, nmX8, rfl, rfl⟩
theorem fa_X8_43 : FA RX8 43 8 5 (.object "CardLoom$Loom") false := ⟨_, _, _, tyX8, rfl, rfl, by decide, by decide, uw_X8, gm 374 (by decide +kernel) rfl, tyX8_ok, nmX8, rfl, rfl⟩
theorem fa_X8_47 : FA RX8 47 8 6 .boolean false := ⟨_, _, _, tyX8, rfl, rfl, by decide, by decide, uw_X8, gm 375 (by decide +kernel) rfl, tyX8_ok, nmX8, rfl, rfl⟩
theorem fa_Jx4a65c_9 : FA RJx4a65c 9 18 1 (.array (.object "java/lang/Object")) false := ⟨_, _, _, tyJx4a65c, rfl, rfl, by decide, by decide, uw_Jx4a65c, gm 1082 (by decide +kernel) rfl, tyJx4a65c_ok, nmJx4a65c, rfl, rfl⟩
theorem fa_Jx4a65c_48 : FA RJx4a65c 48 18 2 .int false := ⟨_, _, _, tyJx4a65c, rfl, rfl, by decide, by decide, uw_Jx4a65c, gm 1083 (by decide +kernel) rfl, tyJx4a65c_ok, nmJx4a65c, rfl, rfl⟩
theorem fa_Jxc12de_7 : FA RJxc12de 7 18 0 .int false := ⟨_, _, _, tyJx4a65c, rfl, rfl, by decide, by decide, uw_Jx4a65c, gm 1084 (by decide +kernel) rfl, tyJx4a65c_ok, nmJx4a65c, rfl, rfl⟩
theorem fs_Jx4a65c_63 : FS RJx4a65c 63 18 0 .int false := ⟨_, _, _, tyJx4a65c, "java/util/ArrayList", rfl, rfl, by decide, by decide, uw_Jx4a65c, gm 1085 (by decide +kernel) rfl, tyJx4a65c_ok, nmJx4a65c, rfl, rfl, gm 1086 (by decide +kernel) rfl⟩
theorem fa_X9_24 : FA RX9 24 9 0 .int false := ⟨_, _, _, tyX9, rfl, rfl, by decide, by decide, uw_X9, gm 1094 (by decide +kernel) rfl, tyX9_ok, nmX9, rfl, rfl⟩
theorem fn_L_32 : FN RL 32 9 0 .int false := ⟨_, _, _, tyX9, "CardLoomLaw", rfl, rfl, by decide, by decide, uw_X9, List.mem_of_getElem? (i := 1095) (by decide +kernel), tyX9_ok, nmX9, rfl, rfl⟩
theorem fa_X9_27 : FA RX9 27 9 1 .int false := ⟨_, _, _, tyX9, rfl, rfl, by decide, by decide, uw_X9, gm 1096 (by decide +kernel) rfl, tyX9_ok, nmX9, rfl, rfl⟩
theorem fn_L_36 : FN RL 36 9 1 .int false := ⟨_, _, _, tyX9, "CardLoomLaw", rfl, rfl, by decide, by decide, uw_X9, List.mem_of_getElem? (i := 1097) (by decide +kernel), tyX9_ok, nmX9, rfl, rfl⟩
theorem fa_X9_30 : FA RX9 30 9 2 .int false := ⟨_, _, _, tyX9, rfl, rfl, by decide, by decide, uw_X9, gm 1098 (by decide +kernel) rfl, tyX9_ok, nmX9, rfl, rfl⟩
theorem fn_L_39 : FN RL 39 9 2 .int false := ⟨_, _, _, tyX9, "CardLoomLaw", rfl, rfl, by decide, by decide, uw_X9, List.mem_of_getElem? (i := 1099) (by decide +kernel), tyX9_ok, nmX9, rfl, rfl⟩
theorem fa_X9_7 : FA RX9 7 9 3 .int false := ⟨_, _, _, tyX9, rfl, rfl, by decide, by decide, uw_X9, gm 1100 (by decide +kernel) rfl, tyX9_ok, nmX9, rfl, rfl⟩
theorem fn_L_42 : FN RL 42 9 3 .int false := ⟨_, _, _, tyX9, "CardLoomLaw", rfl, rfl, by decide, by decide, uw_X9, List.mem_of_getElem? (i := 1101) (by decide +kernel), tyX9_ok, nmX9, rfl, rfl⟩
theorem fa_X9_33 : FA RX9 33 9 4 (.array .boolean) false := ⟨_, _, _, tyX9, rfl, rfl, by decide, by decide, uw_X9, gm 1102 (by decide +kernel) rfl, tyX9_ok, nmX9, rfl, rfl⟩
theorem fn_L_45 : FN RL 45 9 4 (.array .boolean) false := ⟨_, _, _, tyX9, "CardLoomLaw", rfl, rfl, by decide, by decide, uw_X9, List.mem_of_getElem? (i := 1103) (by decide +kernel), tyX9_ok, nmX9, rfl, rfl⟩
theorem fa_X9_42 : FA RX9 42 9 5 (.array .boolean) false := ⟨_, _, _, tyX9, rfl, rfl, by decide, by decide, uw_X9, gm 1104 (by decide +kernel) rfl, tyX9_ok, nmX9, rfl, rfl⟩
theorem fn_L_49 : FN RL 49 9 5 (.array .boolean) false := ⟨_, _, _, tyX9, "CardLoomLaw", rfl, rfl, by decide, by decide, uw_X9, List.mem_of_getElem? (i := 1105) (by decide +kernel), tyX9_ok, nmX9, rfl, rfl⟩
theorem fa_X9_45 : FA RX9 45 9 6 (.array .boolean) false := ⟨_, _, _, tyX9, rfl, rfl, by decide, by decide, uw_X9, gm 1106 (by decide +kernel) rfl, tyX9_ok, nmX9, rfl, rfl⟩
theorem fn_L_62 : FN RL 62 9 6 (.array .boolean) false := ⟨_, _, _, tyX9, "CardLoomLaw", rfl, rfl, by decide, by decide, uw_X9, List.mem_of_getElem? (i := 1107) (by decide +kernel), tyX9_ok, nmX9, rfl, rfl⟩
theorem fa_X9_48 : FA RX9 48 9 7 (.array .int) false := ⟨_, _, _, tyX9, rfl, rfl, by decide, by decide, uw_X9, gm 1108 (by decide +kernel) rfl, tyX9_ok, nmX9, rfl, rfl⟩
theorem fn_L_52 : FN RL 52 9 7 (.array .int) false := ⟨_, _, _, tyX9, "CardLoomLaw", rfl, rfl, by decide, by decide, uw_X9, List.mem_of_getElem? (i := 1109) (by decide +kernel), tyX9_ok, nmX9, rfl, rfl⟩
theorem fa_X9_54 : FA RX9 54 9 8 (.array .int) false := ⟨_, _, _, tyX9, rfl, rfl, by decide, by decide, uw_X9, gm 1110 (by decide +kernel) rfl, tyX9_ok, nmX9, rfl, rfl⟩
theorem fn_L_56 : FN RL 56 9 8 (.array .int) false := ⟨_, _, _, tyX9, "CardLoomLaw", rfl, rfl, by decide, by decide, uw_X9, List.mem_of_getElem? (i := 1111) (by decide +kernel), tyX9_ok, nmX9, rfl, rfl⟩
theorem fa_X9_57 : FA RX9 57 9 9 (.array .int) false := ⟨_, _, _, tyX9, rfl, rfl, by decide, by decide, uw_X9, gm 1112 (by decide +kernel) rfl, tyX9_ok, nmX9, rfl, rfl⟩
theorem fn_L_59 : FN RL 59 9 9 (.array .int) false := ⟨_, _, _, tyX9, "CardLoomLaw", rfl, rfl, by decide, by decide, uw_X9, List.mem_of_getElem? (i := 1113) (by decide +kernel), tyX9_ok, nmX9, rfl, rfl⟩
theorem fa_X9_60 : FA RX9 60 9 10 (.array .int) false := ⟨_, _, _, tyX9, rfl, rfl, by decide, by decide, uw_X9, gm 1114 (by decide +kernel) rfl, tyX9_ok, nmX9, rfl, rfl⟩
theorem fn_L_70 : FN RL 70 9 10 (.array .int) false := ⟨_, _, _, tyX9, "CardLoomLaw", rfl, rfl, by decide, by decide, uw_X9, List.mem_of_getElem? (i := 1115) (by decide +kernel), tyX9_ok, nmX9, rfl, rfl⟩
theorem fa_X9_63 : FA RX9 63 9 11 (.array (.array .int)) false := ⟨_, _, _, tyX9, rfl, rfl, by decide, by decide, uw_X9, gm 1116 (by decide +kernel) rfl, tyX9_ok, nmX9, rfl, rfl⟩
theorem fn_L_66 : FN RL 66 9 11 (.array (.array .int)) false := ⟨_, _, _, tyX9, "CardLoomLaw", rfl, rfl, by decide, by decide, uw_X9, List.mem_of_getElem? (i := 1117) (by decide +kernel), tyX9_ok, nmX9, rfl, rfl⟩
theorem fa_X9_67 : FA RX9 67 9 12 (.array .int) false := ⟨_, _, _, tyX9, rfl, rfl, by decide, by decide, uw_X9, gm 1118 (by decide +kernel) rfl, tyX9_ok, nmX9, rfl, rfl⟩
theorem fn_L_117 : FN RL 117 9 12 (.array .int) false := ⟨_, _, _, tyX9, "CardLoomLaw", rfl, rfl, by decide, by decide, uw_X9, List.mem_of_getElem? (i := 1119) (by decide +kernel), tyX9_ok, nmX9, rfl, rfl⟩
theorem fa_X9_16 : FA RX9 16 9 13 (.object "java/util/ArrayList") true := ⟨_, _, _, tyX9, rfl, rfl, by decide, by decide, uw_X9, gm 1120 (by decide +kernel) rfl, tyX9_ok, nmX9, rfl, rfl⟩
theorem fa_X9_20 : FA RX9 20 9 14 (.object "java/util/ArrayList") true := ⟨_, _, _, tyX9, rfl, rfl, by decide, by decide, uw_X9, gm 1121 (by decide +kernel) rfl, tyX9_ok, nmX9, rfl, rfl⟩
theorem fa_J5_15 : FA RJ5 15 16 0 (.array .byte) false := ⟨_, _, _, tyJ4, rfl, rfl, by decide, by decide, uw_J4, gm 1279 (by decide +kernel) rfl, tyJ4_ok, nmJ4, rfl, rfl⟩
theorem fa_J5_22 : FA RJ5 22 16 1 .byte false := ⟨_, _, _, tyJ4, rfl, rfl, by decide, by decide, uw_J4, gm 1280 (by decide +kernel) rfl, tyJ4_ok, nmJ4, rfl, rfl⟩
theorem fa_J0_1048 : FA RJ0 1048 16 2 .boolean false := ⟨_, _, _, tyJ4, rfl, rfl, by decide, by decide, uw_J4, gm 1281 (by decide +kernel) rfl, tyJ4_ok, nmJ4, rfl, rfl⟩
theorem fa_J5_79 : FA RJ5 79 16 3 .int false := ⟨_, _, _, tyJ4, rfl, rfl, by decide, by decide, uw_J4, gm 1282 (by decide +kernel) rfl, tyJ4_ok, nmJ4, rfl, rfl⟩
theorem fa_J0_9 : FA RJ0 9 17 0 (.array .byte) true := ⟨_, _, _, tyJ0, rfl, rfl, by decide, by decide, uw_J0, gm 1518 (by decide +kernel) rfl, tyJ0_ok, nmJ0, rfl, rfl⟩
theorem fa_J0_15 : FA RJ0 15 17 1 .byte true := ⟨_, _, _, tyJ0, rfl, rfl, by decide, by decide, uw_J0, gm 1519 (by decide +kernel) rfl, tyJ0_ok, nmJ0, rfl, rfl⟩
