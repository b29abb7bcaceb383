theorem g_uwR {ws : List Cond} (ps : List Nat) (hp : ws = ps.filterMap (fun i => lw_tbl[i]?)) (h : ws.all goodWord = true) : ∀ w ∈ ws, w ∈ g_UW := by
  intro w hw
  have hg := List.all_eq_true.mp h w hw
  rw [hp] at hw
  obtain ⟨i, -, hi⟩ := List.mem_filterMap.mp hw
  exact List.mem_filter.mpr ⟨List.mem_of_getElem? hi, hg⟩
theorem g_uwA {ws : List Cond} (h : ws.all (fun w => decide (w ∈ lw_tbl) && goodWord w) = true) : ∀ w ∈ ws, w ∈ g_UW := by
  intro w hw
  have := List.all_eq_true.mp h w hw
  simp only [Bool.and_eq_true, decide_eq_true_eq] at this
  exact List.mem_filter.mpr this
theorem uwX0 : ∀ w ∈ u_ws RX0 TX0 2, w ∈ g_UW := g_uwR [210, 212] (by decide +kernel) (by decide +kernel)
theorem uwX1 : ∀ w ∈ u_ws RX1 TX1 6, w ∈ g_UW := g_uwR [939, 941, 943, 945, 947, 949] (by decide +kernel) (by decide +kernel)
theorem uwX2 : ∀ w ∈ u_ws RX2 TX2 13, w ∈ g_UW := g_uwR [237, 239, 241, 243, 245, 247, 249, 251, 253, 255, 257, 259, 261] (by decide +kernel) (by decide +kernel)
theorem uwX3 : ∀ w ∈ u_ws RX3 TX3 16, w ∈ g_UW := g_uwR [168, 170, 172, 174, 176, 178, 180, 182, 184, 186, 188, 190, 192, 194, 196, 198] (by decide +kernel) (by decide +kernel)
theorem uwX4 : ∀ w ∈ u_ws RX4 TX4 5, w ∈ g_UW := g_uwR [278, 280, 282, 284, 286] (by decide +kernel) (by decide +kernel)
theorem uwX5 : ∀ w ∈ u_ws RX5 TX5 18, w ∈ g_UW := g_uwR [307, 309, 311, 313, 315, 317, 319, 321, 323, 325, 327, 329, 331, 333, 335, 337, 339, 341] (by decide +kernel) (by decide +kernel)
theorem uwX6 : ∀ w ∈ u_ws RX6 TX6 55, w ∈ g_UW := g_uwR [1146, 1148, 1150, 1152, 1154, 1156, 1158, 1160, 1162, 1164, 1166, 1168, 1170, 1172, 1174, 1176, 1178, 1180, 1182, 1184, 1186, 1188, 1190, 1192, 1194, 1196, 1198, 1200, 1202, 1204, 1206, 1208, 1210, 1212, 1214, 1216, 1218, 1220, 1222, 1224, 1226, 1228, 1230, 1232, 1234, 1236, 1238, 1240, 1242, 1244, 1246, 1248, 1250, 1252, 1254] (by decide +kernel) (by decide +kernel)
/-- HeavyGifts$Town.people -/
theorem fX3_9 : g_FL RX3 9 3 0 .int false := ⟨RX3, TX3, 16, tyX3, rfl, by decide, g_uwR (ws := [.fieldLink RX3 9 (TX3 0).1 (TX3 0).2.1 (TX3 0).2.2.1]) [124] (by decide +kernel) (by decide +kernel) _ List.mem_cons_self, uwX3, by decide +kernel, rfl, tyX3_ok, nmX3⟩
/-- HeavyGifts$Town.people -/
theorem fX4_36 : g_FL RX4 36 3 0 .int false := ⟨RX3, TX3, 16, tyX3, rfl, by decide, g_uwR (ws := [.fieldLink RX4 36 (TX3 0).1 (TX3 0).2.1 (TX3 0).2.2.1]) [125] (by decide +kernel) (by decide +kernel) _ List.mem_cons_self, uwX3, by decide +kernel, rfl, tyX3_ok, nmX3⟩
/-- HeavyGifts$Town.people -/
theorem fX1_62 : g_FL RX1 62 3 0 .int false := ⟨RX3, TX3, 16, tyX3, rfl, by decide, g_uwR (ws := [.fieldLink RX1 62 (TX3 0).1 (TX3 0).2.1 (TX3 0).2.2.1]) [126] (by decide +kernel) (by decide +kernel) _ List.mem_cons_self, uwX3, by decide +kernel, rfl, tyX3_ok, nmX3⟩
/-- HeavyGifts$Town.people -/
theorem fX5_113 : g_FL RX5 113 3 0 .int false := ⟨RX3, TX3, 16, tyX3, rfl, by decide, g_uwR (ws := [.fieldLink RX5 113 (TX3 0).1 (TX3 0).2.1 (TX3 0).2.2.1]) [127] (by decide +kernel) (by decide +kernel) _ List.mem_cons_self, uwX3, by decide +kernel, rfl, tyX3_ok, nmX3⟩
/-- HeavyGifts$Town.people -/
theorem fX2_112 : g_FL RX2 112 3 0 .int false := ⟨RX3, TX3, 16, tyX3, rfl, by decide, g_uwR (ws := [.fieldLink RX2 112 (TX3 0).1 (TX3 0).2.1 (TX3 0).2.2.1]) [128] (by decide +kernel) (by decide +kernel) _ List.mem_cons_self, uwX3, by decide +kernel, rfl, tyX3_ok, nmX3⟩
/-- HeavyGifts$Town.things -/
theorem fX3_15 : g_FL RX3 15 3 1 .int false := ⟨RX3, TX3, 16, tyX3, rfl, by decide, g_uwR (ws := [.fieldLink RX3 15 (TX3 1).1 (TX3 1).2.1 (TX3 1).2.2.1]) [129] (by decide +kernel) (by decide +kernel) _ List.mem_cons_self, uwX3, by decide +kernel, rfl, tyX3_ok, nmX3⟩
/-- HeavyGifts$Town.things -/
theorem fX5_116 : g_FL RX5 116 3 1 .int false := ⟨RX3, TX3, 16, tyX3, rfl, by decide, g_uwR (ws := [.fieldLink RX5 116 (TX3 1).1 (TX3 1).2.1 (TX3 1).2.2.1]) [130] (by decide +kernel) (by decide +kernel) _ List.mem_cons_self, uwX3, by decide +kernel, rfl, tyX3_ok, nmX3⟩
/-- HeavyGifts$Town.things -/
theorem fX2_142 : g_FL RX2 142 3 1 .int false := ⟨RX3, TX3, 16, tyX3, rfl, by decide, g_uwR (ws := [.fieldLink RX2 142 (TX3 1).1 (TX3 1).2.1 (TX3 1).2.2.1]) [131] (by decide +kernel) (by decide +kernel) _ List.mem_cons_self, uwX3, by decide +kernel, rfl, tyX3_ok, nmX3⟩
/-- HeavyGifts$Town.law -/
theorem fX3_18 : g_FL RX3 18 3 2 .int false := ⟨RX3, TX3, 16, tyX3, rfl, by decide, g_uwR (ws := [.fieldLink RX3 18 (TX3 2).1 (TX3 2).2.1 (TX3 2).2.2.1]) [132] (by decide +kernel) (by decide +kernel) _ List.mem_cons_self, uwX3, by decide +kernel, rfl, tyX3_ok, nmX3⟩
/-- HeavyGifts$Town.law -/
theorem fX5_119 : g_FL RX5 119 3 2 .int false := ⟨RX3, TX3, 16, tyX3, rfl, by decide, g_uwR (ws := [.fieldLink RX5 119 (TX3 2).1 (TX3 2).2.1 (TX3 2).2.2.1]) [133] (by decide +kernel) (by decide +kernel) _ List.mem_cons_self, uwX3, by decide +kernel, rfl, tyX3_ok, nmX3⟩
/-- HeavyGifts$Town.law -/
theorem fX2_170 : g_FL RX2 170 3 2 .int false := ⟨RX3, TX3, 16, tyX3, rfl, by decide, g_uwR (ws := [.fieldLink RX2 170 (TX3 2).1 (TX3 2).2.1 (TX3 2).2.2.1]) [134] (by decide +kernel) (by decide +kernel) _ List.mem_cons_self, uwX3, by decide +kernel, rfl, tyX3_ok, nmX3⟩
/-- HeavyGifts$Town.within -/
theorem fX3_21 : g_FL RX3 21 3 3 .int false := ⟨RX3, TX3, 16, tyX3, rfl, by decide, g_uwR (ws := [.fieldLink RX3 21 (TX3 3).1 (TX3 3).2.1 (TX3 3).2.2.1]) [135] (by decide +kernel) (by decide +kernel) _ List.mem_cons_self, uwX3, by decide +kernel, rfl, tyX3_ok, nmX3⟩
/-- HeavyGifts$Town.within -/
theorem fX5_122 : g_FL RX5 122 3 3 .int false := ⟨RX3, TX3, 16, tyX3, rfl, by decide, g_uwR (ws := [.fieldLink RX5 122 (TX3 3).1 (TX3 3).2.1 (TX3 3).2.2.1]) [136] (by decide +kernel) (by decide +kernel) _ List.mem_cons_self, uwX3, by decide +kernel, rfl, tyX3_ok, nmX3⟩
/-- HeavyGifts$Town.within -/
theorem fX2_172 : g_FL RX2 172 3 3 .int false := ⟨RX3, TX3, 16, tyX3, rfl, by decide, g_uwR (ws := [.fieldLink RX2 172 (TX3 3).1 (TX3 3).2.1 (TX3 3).2.2.1]) [137] (by decide +kernel) (by decide +kernel) _ List.mem_cons_self, uwX3, by decide +kernel, rfl, tyX3_ok, nmX3⟩
/-- HeavyGifts$Town.day -/
theorem fX3_24 : g_FL RX3 24 3 4 .int false := ⟨RX3, TX3, 16, tyX3, rfl, by decide, g_uwR (ws := [.fieldLink RX3 24 (TX3 4).1 (TX3 4).2.1 (TX3 4).2.2.1]) [138] (by decide +kernel) (by decide +kernel) _ List.mem_cons_self, uwX3, by decide +kernel, rfl, tyX3_ok, nmX3⟩
/-- HeavyGifts$Town.day -/
theorem fX5_125 : g_FL RX5 125 3 4 .int false := ⟨RX3, TX3, 16, tyX3, rfl, by decide, g_uwR (ws := [.fieldLink RX5 125 (TX3 4).1 (TX3 4).2.1 (TX3 4).2.2.1]) [139] (by decide +kernel) (by decide +kernel) _ List.mem_cons_self, uwX3, by decide +kernel, rfl, tyX3_ok, nmX3⟩
/-- HeavyGifts$Town.wet -/
theorem fX3_27 : g_FL RX3 27 3 5 .int false := ⟨RX3, TX3, 16, tyX3, rfl, by decide, g_uwR (ws := [.fieldLink RX3 27 (TX3 5).1 (TX3 5).2.1 (TX3 5).2.2.1]) [140] (by decide +kernel) (by decide +kernel) _ List.mem_cons_self, uwX3, by decide +kernel, rfl, tyX3_ok, nmX3⟩
/-- HeavyGifts$Town.wet -/
theorem fX5_168 : g_FL RX5 168 3 5 .int false := ⟨RX3, TX3, 16, tyX3, rfl, by decide, g_uwR (ws := [.fieldLink RX5 168 (TX3 5).1 (TX3 5).2.1 (TX3 5).2.2.1]) [141] (by decide +kernel) (by decide +kernel) _ List.mem_cons_self, uwX3, by decide +kernel, rfl, tyX3_ok, nmX3⟩
/-- HeavyGifts$Town.kind -/
theorem fX3_30 : g_FL RX3 30 3 6 (.array .int) true := ⟨RX3, TX3, 16, tyX3, rfl, by decide, g_uwR (ws := [.fieldLink RX3 30 (TX3 6).1 (TX3 6).2.1 (TX3 6).2.2.1]) [142] (by decide +kernel) (by decide +kernel) _ List.mem_cons_self, uwX3, by decide +kernel, rfl, tyX3_ok, nmX3⟩
/-- HeavyGifts$Town.kind -/
theorem fX5_135 : g_FL RX5 135 3 6 (.array .int) true := ⟨RX3, TX3, 16, tyX3, rfl, by decide, g_uwR (ws := [.fieldLink RX5 135 (TX3 6).1 (TX3 6).2.1 (TX3 6).2.2.1]) [143] (by decide +kernel) (by decide +kernel) _ List.mem_cons_self, uwX3, by decide +kernel, rfl, tyX3_ok, nmX3⟩
/-- HeavyGifts$Town.goal -/
theorem fX3_34 : g_FL RX3 34 3 7 (.array .int) true := ⟨RX3, TX3, 16, tyX3, rfl, by decide, g_uwR (ws := [.fieldLink RX3 34 (TX3 7).1 (TX3 7).2.1 (TX3 7).2.2.1]) [144] (by decide +kernel) (by decide +kernel) _ List.mem_cons_self, uwX3, by decide +kernel, rfl, tyX3_ok, nmX3⟩
/-- HeavyGifts$Town.sand -/
theorem fX3_37 : g_FL RX3 37 3 8 (.array .int) true := ⟨RX3, TX3, 16, tyX3, rfl, by decide, g_uwR (ws := [.fieldLink RX3 37 (TX3 8).1 (TX3 8).2.1 (TX3 8).2.2.1]) [145] (by decide +kernel) (by decide +kernel) _ List.mem_cons_self, uwX3, by decide +kernel, rfl, tyX3_ok, nmX3⟩
/-- HeavyGifts$Town.sand -/
theorem fX5_138 : g_FL RX5 138 3 8 (.array .int) true := ⟨RX3, TX3, 16, tyX3, rfl, by decide, g_uwR (ws := [.fieldLink RX5 138 (TX3 8).1 (TX3 8).2.1 (TX3 8).2.2.1]) [146] (by decide +kernel) (by decide +kernel) _ List.mem_cons_self, uwX3, by decide +kernel, rfl, tyX3_ok, nmX3⟩
/-- HeavyGifts$Town.sand -/
theorem fX1_110 : g_FL RX1 110 3 8 (.array .int) true := ⟨RX3, TX3, 16, tyX3, rfl, by decide, g_uwR (ws := [.fieldLink RX1 110 (TX3 8).1 (TX3 8).2.1 (TX3 8).2.2.1]) [147] (by decide +kernel) (by decide +kernel) _ List.mem_cons_self, uwX3, by decide +kernel, rfl, tyX3_ok, nmX3⟩
/-- HeavyGifts$Town.owed -/
theorem fX3_40 : g_FL RX3 40 3 9 (.array .int) true := ⟨RX3, TX3, 16, tyX3, rfl, by decide, g_uwR (ws := [.fieldLink RX3 40 (TX3 9).1 (TX3 9).2.1 (TX3 9).2.2.1]) [148] (by decide +kernel) (by decide +kernel) _ List.mem_cons_self, uwX3, by decide +kernel, rfl, tyX3_ok, nmX3⟩
/-- HeavyGifts$Town.owed -/
theorem fX4_39 : g_FL RX4 39 3 9 (.array .int) true := ⟨RX3, TX3, 16, tyX3, rfl, by decide, g_uwR (ws := [.fieldLink RX4 39 (TX3 9).1 (TX3 9).2.1 (TX3 9).2.2.1]) [149] (by decide +kernel) (by decide +kernel) _ List.mem_cons_self, uwX3, by decide +kernel, rfl, tyX3_ok, nmX3⟩
/-- HeavyGifts$Town.owed -/
theorem fX5_141 : g_FL RX5 141 3 9 (.array .int) true := ⟨RX3, TX3, 16, tyX3, rfl, by decide, g_uwR (ws := [.fieldLink RX5 141 (TX3 9).1 (TX3 9).2.1 (TX3 9).2.2.1]) [150] (by decide +kernel) (by decide +kernel) _ List.mem_cons_self, uwX3, by decide +kernel, rfl, tyX3_ok, nmX3⟩
/-- HeavyGifts$Town.owed -/
theorem fX1_107 : g_FL RX1 107 3 9 (.array .int) true := ⟨RX3, TX3, 16, tyX3, rfl, by decide, g_uwR (ws := [.fieldLink RX1 107 (TX3 9).1 (TX3 9).2.1 (TX3 9).2.2.1]) [151] (by decide +kernel) (by decide +kernel) _ List.mem_cons_self, uwX3, by decide +kernel, rfl, tyX3_ok, nmX3⟩
/-- HeavyGifts$Town.owed -/
theorem fX0_29 : g_FL RX0 29 3 9 (.array .int) true := ⟨RX3, TX3, 16, tyX3, rfl, by decide, g_uwR (ws := [.fieldLink RX0 29 (TX3 9).1 (TX3 9).2.1 (TX3 9).2.2.1]) [152] (by decide +kernel) (by decide +kernel) _ List.mem_cons_self, uwX3, by decide +kernel, rfl, tyX3_ok, nmX3⟩
/-- HeavyGifts$Town.owed -/
theorem fX2_157 : g_FL RX2 157 3 9 (.array .int) true := ⟨RX3, TX3, 16, tyX3, rfl, by decide, g_uwR (ws := [.fieldLink RX2 157 (TX3 9).1 (TX3 9).2.1 (TX3 9).2.2.1]) [153] (by decide +kernel) (by decide +kernel) _ List.mem_cons_self, uwX3, by decide +kernel, rfl, tyX3_ok, nmX3⟩
/-- HeavyGifts$Town.owedTo -/
theorem fX3_43 : g_FL RX3 43 3 10 (.array .int) true := ⟨RX3, TX3, 16, tyX3, rfl, by decide, g_uwR (ws := [.fieldLink RX3 43 (TX3 10).1 (TX3 10).2.1 (TX3 10).2.2.1]) [154] (by decide +kernel) (by decide +kernel) _ List.mem_cons_self, uwX3, by decide +kernel, rfl, tyX3_ok, nmX3⟩
/-- HeavyGifts$Town.owedTo -/
theorem fX1_83 : g_FL RX1 83 3 10 (.array .int) true := ⟨RX3, TX3, 16, tyX3, rfl, by decide, g_uwR (ws := [.fieldLink RX1 83 (TX3 10).1 (TX3 10).2.1 (TX3 10).2.2.1]) [155] (by decide +kernel) (by decide +kernel) _ List.mem_cons_self, uwX3, by decide +kernel, rfl, tyX3_ok, nmX3⟩
/-- HeavyGifts$Town.owedTo -/
theorem fX5_144 : g_FL RX5 144 3 10 (.array .int) true := ⟨RX3, TX3, 16, tyX3, rfl, by decide, g_uwR (ws := [.fieldLink RX5 144 (TX3 10).1 (TX3 10).2.1 (TX3 10).2.2.1]) [156] (by decide +kernel) (by decide +kernel) _ List.mem_cons_self, uwX3, by decide +kernel, rfl, tyX3_ok, nmX3⟩
/-- HeavyGifts$Town.owedTo -/
theorem fX0_32 : g_FL RX0 32 3 10 (.array .int) true := ⟨RX3, TX3, 16, tyX3, rfl, by decide, g_uwR (ws := [.fieldLink RX0 32 (TX3 10).1 (TX3 10).2.1 (TX3 10).2.2.1]) [157] (by decide +kernel) (by decide +kernel) _ List.mem_cons_self, uwX3, by decide +kernel, rfl, tyX3_ok, nmX3⟩
/-- HeavyGifts$Town.owedTo -/
theorem fX2_163 : g_FL RX2 163 3 10 (.array .int) true := ⟨RX3, TX3, 16, tyX3, rfl, by decide, g_uwR (ws := [.fieldLink RX2 163 (TX3 10).1 (TX3 10).2.1 (TX3 10).2.2.1]) [158] (by decide +kernel) (by decide +kernel) _ List.mem_cons_self, uwX3, by decide +kernel, rfl, tyX3_ok, nmX3⟩
/-- HeavyGifts$Town.has -/
theorem fX3_46 : g_FL RX3 46 3 11 (.array .int) true := ⟨RX3, TX3, 16, tyX3, rfl, by decide, g_uwR (ws := [.fieldLink RX3 46 (TX3 11).1 (TX3 11).2.1 (TX3 11).2.2.1]) [159] (by decide +kernel) (by decide +kernel) _ List.mem_cons_self, uwX3, by decide +kernel, rfl, tyX3_ok, nmX3⟩
/-- HeavyGifts$Town.has -/
theorem fX5_147 : g_FL RX5 147 3 11 (.array .int) true := ⟨RX3, TX3, 16, tyX3, rfl, by decide, g_uwR (ws := [.fieldLink RX5 147 (TX3 11).1 (TX3 11).2.1 (TX3 11).2.2.1]) [160] (by decide +kernel) (by decide +kernel) _ List.mem_cons_self, uwX3, by decide +kernel, rfl, tyX3_ok, nmX3⟩
/-- HeavyGifts$Town.has -/
theorem fX1_113 : g_FL RX1 113 3 11 (.array .int) true := ⟨RX3, TX3, 16, tyX3, rfl, by decide, g_uwR (ws := [.fieldLink RX1 113 (TX3 11).1 (TX3 11).2.1 (TX3 11).2.2.1]) [161] (by decide +kernel) (by decide +kernel) _ List.mem_cons_self, uwX3, by decide +kernel, rfl, tyX3_ok, nmX3⟩
/-- HeavyGifts$Town.weight -/
theorem fX3_49 : g_FL RX3 49 3 12 (.array .int) true := ⟨RX3, TX3, 16, tyX3, rfl, by decide, g_uwR (ws := [.fieldLink RX3 49 (TX3 12).1 (TX3 12).2.1 (TX3 12).2.2.1]) [162] (by decide +kernel) (by decide +kernel) _ List.mem_cons_self, uwX3, by decide +kernel, rfl, tyX3_ok, nmX3⟩
/-- HeavyGifts$Town.weight -/
theorem fX5_159 : g_FL RX5 159 3 12 (.array .int) true := ⟨RX3, TX3, 16, tyX3, rfl, by decide, g_uwR (ws := [.fieldLink RX5 159 (TX3 12).1 (TX3 12).2.1 (TX3 12).2.2.1]) [163] (by decide +kernel) (by decide +kernel) _ List.mem_cons_self, uwX3, by decide +kernel, rfl, tyX3_ok, nmX3⟩
/-- HeavyGifts$Town.worth -/
theorem fX3_52 : g_FL RX3 52 3 13 (.array .int) true := ⟨RX3, TX3, 16, tyX3, rfl, by decide, g_uwR (ws := [.fieldLink RX3 52 (TX3 13).1 (TX3 13).2.1 (TX3 13).2.2.1]) [164] (by decide +kernel) (by decide +kernel) _ List.mem_cons_self, uwX3, by decide +kernel, rfl, tyX3_ok, nmX3⟩
/-- HeavyGifts$Town.worth -/
theorem fX5_162 : g_FL RX5 162 3 13 (.array .int) true := ⟨RX3, TX3, 16, tyX3, rfl, by decide, g_uwR (ws := [.fieldLink RX5 162 (TX3 13).1 (TX3 13).2.1 (TX3 13).2.2.1]) [165] (by decide +kernel) (by decide +kernel) _ List.mem_cons_self, uwX3, by decide +kernel, rfl, tyX3_ok, nmX3⟩
/-- HeavyGifts$Town.lowWeights -/
theorem fX3_55 : g_FL RX3 55 3 14 (.array .int) true := ⟨RX3, TX3, 16, tyX3, rfl, by decide, g_uwR (ws := [.fieldLink RX3 55 (TX3 14).1 (TX3 14).2.1 (TX3 14).2.2.1]) [166] (by decide +kernel) (by decide +kernel) _ List.mem_cons_self, uwX3, by decide +kernel, rfl, tyX3_ok, nmX3⟩
/-- HeavyGifts$Town.highWeights -/
theorem fX3_58 : g_FL RX3 58 3 15 (.array .int) true := ⟨RX3, TX3, 16, tyX3, rfl, by decide, g_uwR (ws := [.fieldLink RX3 58 (TX3 15).1 (TX3 15).2.1 (TX3 15).2.2.1]) [167] (by decide +kernel) (by decide +kernel) _ List.mem_cons_self, uwX3, by decide +kernel, rfl, tyX3_ok, nmX3⟩
/-- HeavyGifts$Book.gifts -/
theorem fX0_7 : g_FL RX0 7 0 0 .int false := ⟨RX0, TX0, 2, tyX0, rfl, by decide, g_uwR (ws := [.fieldLink RX0 7 (TX0 0).1 (TX0 0).2.1 (TX0 0).2.2.1]) [208] (by decide +kernel) (by decide +kernel) _ List.mem_cons_self, uwX0, by decide +kernel, rfl, tyX0_ok, nmX0⟩
/-- HeavyGifts$Book.rows -/
theorem fX0_13 : g_FL RX0 13 0 1 (.array .int) true := ⟨RX0, TX0, 2, tyX0, rfl, by decide, g_uwR (ws := [.fieldLink RX0 13 (TX0 1).1 (TX0 1).2.1 (TX0 1).2.2.1]) [209] (by decide +kernel) (by decide +kernel) _ List.mem_cons_self, uwX0, by decide +kernel, rfl, tyX0_ok, nmX0⟩
/-- HeavyGifts$Tape.town -/
theorem fX2_12 : g_FL RX2 12 2 0 (.object "HeavyGifts$Town") true := ⟨RX2, TX2, 13, tyX2, rfl, by decide, g_uwR (ws := [.fieldLink RX2 12 (TX2 0).1 (TX2 0).2.1 (TX2 0).2.2.1]) [223] (by decide +kernel) (by decide +kernel) _ List.mem_cons_self, uwX2, by decide +kernel, rfl, tyX2_ok, nmX2⟩
/-- HeavyGifts$Tape.town -/
theorem fX5_105 : g_FL RX5 105 2 0 (.object "HeavyGifts$Town") true := ⟨RX2, TX2, 13, tyX2, rfl, by decide, g_uwR (ws := [.fieldLink RX5 105 (TX2 0).1 (TX2 0).2.1 (TX2 0).2.2.1]) [224] (by decide +kernel) (by decide +kernel) _ List.mem_cons_self, uwX2, by decide +kernel, rfl, tyX2_ok, nmX2⟩
/-- HeavyGifts$Tape.text -/
theorem fX2_18 : g_FL RX2 18 2 1 (.array .byte) true := ⟨RX2, TX2, 13, tyX2, rfl, by decide, g_uwR (ws := [.fieldLink RX2 18 (TX2 1).1 (TX2 1).2.1 (TX2 1).2.2.1]) [225] (by decide +kernel) (by decide +kernel) _ List.mem_cons_self, uwX2, by decide +kernel, rfl, tyX2_ok, nmX2⟩
/-- HeavyGifts$Tape.fed -/
theorem fX2_22 : g_FL RX2 22 2 2 .int false := ⟨RX2, TX2, 13, tyX2, rfl, by decide, g_uwR (ws := [.fieldLink RX2 22 (TX2 2).1 (TX2 2).2.1 (TX2 2).2.2.1]) [226] (by decide +kernel) (by decide +kernel) _ List.mem_cons_self, uwX2, by decide +kernel, rfl, tyX2_ok, nmX2⟩
/-- HeavyGifts$Tape.length -/
theorem fX2_26 : g_FL RX2 26 2 3 .int false := ⟨RX2, TX2, 13, tyX2, rfl, by decide, g_uwR (ws := [.fieldLink RX2 26 (TX2 3).1 (TX2 3).2.1 (TX2 3).2.2.1]) [227] (by decide +kernel) (by decide +kernel) _ List.mem_cons_self, uwX2, by decide +kernel, rfl, tyX2_ok, nmX2⟩
/-- HeavyGifts$Tape.lawTold -/
theorem fX2_29 : g_FL RX2 29 2 4 .boolean false := ⟨RX2, TX2, 13, tyX2, rfl, by decide, g_uwR (ws := [.fieldLink RX2 29 (TX2 4).1 (TX2 4).2.1 (TX2 4).2.2.1]) [228] (by decide +kernel) (by decide +kernel) _ List.mem_cons_self, uwX2, by decide +kernel, rfl, tyX2_ok, nmX2⟩
/-- HeavyGifts$Tape.withinTold -/
theorem fX2_33 : g_FL RX2 33 2 5 .boolean false := ⟨RX2, TX2, 13, tyX2, rfl, by decide, g_uwR (ws := [.fieldLink RX2 33 (TX2 5).1 (TX2 5).2.1 (TX2 5).2.2.1]) [229] (by decide +kernel) (by decide +kernel) _ List.mem_cons_self, uwX2, by decide +kernel, rfl, tyX2_ok, nmX2⟩
/-- HeavyGifts$Tape.fault -/
theorem fX2_36 : g_FL RX2 36 2 6 .int false := ⟨RX2, TX2, 13, tyX2, rfl, by decide, g_uwR (ws := [.fieldLink RX2 36 (TX2 6).1 (TX2 6).2.1 (TX2 6).2.2.1]) [230] (by decide +kernel) (by decide +kernel) _ List.mem_cons_self, uwX2, by decide +kernel, rfl, tyX2_ok, nmX2⟩
/-- HeavyGifts$Tape.token -/
theorem fX2_39 : g_FL RX2 39 2 7 .int false := ⟨RX2, TX2, 13, tyX2, rfl, by decide, g_uwR (ws := [.fieldLink RX2 39 (TX2 7).1 (TX2 7).2.1 (TX2 7).2.2.1]) [231] (by decide +kernel) (by decide +kernel) _ List.mem_cons_self, uwX2, by decide +kernel, rfl, tyX2_ok, nmX2⟩
/-- HeavyGifts$Tape.start -/
theorem fX2_42 : g_FL RX2 42 2 8 .int false := ⟨RX2, TX2, 13, tyX2, rfl, by decide, g_uwR (ws := [.fieldLink RX2 42 (TX2 8).1 (TX2 8).2.1 (TX2 8).2.2.1]) [232] (by decide +kernel) (by decide +kernel) _ List.mem_cons_self, uwX2, by decide +kernel, rfl, tyX2_ok, nmX2⟩
/-- HeavyGifts$Tape.end -/
theorem fX2_45 : g_FL RX2 45 2 9 .int false := ⟨RX2, TX2, 13, tyX2, rfl, by decide, g_uwR (ws := [.fieldLink RX2 45 (TX2 9).1 (TX2 9).2.1 (TX2 9).2.2.1]) [233] (by decide +kernel) (by decide +kernel) _ List.mem_cons_self, uwX2, by decide +kernel, rfl, tyX2_ok, nmX2⟩
/-- HeavyGifts$Tape.digits -/
theorem fX2_48 : g_FL RX2 48 2 10 .int false := ⟨RX2, TX2, 13, tyX2, rfl, by decide, g_uwR (ws := [.fieldLink RX2 48 (TX2 10).1 (TX2 10).2.1 (TX2 10).2.2.1]) [234] (by decide +kernel) (by decide +kernel) _ List.mem_cons_self, uwX2, by decide +kernel, rfl, tyX2_ok, nmX2⟩
/-- HeavyGifts$Tape.value -/
theorem fX2_51 : g_FL RX2 51 2 11 .int false := ⟨RX2, TX2, 13, tyX2, rfl, by decide, g_uwR (ws := [.fieldLink RX2 51 (TX2 11).1 (TX2 11).2.1 (TX2 11).2.2.1]) [235] (by decide +kernel) (by decide +kernel) _ List.mem_cons_self, uwX2, by decide +kernel, rfl, tyX2_ok, nmX2⟩
/-- HeavyGifts$Tape.taken -/
theorem fX2_54 : g_FL RX2 54 2 12 .int false := ⟨RX2, TX2, 13, tyX2, rfl, by decide, g_uwR (ws := [.fieldLink RX2 54 (TX2 12).1 (TX2 12).2.1 (TX2 12).2.2.1]) [236] (by decide +kernel) (by decide +kernel) _ List.mem_cons_self, uwX2, by decide +kernel, rfl, tyX2_ok, nmX2⟩
/-- HeavyGifts$Week.town -/
theorem fX4_12 : g_FL RX4 12 4 0 (.object "HeavyGifts$Town") true := ⟨RX4, TX4, 5, tyX4, rfl, by decide, g_uwR (ws := [.fieldLink RX4 12 (TX4 0).1 (TX4 0).2.1 (TX4 0).2.2.1]) [273] (by decide +kernel) (by decide +kernel) _ List.mem_cons_self, uwX4, by decide +kernel, rfl, tyX4_ok, nmX4⟩
/-- HeavyGifts$Week.row -/
theorem fX4_18 : g_FL RX4 18 4 1 (.array .int) true := ⟨RX4, TX4, 5, tyX4, rfl, by decide, g_uwR (ws := [.fieldLink RX4 18 (TX4 1).1 (TX4 1).2.1 (TX4 1).2.2.1]) [274] (by decide +kernel) (by decide +kernel) _ List.mem_cons_self, uwX4, by decide +kernel, rfl, tyX4_ok, nmX4⟩
/-- HeavyGifts$Week.owing -/
theorem fX4_22 : g_FL RX4 22 4 2 .int false := ⟨RX4, TX4, 5, tyX4, rfl, by decide, g_uwR (ws := [.fieldLink RX4 22 (TX4 2).1 (TX4 2).2.1 (TX4 2).2.2.1]) [275] (by decide +kernel) (by decide +kernel) _ List.mem_cons_self, uwX4, by decide +kernel, rfl, tyX4_ok, nmX4⟩
/-- HeavyGifts$Week.tries -/
theorem fX4_26 : g_FL RX4 26 4 3 .int false := ⟨RX4, TX4, 5, tyX4, rfl, by decide, g_uwR (ws := [.fieldLink RX4 26 (TX4 3).1 (TX4 3).2.1 (TX4 3).2.2.1]) [276] (by decide +kernel) (by decide +kernel) _ List.mem_cons_self, uwX4, by decide +kernel, rfl, tyX4_ok, nmX4⟩
/-- HeavyGifts$Week.most -/
theorem fX4_29 : g_FL RX4 29 4 4 .int false := ⟨RX4, TX4, 5, tyX4, rfl, by decide, g_uwR (ws := [.fieldLink RX4 29 (TX4 4).1 (TX4 4).2.1 (TX4 4).2.2.1]) [277] (by decide +kernel) (by decide +kernel) _ List.mem_cons_self, uwX4, by decide +kernel, rfl, tyX4_ok, nmX4⟩
/-- HeavyGifts.town -/
theorem fX5_10 : g_FL RX5 10 5 0 (.object "HeavyGifts$Town") true := ⟨RX5, TX5, 18, tyX5, rfl, by decide, g_uwR (ws := [.fieldLink RX5 10 (TX5 0).1 (TX5 0).2.1 (TX5 0).2.2.1]) [289] (by decide +kernel) (by decide +kernel) _ List.mem_cons_self, uwX5, by decide +kernel, rfl, tyX5_ok, nmX5⟩
/-- HeavyGifts.spare -/
theorem fX5_16 : g_FL RX5 16 5 1 (.object "HeavyGifts$Town") true := ⟨RX5, TX5, 18, tyX5, rfl, by decide, g_uwR (ws := [.fieldLink RX5 16 (TX5 1).1 (TX5 1).2.1 (TX5 1).2.2.1]) [290] (by decide +kernel) (by decide +kernel) _ List.mem_cons_self, uwX5, by decide +kernel, rfl, tyX5_ok, nmX5⟩
/-- HeavyGifts.book -/
theorem fX5_22 : g_FL RX5 22 5 2 (.object "HeavyGifts$Book") true := ⟨RX5, TX5, 18, tyX5, rfl, by decide, g_uwR (ws := [.fieldLink RX5 22 (TX5 2).1 (TX5 2).2.1 (TX5 2).2.2.1]) [291] (by decide +kernel) (by decide +kernel) _ List.mem_cons_self, uwX5, by decide +kernel, rfl, tyX5_ok, nmX5⟩
/-- HeavyGifts.refusedTexts -/
theorem fX5_26 : g_FL RX5 26 5 3 .int false := ⟨RX5, TX5, 18, tyX5, rfl, by decide, g_uwR (ws := [.fieldLink RX5 26 (TX5 3).1 (TX5 3).2.1 (TX5 3).2.2.1]) [292] (by decide +kernel) (by decide +kernel) _ List.mem_cons_self, uwX5, by decide +kernel, rfl, tyX5_ok, nmX5⟩
/-- HeavyGifts.refusedGifts -/
theorem fX5_30 : g_FL RX5 30 5 4 .int false := ⟨RX5, TX5, 18, tyX5, rfl, by decide, g_uwR (ws := [.fieldLink RX5 30 (TX5 4).1 (TX5 4).2.1 (TX5 4).2.2.1]) [293] (by decide +kernel) (by decide +kernel) _ List.mem_cons_self, uwX5, by decide +kernel, rfl, tyX5_ok, nmX5⟩
/-- HeavyGifts.imageKept -/
theorem fX5_33 : g_FL RX5 33 5 5 .boolean false := ⟨RX5, TX5, 18, tyX5, rfl, by decide, g_uwR (ws := [.fieldLink RX5 33 (TX5 5).1 (TX5 5).2.1 (TX5 5).2.2.1]) [294] (by decide +kernel) (by decide +kernel) _ List.mem_cons_self, uwX5, by decide +kernel, rfl, tyX5_ok, nmX5⟩
/-- HeavyGifts.imageTown -/
theorem fX5_37 : g_FL RX5 37 5 6 (.object "HeavyGifts$Town") true := ⟨RX5, TX5, 18, tyX5, rfl, by decide, g_uwR (ws := [.fieldLink RX5 37 (TX5 6).1 (TX5 6).2.1 (TX5 6).2.2.1]) [295] (by decide +kernel) (by decide +kernel) _ List.mem_cons_self, uwX5, by decide +kernel, rfl, tyX5_ok, nmX5⟩
/-- HeavyGifts.imageBook -/
theorem fX5_40 : g_FL RX5 40 5 7 (.object "HeavyGifts$Book") true := ⟨RX5, TX5, 18, tyX5, rfl, by decide, g_uwR (ws := [.fieldLink RX5 40 (TX5 7).1 (TX5 7).2.1 (TX5 7).2.2.1]) [296] (by decide +kernel) (by decide +kernel) _ List.mem_cons_self, uwX5, by decide +kernel, rfl, tyX5_ok, nmX5⟩
/-- HeavyGifts.imageTexts -/
theorem fX5_43 : g_FL RX5 43 5 8 .int false := ⟨RX5, TX5, 18, tyX5, rfl, by decide, g_uwR (ws := [.fieldLink RX5 43 (TX5 8).1 (TX5 8).2.1 (TX5 8).2.2.1]) [297] (by decide +kernel) (by decide +kernel) _ List.mem_cons_self, uwX5, by decide +kernel, rfl, tyX5_ok, nmX5⟩
/-- HeavyGifts.imageGifts -/
theorem fX5_46 : g_FL RX5 46 5 9 .int false := ⟨RX5, TX5, 18, tyX5, rfl, by decide, g_uwR (ws := [.fieldLink RX5 46 (TX5 9).1 (TX5 9).2.1 (TX5 9).2.2.1]) [298] (by decide +kernel) (by decide +kernel) _ List.mem_cons_self, uwX5, by decide +kernel, rfl, tyX5_ok, nmX5⟩
/-- HeavyGifts.tape -/
theorem fX5_52 : g_FL RX5 52 5 10 (.object "HeavyGifts$Tape") true := ⟨RX5, TX5, 18, tyX5, rfl, by decide, g_uwR (ws := [.fieldLink RX5 52 (TX5 10).1 (TX5 10).2.1 (TX5 10).2.2.1]) [299] (by decide +kernel) (by decide +kernel) _ List.mem_cons_self, uwX5, by decide +kernel, rfl, tyX5_ok, nmX5⟩
/-- HeavyGifts.faultPlace -/
theorem fX5_56 : g_FL RX5 56 5 11 .int false := ⟨RX5, TX5, 18, tyX5, rfl, by decide, g_uwR (ws := [.fieldLink RX5 56 (TX5 11).1 (TX5 11).2.1 (TX5 11).2.2.1]) [300] (by decide +kernel) (by decide +kernel) _ List.mem_cons_self, uwX5, by decide +kernel, rfl, tyX5_ok, nmX5⟩
/-- HeavyGifts.weekSearch -/
theorem fX5_62 : g_FL RX5 62 5 12 (.object "HeavyGifts$Week") true := ⟨RX5, TX5, 18, tyX5, rfl, by decide, g_uwR (ws := [.fieldLink RX5 62 (TX5 12).1 (TX5 12).2.1 (TX5 12).2.2.1]) [301] (by decide +kernel) (by decide +kernel) _ List.mem_cons_self, uwX5, by decide +kernel, rfl, tyX5_ok, nmX5⟩
/-- HeavyGifts.keptOrder -/
theorem fX5_66 : g_FL RX5 66 5 13 (.array .int) true := ⟨RX5, TX5, 18, tyX5, rfl, by decide, g_uwR (ws := [.fieldLink RX5 66 (TX5 13).1 (TX5 13).2.1 (TX5 13).2.2.1]) [302] (by decide +kernel) (by decide +kernel) _ List.mem_cons_self, uwX5, by decide +kernel, rfl, tyX5_ok, nmX5⟩
/-- HeavyGifts.keptOrderLength -/
theorem fX5_70 : g_FL RX5 70 5 14 .int false := ⟨RX5, TX5, 18, tyX5, rfl, by decide, g_uwR (ws := [.fieldLink RX5 70 (TX5 14).1 (TX5 14).2.1 (TX5 14).2.2.1]) [303] (by decide +kernel) (by decide +kernel) _ List.mem_cons_self, uwX5, by decide +kernel, rfl, tyX5_ok, nmX5⟩
/-- HeavyGifts.getting -/
theorem fX5_73 : g_FL RX5 73 5 15 (.object "HeavyGifts$Getting") false := ⟨RX5, TX5, 18, tyX5, rfl, by decide, g_uwR (ws := [.fieldLink RX5 73 (TX5 15).1 (TX5 15).2.1 (TX5 15).2.2.1]) [304] (by decide +kernel) (by decide +kernel) _ List.mem_cons_self, uwX5, by decide +kernel, rfl, tyX5_ok, nmX5⟩
/-- HeavyGifts.made -/
theorem fX5_77 : g_FL RX5 77 5 16 (.array .int) true := ⟨RX5, TX5, 18, tyX5, rfl, by decide, g_uwR (ws := [.fieldLink RX5 77 (TX5 16).1 (TX5 16).2.1 (TX5 16).2.2.1]) [305] (by decide +kernel) (by decide +kernel) _ List.mem_cons_self, uwX5, by decide +kernel, rfl, tyX5_ok, nmX5⟩
/-- HeavyGifts.byWeight -/
theorem fX5_80 : g_FL RX5 80 5 17 (.array .int) true := ⟨RX5, TX5, 18, tyX5, rfl, by decide, g_uwR (ws := [.fieldLink RX5 80 (TX5 17).1 (TX5 17).2.1 (TX5 17).2.2.1]) [306] (by decide +kernel) (by decide +kernel) _ List.mem_cons_self, uwX5, by decide +kernel, rfl, tyX5_ok, nmX5⟩
/-- HeavyGifts$Getting.states -/
theorem fX1_11 : g_FL RX1 11 1 0 (.array .long) true := ⟨RX1, TX1, 6, tyX1, rfl, by decide, g_uwR (ws := [.fieldLink RX1 11 (TX1 0).1 (TX1 0).2.1 (TX1 0).2.2.1]) [933] (by decide +kernel) (by decide +kernel) _ List.mem_cons_self, uwX1, by decide +kernel, rfl, tyX1_ok, nmX1⟩
/-- HeavyGifts$Getting.slots -/
theorem fX1_15 : g_FL RX1 15 1 1 (.array .short) true := ⟨RX1, TX1, 6, tyX1, rfl, by decide, g_uwR (ws := [.fieldLink RX1 15 (TX1 1).1 (TX1 1).2.1 (TX1 1).2.2.1]) [934] (by decide +kernel) (by decide +kernel) _ List.mem_cons_self, uwX1, by decide +kernel, rfl, tyX1_ok, nmX1⟩
/-- HeavyGifts$Getting.packed -/
theorem fX1_19 : g_FL RX1 19 1 2 (.array .long) true := ⟨RX1, TX1, 6, tyX1, rfl, by decide, g_uwR (ws := [.fieldLink RX1 19 (TX1 2).1 (TX1 2).2.1 (TX1 2).2.2.1]) [935] (by decide +kernel) (by decide +kernel) _ List.mem_cons_self, uwX1, by decide +kernel, rfl, tyX1_ok, nmX1⟩
/-- HeavyGifts$Getting.town -/
theorem fX1_25 : g_FL RX1 25 1 3 (.object "HeavyGifts$Town") true := ⟨RX1, TX1, 6, tyX1, rfl, by decide, g_uwR (ws := [.fieldLink RX1 25 (TX1 3).1 (TX1 3).2.1 (TX1 3).2.2.1]) [936] (by decide +kernel) (by decide +kernel) _ List.mem_cons_self, uwX1, by decide +kernel, rfl, tyX1_ok, nmX1⟩
/-- HeavyGifts$Getting.found -/
theorem fX1_29 : g_FL RX1 29 1 4 .int false := ⟨RX1, TX1, 6, tyX1, rfl, by decide, g_uwR (ws := [.fieldLink RX1 29 (TX1 4).1 (TX1 4).2.1 (TX1 4).2.2.1]) [937] (by decide +kernel) (by decide +kernel) _ List.mem_cons_self, uwX1, by decide +kernel, rfl, tyX1_ok, nmX1⟩
/-- HeavyGifts$Getting.spent -/
theorem fX1_33 : g_FL RX1 33 1 5 .boolean false := ⟨RX1, TX1, 6, tyX1, rfl, by decide, g_uwR (ws := [.fieldLink RX1 33 (TX1 5).1 (TX1 5).2.1 (TX1 5).2.2.1]) [938] (by decide +kernel) (by decide +kernel) _ List.mem_cons_self, uwX1, by decide +kernel, rfl, tyX1_ok, nmX1⟩
/-- HeavyGiftsModel.kinds -/
theorem fX6_19 : g_FL RX6 19 6 0 (.array (.object "java/lang/String")) true := ⟨RX6, TX6, 55, tyX6, rfl, by decide, g_uwR (ws := [.fieldLink RX6 19 (TX6 0).1 (TX6 0).2.1 (TX6 0).2.2.1]) [1091] (by decide +kernel) (by decide +kernel) _ List.mem_cons_self, uwX6, by decide +kernel, rfl, tyX6_ok, nmX6⟩
/-- HeavyGiftsModel.code -/
theorem fX6_128 : g_FL RX6 128 6 1 .int false := ⟨RX6, TX6, 55, tyX6, rfl, by decide, g_uwR (ws := [.fieldLink RX6 128 (TX6 1).1 (TX6 1).2.1 (TX6 1).2.2.1]) [1092] (by decide +kernel) (by decide +kernel) _ List.mem_cons_self, uwX6, by decide +kernel, rfl, tyX6_ok, nmX6⟩
/-- HeavyGiftsModel.told -/
theorem fX6_25 : g_FL RX6 25 6 2 (.array .int) true := ⟨RX6, TX6, 55, tyX6, rfl, by decide, g_uwR (ws := [.fieldLink RX6 25 (TX6 2).1 (TX6 2).2.1 (TX6 2).2.2.1]) [1093] (by decide +kernel) (by decide +kernel) _ List.mem_cons_self, uwX6, by decide +kernel, rfl, tyX6_ok, nmX6⟩
/-- HeavyGiftsModel.kind -/
theorem fX6_29 : g_FL RX6 29 6 3 (.array .int) true := ⟨RX6, TX6, 55, tyX6, rfl, by decide, g_uwR (ws := [.fieldLink RX6 29 (TX6 3).1 (TX6 3).2.1 (TX6 3).2.2.1]) [1094] (by decide +kernel) (by decide +kernel) _ List.mem_cons_self, uwX6, by decide +kernel, rfl, tyX6_ok, nmX6⟩
/-- HeavyGiftsModel.kindBy -/
theorem fX6_32 : g_FL RX6 32 6 4 (.array .int) true := ⟨RX6, TX6, 55, tyX6, rfl, by decide, g_uwR (ws := [.fieldLink RX6 32 (TX6 4).1 (TX6 4).2.1 (TX6 4).2.2.1]) [1095] (by decide +kernel) (by decide +kernel) _ List.mem_cons_self, uwX6, by decide +kernel, rfl, tyX6_ok, nmX6⟩
/-- HeavyGiftsModel.worth -/
theorem fX6_35 : g_FL RX6 35 6 5 (.array .int) true := ⟨RX6, TX6, 55, tyX6, rfl, by decide, g_uwR (ws := [.fieldLink RX6 35 (TX6 5).1 (TX6 5).2.1 (TX6 5).2.2.1]) [1096] (by decide +kernel) (by decide +kernel) _ List.mem_cons_self, uwX6, by decide +kernel, rfl, tyX6_ok, nmX6⟩
/-- HeavyGiftsModel.status -/
theorem fX6_38 : g_FL RX6 38 6 6 (.array .int) true := ⟨RX6, TX6, 55, tyX6, rfl, by decide, g_uwR (ws := [.fieldLink RX6 38 (TX6 6).1 (TX6 6).2.1 (TX6 6).2.2.1]) [1097] (by decide +kernel) (by decide +kernel) _ List.mem_cons_self, uwX6, by decide +kernel, rfl, tyX6_ok, nmX6⟩
/-- HeavyGiftsModel.now -/
theorem fX6_41 : g_FL RX6 41 6 7 (.array .int) true := ⟨RX6, TX6, 55, tyX6, rfl, by decide, g_uwR (ws := [.fieldLink RX6 41 (TX6 7).1 (TX6 7).2.1 (TX6 7).2.2.1]) [1098] (by decide +kernel) (by decide +kernel) _ List.mem_cons_self, uwX6, by decide +kernel, rfl, tyX6_ok, nmX6⟩
/-- HeavyGiftsModel.read -/
theorem fX6_44 : g_FL RX6 44 6 8 (.array .int) true := ⟨RX6, TX6, 55, tyX6, rfl, by decide, g_uwR (ws := [.fieldLink RX6 44 (TX6 8).1 (TX6 8).2.1 (TX6 8).2.2.1]) [1099] (by decide +kernel) (by decide +kernel) _ List.mem_cons_self, uwX6, by decide +kernel, rfl, tyX6_ok, nmX6⟩
/-- HeavyGiftsModel.weight -/
theorem fX6_47 : g_FL RX6 47 6 9 (.array .int) true := ⟨RX6, TX6, 55, tyX6, rfl, by decide, g_uwR (ws := [.fieldLink RX6 47 (TX6 9).1 (TX6 9).2.1 (TX6 9).2.2.1]) [1100] (by decide +kernel) (by decide +kernel) _ List.mem_cons_self, uwX6, by decide +kernel, rfl, tyX6_ok, nmX6⟩
/-- HeavyGiftsModel.readWeight -/
theorem fX6_50 : g_FL RX6 50 6 10 (.array .int) true := ⟨RX6, TX6, 55, tyX6, rfl, by decide, g_uwR (ws := [.fieldLink RX6 50 (TX6 10).1 (TX6 10).2.1 (TX6 10).2.2.1]) [1101] (by decide +kernel) (by decide +kernel) _ List.mem_cons_self, uwX6, by decide +kernel, rfl, tyX6_ok, nmX6⟩
/-- HeavyGiftsModel.isWet -/
theorem fX6_53 : g_FL RX6 53 6 11 (.array .boolean) true := ⟨RX6, TX6, 55, tyX6, rfl, by decide, g_uwR (ws := [.fieldLink RX6 53 (TX6 11).1 (TX6 11).2.1 (TX6 11).2.2.1]) [1102] (by decide +kernel) (by decide +kernel) _ List.mem_cons_self, uwX6, by decide +kernel, rfl, tyX6_ok, nmX6⟩
/-- HeavyGiftsModel.day -/
theorem fX6_253 : g_FL RX6 253 6 12 .int false := ⟨RX6, TX6, 55, tyX6, rfl, by decide, g_uwR (ws := [.fieldLink RX6 253 (TX6 12).1 (TX6 12).2.1 (TX6 12).2.2.1]) [1103] (by decide +kernel) (by decide +kernel) _ List.mem_cons_self, uwX6, by decide +kernel, rfl, tyX6_ok, nmX6⟩
/-- HeavyGiftsModel.tape -/
theorem fX6_57 : g_FL RX6 57 6 13 (.array .int) true := ⟨RX6, TX6, 55, tyX6, rfl, by decide, g_uwR (ws := [.fieldLink RX6 57 (TX6 13).1 (TX6 13).2.1 (TX6 13).2.2.1]) [1104] (by decide +kernel) (by decide +kernel) _ List.mem_cons_self, uwX6, by decide +kernel, rfl, tyX6_ok, nmX6⟩
/-- HeavyGiftsModel.taped -/
theorem fX6_135 : g_FL RX6 135 6 14 .int false := ⟨RX6, TX6, 55, tyX6, rfl, by decide, g_uwR (ws := [.fieldLink RX6 135 (TX6 14).1 (TX6 14).2.1 (TX6 14).2.2.1]) [1105] (by decide +kernel) (by decide +kernel) _ List.mem_cons_self, uwX6, by decide +kernel, rfl, tyX6_ok, nmX6⟩
/-- HeavyGiftsModel.at -/
theorem fX6_141 : g_FL RX6 141 6 15 .int false := ⟨RX6, TX6, 55, tyX6, rfl, by decide, g_uwR (ws := [.fieldLink RX6 141 (TX6 15).1 (TX6 15).2.1 (TX6 15).2.2.1]) [1106] (by decide +kernel) (by decide +kernel) _ List.mem_cons_self, uwX6, by decide +kernel, rfl, tyX6_ok, nmX6⟩
/-- HeavyGiftsModel.size -/
theorem fX6_138 : g_FL RX6 138 6 16 .int false := ⟨RX6, TX6, 55, tyX6, rfl, by decide, g_uwR (ws := [.fieldLink RX6 138 (TX6 16).1 (TX6 16).2.1 (TX6 16).2.2.1]) [1107] (by decide +kernel) (by decide +kernel) _ List.mem_cons_self, uwX6, by decide +kernel, rfl, tyX6_ok, nmX6⟩
/-- HeavyGiftsModel.token -/
theorem fX6_151 : g_FL RX6 151 6 17 .int false := ⟨RX6, TX6, 55, tyX6, rfl, by decide, g_uwR (ws := [.fieldLink RX6 151 (TX6 17).1 (TX6 17).2.1 (TX6 17).2.2.1]) [1108] (by decide +kernel) (by decide +kernel) _ List.mem_cons_self, uwX6, by decide +kernel, rfl, tyX6_ok, nmX6⟩
/-- HeavyGiftsModel.number -/
theorem fX6_161 : g_FL RX6 161 6 18 .int false := ⟨RX6, TX6, 55, tyX6, rfl, by decide, g_uwR (ws := [.fieldLink RX6 161 (TX6 18).1 (TX6 18).2.1 (TX6 18).2.2.1]) [1109] (by decide +kernel) (by decide +kernel) _ List.mem_cons_self, uwX6, by decide +kernel, rfl, tyX6_ok, nmX6⟩
/-- HeavyGiftsModel.begins -/
theorem fX6_148 : g_FL RX6 148 6 19 .int false := ⟨RX6, TX6, 55, tyX6, rfl, by decide, g_uwR (ws := [.fieldLink RX6 148 (TX6 19).1 (TX6 19).2.1 (TX6 19).2.2.1]) [1110] (by decide +kernel) (by decide +kernel) _ List.mem_cons_self, uwX6, by decide +kernel, rfl, tyX6_ok, nmX6⟩
/-- HeavyGiftsModel.ends -/
theorem fX6_171 : g_FL RX6 171 6 20 .int false := ⟨RX6, TX6, 55, tyX6, rfl, by decide, g_uwR (ws := [.fieldLink RX6 171 (TX6 20).1 (TX6 20).2.1 (TX6 20).2.2.1]) [1111] (by decide +kernel) (by decide +kernel) _ List.mem_cons_self, uwX6, by decide +kernel, rfl, tyX6_ok, nmX6⟩
/-- HeavyGiftsModel.bad -/
theorem fX6_174 : g_FL RX6 174 6 21 .int false := ⟨RX6, TX6, 55, tyX6, rfl, by decide, g_uwR (ws := [.fieldLink RX6 174 (TX6 21).1 (TX6 21).2.1 (TX6 21).2.2.1]) [1112] (by decide +kernel) (by decide +kernel) _ List.mem_cons_self, uwX6, by decide +kernel, rfl, tyX6_ok, nmX6⟩
/-- HeavyGiftsModel.badPlace -/
theorem fX6_177 : g_FL RX6 177 6 22 .int false := ⟨RX6, TX6, 55, tyX6, rfl, by decide, g_uwR (ws := [.fieldLink RX6 177 (TX6 22).1 (TX6 22).2.1 (TX6 22).2.2.1]) [1113] (by decide +kernel) (by decide +kernel) _ List.mem_cons_self, uwX6, by decide +kernel, rfl, tyX6_ok, nmX6⟩
/-- HeavyGiftsModel.faultPlace -/
theorem fX6_60 : g_FL RX6 60 6 23 .int false := ⟨RX6, TX6, 55, tyX6, rfl, by decide, g_uwR (ws := [.fieldLink RX6 60 (TX6 23).1 (TX6 23).2.1 (TX6 23).2.2.1]) [1114] (by decide +kernel) (by decide +kernel) _ List.mem_cons_self, uwX6, by decide +kernel, rfl, tyX6_ok, nmX6⟩
/-- HeavyGiftsModel.gifts -/
theorem fX6_256 : g_FL RX6 256 6 24 .int false := ⟨RX6, TX6, 55, tyX6, rfl, by decide, g_uwR (ws := [.fieldLink RX6 256 (TX6 24).1 (TX6 24).2.1 (TX6 24).2.2.1]) [1115] (by decide +kernel) (by decide +kernel) _ List.mem_cons_self, uwX6, by decide +kernel, rfl, tyX6_ok, nmX6⟩
/-- HeavyGiftsModel.book -/
theorem fX6_64 : g_FL RX6 64 6 25 (.array .int) true := ⟨RX6, TX6, 55, tyX6, rfl, by decide, g_uwR (ws := [.fieldLink RX6 64 (TX6 25).1 (TX6 25).2.1 (TX6 25).2.2.1]) [1116] (by decide +kernel) (by decide +kernel) _ List.mem_cons_self, uwX6, by decide +kernel, rfl, tyX6_ok, nmX6⟩
/-- HeavyGiftsModel.weekRows -/
theorem fX6_67 : g_FL RX6 67 6 26 (.array .int) true := ⟨RX6, TX6, 55, tyX6, rfl, by decide, g_uwR (ws := [.fieldLink RX6 67 (TX6 26).1 (TX6 26).2.1 (TX6 26).2.2.1]) [1117] (by decide +kernel) (by decide +kernel) _ List.mem_cons_self, uwX6, by decide +kernel, rfl, tyX6_ok, nmX6⟩
/-- HeavyGiftsModel.weekRow -/
theorem fX6_70 : g_FL RX6 70 6 27 (.array .int) true := ⟨RX6, TX6, 55, tyX6, rfl, by decide, g_uwR (ws := [.fieldLink RX6 70 (TX6 27).1 (TX6 27).2.1 (TX6 27).2.2.1]) [1118] (by decide +kernel) (by decide +kernel) _ List.mem_cons_self, uwX6, by decide +kernel, rfl, tyX6_ok, nmX6⟩
/-- HeavyGiftsModel.weekOwes -/
theorem fX6_73 : g_FL RX6 73 6 28 (.array .int) true := ⟨RX6, TX6, 55, tyX6, rfl, by decide, g_uwR (ws := [.fieldLink RX6 73 (TX6 28).1 (TX6 28).2.1 (TX6 28).2.2.1]) [1119] (by decide +kernel) (by decide +kernel) _ List.mem_cons_self, uwX6, by decide +kernel, rfl, tyX6_ok, nmX6⟩
/-- HeavyGiftsModel.weekTo -/
theorem fX6_76 : g_FL RX6 76 6 29 (.array .int) true := ⟨RX6, TX6, 55, tyX6, rfl, by decide, g_uwR (ws := [.fieldLink RX6 76 (TX6 29).1 (TX6 29).2.1 (TX6 29).2.2.1]) [1120] (by decide +kernel) (by decide +kernel) _ List.mem_cons_self, uwX6, by decide +kernel, rfl, tyX6_ok, nmX6⟩
/-- HeavyGiftsModel.orderTry -/
theorem fX6_79 : g_FL RX6 79 6 30 (.array .int) true := ⟨RX6, TX6, 55, tyX6, rfl, by decide, g_uwR (ws := [.fieldLink RX6 79 (TX6 30).1 (TX6 30).2.1 (TX6 30).2.2.1]) [1121] (by decide +kernel) (by decide +kernel) _ List.mem_cons_self, uwX6, by decide +kernel, rfl, tyX6_ok, nmX6⟩
/-- HeavyGiftsModel.order -/
theorem fX6_82 : g_FL RX6 82 6 31 (.array .int) true := ⟨RX6, TX6, 55, tyX6, rfl, by decide, g_uwR (ws := [.fieldLink RX6 82 (TX6 31).1 (TX6 31).2.1 (TX6 31).2.2.1]) [1122] (by decide +kernel) (by decide +kernel) _ List.mem_cons_self, uwX6, by decide +kernel, rfl, tyX6_ok, nmX6⟩
/-- HeavyGiftsModel.orderMany -/
theorem fX6_85 : g_FL RX6 85 6 32 .int false := ⟨RX6, TX6, 55, tyX6, rfl, by decide, g_uwR (ws := [.fieldLink RX6 85 (TX6 32).1 (TX6 32).2.1 (TX6 32).2.2.1]) [1123] (by decide +kernel) (by decide +kernel) _ List.mem_cons_self, uwX6, by decide +kernel, rfl, tyX6_ok, nmX6⟩
/-- HeavyGiftsModel.weekMany -/
theorem fX6_324 : g_FL RX6 324 6 33 .int false := ⟨RX6, TX6, 55, tyX6, rfl, by decide, g_uwR (ws := [.fieldLink RX6 324 (TX6 33).1 (TX6 33).2.1 (TX6 33).2.2.1]) [1124] (by decide +kernel) (by decide +kernel) _ List.mem_cons_self, uwX6, by decide +kernel, rfl, tyX6_ok, nmX6⟩
/-- HeavyGiftsModel.tries -/
theorem fX6_340 : g_FL RX6 340 6 34 .int false := ⟨RX6, TX6, 55, tyX6, rfl, by decide, g_uwR (ws := [.fieldLink RX6 340 (TX6 34).1 (TX6 34).2.1 (TX6 34).2.2.1]) [1125] (by decide +kernel) (by decide +kernel) _ List.mem_cons_self, uwX6, by decide +kernel, rfl, tyX6_ok, nmX6⟩
/-- HeavyGiftsModel.mostAnswered -/
theorem fX6_321 : g_FL RX6 321 6 35 .int false := ⟨RX6, TX6, 55, tyX6, rfl, by decide, g_uwR (ws := [.fieldLink RX6 321 (TX6 35).1 (TX6 35).2.1 (TX6 35).2.2.1]) [1126] (by decide +kernel) (by decide +kernel) _ List.mem_cons_self, uwX6, by decide +kernel, rfl, tyX6_ok, nmX6⟩
/-- HeavyGiftsModel.isSpent -/
theorem fX6_330 : g_FL RX6 330 6 36 .boolean false := ⟨RX6, TX6, 55, tyX6, rfl, by decide, g_uwR (ws := [.fieldLink RX6 330 (TX6 36).1 (TX6 36).2.1 (TX6 36).2.2.1]) [1127] (by decide +kernel) (by decide +kernel) _ List.mem_cons_self, uwX6, by decide +kernel, rfl, tyX6_ok, nmX6⟩
/-- HeavyGiftsModel.isAll -/
theorem fX6_327 : g_FL RX6 327 6 37 .boolean false := ⟨RX6, TX6, 55, tyX6, rfl, by decide, g_uwR (ws := [.fieldLink RX6 327 (TX6 37).1 (TX6 37).2.1 (TX6 37).2.2.1]) [1128] (by decide +kernel) (by decide +kernel) _ List.mem_cons_self, uwX6, by decide +kernel, rfl, tyX6_ok, nmX6⟩
/-- HeavyGiftsModel.states -/
theorem fX6_88 : g_FL RX6 88 6 38 (.array .int) true := ⟨RX6, TX6, 55, tyX6, rfl, by decide, g_uwR (ws := [.fieldLink RX6 88 (TX6 38).1 (TX6 38).2.1 (TX6 38).2.2.1]) [1129] (by decide +kernel) (by decide +kernel) _ List.mem_cons_self, uwX6, by decide +kernel, rfl, tyX6_ok, nmX6⟩
/-- HeavyGiftsModel.steps -/
theorem fX6_91 : g_FL RX6 91 6 39 (.array .int) true := ⟨RX6, TX6, 55, tyX6, rfl, by decide, g_uwR (ws := [.fieldLink RX6 91 (TX6 39).1 (TX6 39).2.1 (TX6 39).2.2.1]) [1130] (by decide +kernel) (by decide +kernel) _ List.mem_cons_self, uwX6, by decide +kernel, rfl, tyX6_ok, nmX6⟩
/-- HeavyGiftsModel.next -/
theorem fX6_94 : g_FL RX6 94 6 40 (.array .int) true := ⟨RX6, TX6, 55, tyX6, rfl, by decide, g_uwR (ws := [.fieldLink RX6 94 (TX6 40).1 (TX6 40).2.1 (TX6 40).2.2.1]) [1131] (by decide +kernel) (by decide +kernel) _ List.mem_cons_self, uwX6, by decide +kernel, rfl, tyX6_ok, nmX6⟩
/-- HeavyGiftsModel.heads -/
theorem fX6_97 : g_FL RX6 97 6 41 (.array .int) true := ⟨RX6, TX6, 55, tyX6, rfl, by decide, g_uwR (ws := [.fieldLink RX6 97 (TX6 41).1 (TX6 41).2.1 (TX6 41).2.2.1]) [1132] (by decide +kernel) (by decide +kernel) _ List.mem_cons_self, uwX6, by decide +kernel, rfl, tyX6_ok, nmX6⟩
/-- HeavyGiftsModel.row -/
theorem fX6_100 : g_FL RX6 100 6 42 (.array .int) true := ⟨RX6, TX6, 55, tyX6, rfl, by decide, g_uwR (ws := [.fieldLink RX6 100 (TX6 42).1 (TX6 42).2.1 (TX6 42).2.2.1]) [1133] (by decide +kernel) (by decide +kernel) _ List.mem_cons_self, uwX6, by decide +kernel, rfl, tyX6_ok, nmX6⟩
/-- HeavyGiftsModel.then -/
theorem fX6_103 : g_FL RX6 103 6 43 (.array .int) true := ⟨RX6, TX6, 55, tyX6, rfl, by decide, g_uwR (ws := [.fieldLink RX6 103 (TX6 43).1 (TX6 43).2.1 (TX6 43).2.2.1]) [1134] (by decide +kernel) (by decide +kernel) _ List.mem_cons_self, uwX6, by decide +kernel, rfl, tyX6_ok, nmX6⟩
/-- HeavyGiftsModel.stateMany -/
theorem fX6_355 : g_FL RX6 355 6 44 .int false := ⟨RX6, TX6, 55, tyX6, rfl, by decide, g_uwR (ws := [.fieldLink RX6 355 (TX6 44).1 (TX6 44).2.1 (TX6 44).2.2.1]) [1135] (by decide +kernel) (by decide +kernel) _ List.mem_cons_self, uwX6, by decide +kernel, rfl, tyX6_ok, nmX6⟩
/-- HeavyGiftsModel.isTooMany -/
theorem fX6_358 : g_FL RX6 358 6 45 .boolean false := ⟨RX6, TX6, 55, tyX6, rfl, by decide, g_uwR (ws := [.fieldLink RX6 358 (TX6 45).1 (TX6 45).2.1 (TX6 45).2.2.1]) [1136] (by decide +kernel) (by decide +kernel) _ List.mem_cons_self, uwX6, by decide +kernel, rfl, tyX6_ok, nmX6⟩
/-- HeavyGiftsModel.canMake -/
theorem fX6_106 : g_FL RX6 106 6 46 (.array .boolean) true := ⟨RX6, TX6, 55, tyX6, rfl, by decide, g_uwR (ws := [.fieldLink RX6 106 (TX6 46).1 (TX6 46).2.1 (TX6 46).2.2.1]) [1137] (by decide +kernel) (by decide +kernel) _ List.mem_cons_self, uwX6, by decide +kernel, rfl, tyX6_ok, nmX6⟩
/-- HeavyGiftsModel.weightNow -/
theorem fX6_109 : g_FL RX6 109 6 47 (.array .int) true := ⟨RX6, TX6, 55, tyX6, rfl, by decide, g_uwR (ws := [.fieldLink RX6 109 (TX6 47).1 (TX6 47).2.1 (TX6 47).2.2.1]) [1138] (by decide +kernel) (by decide +kernel) _ List.mem_cons_self, uwX6, by decide +kernel, rfl, tyX6_ok, nmX6⟩
/-- HeavyGiftsModel.hasImage -/
theorem fX6_259 : g_FL RX6 259 6 48 .boolean false := ⟨RX6, TX6, 55, tyX6, rfl, by decide, g_uwR (ws := [.fieldLink RX6 259 (TX6 48).1 (TX6 48).2.1 (TX6 48).2.2.1]) [1139] (by decide +kernel) (by decide +kernel) _ List.mem_cons_self, uwX6, by decide +kernel, rfl, tyX6_ok, nmX6⟩
/-- HeavyGiftsModel.giftsThen -/
theorem fX6_393 : g_FL RX6 393 6 49 .int false := ⟨RX6, TX6, 55, tyX6, rfl, by decide, g_uwR (ws := [.fieldLink RX6 393 (TX6 49).1 (TX6 49).2.1 (TX6 49).2.2.1]) [1140] (by decide +kernel) (by decide +kernel) _ List.mem_cons_self, uwX6, by decide +kernel, rfl, tyX6_ok, nmX6⟩
/-- HeavyGiftsModel.dayThen -/
theorem fX6_396 : g_FL RX6 396 6 50 .int false := ⟨RX6, TX6, 55, tyX6, rfl, by decide, g_uwR (ws := [.fieldLink RX6 396 (TX6 50).1 (TX6 50).2.1 (TX6 50).2.2.1]) [1141] (by decide +kernel) (by decide +kernel) _ List.mem_cons_self, uwX6, by decide +kernel, rfl, tyX6_ok, nmX6⟩
/-- HeavyGiftsModel.nowThen -/
theorem fX6_112 : g_FL RX6 112 6 51 (.array .int) true := ⟨RX6, TX6, 55, tyX6, rfl, by decide, g_uwR (ws := [.fieldLink RX6 112 (TX6 51).1 (TX6 51).2.1 (TX6 51).2.2.1]) [1142] (by decide +kernel) (by decide +kernel) _ List.mem_cons_self, uwX6, by decide +kernel, rfl, tyX6_ok, nmX6⟩
/-- HeavyGiftsModel.weightThen -/
theorem fX6_115 : g_FL RX6 115 6 52 (.array .int) true := ⟨RX6, TX6, 55, tyX6, rfl, by decide, g_uwR (ws := [.fieldLink RX6 115 (TX6 52).1 (TX6 52).2.1 (TX6 52).2.2.1]) [1143] (by decide +kernel) (by decide +kernel) _ List.mem_cons_self, uwX6, by decide +kernel, rfl, tyX6_ok, nmX6⟩
/-- HeavyGiftsModel.bookThen -/
theorem fX6_118 : g_FL RX6 118 6 53 (.array .int) true := ⟨RX6, TX6, 55, tyX6, rfl, by decide, g_uwR (ws := [.fieldLink RX6 118 (TX6 53).1 (TX6 53).2.1 (TX6 53).2.2.1]) [1144] (by decide +kernel) (by decide +kernel) _ List.mem_cons_self, uwX6, by decide +kernel, rfl, tyX6_ok, nmX6⟩
/-- HeavyGiftsModel.statusThen -/
theorem fX6_121 : g_FL RX6 121 6 54 (.array .int) true := ⟨RX6, TX6, 55, tyX6, rfl, by decide, g_uwR (ws := [.fieldLink RX6 121 (TX6 54).1 (TX6 54).2.1 (TX6 54).2.2.1]) [1145] (by decide +kernel) (by decide +kernel) _ List.mem_cons_self, uwX6, by decide +kernel, rfl, tyX6_ok, nmX6⟩
abbrev μX5_init : gY := (cX5_init, RX5, 1, none)
abbrev μX3_init : gY := (cX3_init, RX3, 1, none)
abbrev μX0_init : gY := (cX0_init, RX0, 1, none)
abbrev μX2_init : gY := (cX2_init, RX2, 1, none)
abbrev μX4_init : gY := (cX4_init, RX4, 1, none)
abbrev μX5_feed : gY := (cX5_feed, RX5, 6, (some .int))
abbrev μX2_hasRoomFor : gY := (cX2_hasRoomFor, RX2, 2, (some .boolean))
abbrev μX2_putBytes : gY := (cX2_putBytes, RX2, 3, none)
abbrev μX2_length : gY := (cX2_length, RX2, 1, (some .int))
abbrev μX5_fault : gY := (cX5_fault, RX5, 1, (some .int))
abbrev μX5_give : gY := (cX5_give, RX5, 6, (some .int))
abbrev μX3_troubleOf : gY := (cX3_troubleOf, RX3, 6, (some .int))
abbrev μX3_weightOf : gY := (cX3_weightOf, RX3, 2, (some .int))
abbrev μX3_lightest : gY := (cX3_lightest, RX3, 2, (some .int))
abbrev μX3_heaviest : gY := (cX3_heaviest, RX3, 2, (some .int))
abbrev μX0_isFull : gY := (cX0_isFull, RX0, 1, (some .boolean))
abbrev μX5_makeGiftByBook : gY := (cX5_makeGiftByBook, RX5, 5, none)
abbrev μX0_write : gY := (cX0_write, RX0, 7, none)
abbrev μX3_makeGift : gY := (cX3_makeGift, RX3, 5, none)
abbrev μX3_hand : gY := (cX3_hand, RX3, 5, none)
abbrev μX5_judge : gY := (cX5_judge, RX5, 5, (some .int))
abbrev μX5_undo : gY := (cX5_undo, RX5, 1, (some .int))
abbrev μX0_length : gY := (cX0_length, RX0, 1, (some .int))
abbrev μX0_takeBackLast : gY := (cX0_takeBackLast, RX0, 5, none)
abbrev μX5_still : gY := (cX5_still, RX5, 4, (some .int))
abbrev μX3_copyFrom : gY := (cX3_copyFrom, RX3, 3, none)
abbrev μX3_giveByChoice : gY := (cX3_giveByChoice, RX3, 3, (some .boolean))
abbrev μX3_chosenSet : gY := (cX3_chosenSet, RX3, 2, (some .int))
abbrev μX3_mayAnswer : gY := (cX3_mayAnswer, RX3, 2, (some .boolean))
abbrev μX3_cheapestFit : gY := (cX3_cheapestFit, RX3, 9, (some .int))
abbrev μX3_nextSet : gY := (cX3_nextSet, RX3, 9, (some .int))
abbrev μX3_stepUp : gY := (cX3_stepUp, RX3, 2, (some .int))
abbrev μX3_worthOf : gY := (cX3_worthOf, RX3, 4, (some .int))
abbrev μX3_leastFitOf : gY := (cX3_leastFitOf, RX3, 3, (some .int))
abbrev μX3_waits : gY := (cX3_waits, RX3, 2, (some .boolean))
abbrev μX3_sandFor : gY := (cX3_sandFor, RX3, 3, (some .int))
abbrev μX3_takerFor : gY := (cX3_takerFor, RX3, 3, (some .int))
abbrev μX3_holderOf : gY := (cX3_holderOf, RX3, 3, (some .int))
abbrev μX3_holds : gY := (cX3_holds, RX3, 3, (some .boolean))
abbrev μX3_someoneWaits : gY := (cX3_someoneWaits, RX3, 2, (some .boolean))
abbrev μX3_somethingDries : gY := (cX3_somethingDries, RX3, 2, (some .boolean))
abbrev μX3_endDay : gY := (cX3_endDay, RX3, 2, none)
abbrev μX3_weighSets : gY := (cX3_weighSets, RX3, 4, none)
abbrev μX5_image : gY := (cX5_image, RX5, 1, none)
abbrev μX0_copyFrom : gY := (cX0_copyFrom, RX0, 2, none)
abbrev μX5_restore : gY := (cX5_restore, RX5, 1, (some .boolean))
abbrev μX5_town : gY := (cX5_town, RX5, 3, (some .int))
abbrev μX2_readTown : gY := (cX2_readTown, RX2, 3, (some .int))
abbrev μX3_clear : gY := (cX3_clear, RX3, 1, none)
abbrev μX2_step : gY := (cX2_step, RX2, 2, none)
abbrev μX2_isLetter : gY := (cX2_isLetter, RX2, 2, (some .boolean))
abbrev μX2_stepWord : gY := (cX2_stepWord, RX2, 3, none)
abbrev μX2_isDigit : gY := (cX2_isDigit, RX2, 2, (some .boolean))
abbrev μX2_stepNumber : gY := (cX2_stepNumber, RX2, 3, none)
abbrev μX2_readLine : gY := (cX2_readLine, RX2, 1, (some .boolean))
abbrev μX2_isWord : gY := (cX2_isWord, RX2, 3, (some .boolean))
abbrev μX2_readPerson : gY := (cX2_readPerson, RX2, 4, (some .boolean))
abbrev μX2_refuse : gY := (cX2_refuse, RX2, 2, (some .boolean))
abbrev μX2_skipWord : gY := (cX2_skipWord, RX2, 3, (some .boolean))
abbrev μX2_takeNumber : gY := (cX2_takeNumber, RX2, 3, (some .boolean))
abbrev μX2_kindTold : gY := (cX2_kindTold, RX2, 1, (some .int))
abbrev μX3_addPerson : gY := (cX3_addPerson, RX3, 4, none)
abbrev μX2_takeStop : gY := (cX2_takeStop, RX2, 1, (some .boolean))
abbrev μX2_readThing : gY := (cX2_readThing, RX2, 4, (some .boolean))
abbrev μX2_takePerson : gY := (cX2_takePerson, RX2, 2, (some .boolean))
abbrev μX2_personTold : gY := (cX2_personTold, RX2, 1, (some .boolean))
abbrev μX3_addThing : gY := (cX3_addThing, RX3, 5, none)
abbrev μX2_readOwes : gY := (cX2_readOwes, RX2, 2, (some .boolean))
abbrev μX2_readLaw : gY := (cX2_readLaw, RX2, 1, (some .boolean))
abbrev μX2_readWithin : gY := (cX2_readWithin, RX2, 1, (some .boolean))
abbrev μX2_place : gY := (cX2_place, RX2, 1, (some .int))
abbrev μX0_clear : gY := (cX0_clear, RX0, 1, none)
abbrev μX5_count : gY := (cX5_count, RX5, 2, (some .int))
abbrev μX5_person : gY := (cX5_person, RX5, 3, (some .int))
abbrev μX5_requirePerson : gY := (cX5_requirePerson, RX5, 2, none)
abbrev μX5_thing : gY := (cX5_thing, RX5, 3, (some .int))
abbrev μX5_requireThing : gY := (cX5_requireThing, RX5, 2, none)
abbrev μX5_gift : gY := (cX5_gift, RX5, 3, (some .int))
abbrev μX0_entry : gY := (cX0_entry, RX0, 3, (some .int))
abbrev μX5_sets : gY := (cX5_sets, RX5, 5, (some .int))
abbrev μX3_nextFit : gY := (cX3_nextFit, RX3, 3, (some .int))
abbrev μX5_choice : gY := (cX5_choice, RX5, 4, (some .int))
abbrev μX5_requireWhat : gY := (cX5_requireWhat, RX5, 3, none)
abbrev μX5_gap : gY := (cX5_gap, RX5, 4, (some .int))
abbrev μX3_nearestOff : gY := (cX3_nearestOff, RX3, 8, (some .int))
abbrev μX5_week : gY := (cX5_week, RX5, 3, (some .int))
abbrev μX4_tryAll : gY := (cX4_tryAll, RX4, 4, (some .boolean))
abbrev μX4_tryRest : gY := (cX4_tryRest, RX4, 4, (some .boolean))
abbrev μX4_isSpent : gY := (cX4_isSpent, RX4, 1, (some .boolean))
abbrev μX4_tryTurn : gY := (cX4_tryTurn, RX4, 8, (some .boolean))
abbrev μX5_keepOrder : gY := (cX5_keepOrder, RX5, 2, none)
abbrev μX4_length : gY := (cX4_length, RX4, 1, (some .int))
abbrev μX4_personAt : gY := (cX4_personAt, RX4, 2, (some .int))
abbrev μX4_most : gY := (cX4_most, RX4, 1, (some .int))
abbrev μX4_tries : gY := (cX4_tries, RX4, 1, (some .int))
abbrev μX5_order : gY := (cX5_order, RX5, 2, (some .int))
abbrev μX5_get : gY := (cX5_get, RX5, 3, (some .int))
abbrev μX1_init : gY := (cX1_init, RX1, 1, none)
abbrev μX1_fewestGifts : gY := (cX1_fewestGifts, RX1, 8, (some .int))
abbrev μX1_noteState : gY := (cX1_noteState, RX1, 3, none)
abbrev μX1_pack : gY := (cX1_pack, RX1, 4, none)
abbrev μX1_sumOfPacked : gY := (cX1_sumOfPacked, RX1, 4, (some .int))
abbrev μX1_isPacked : gY := (cX1_isPacked, RX1, 3, (some .boolean))
abbrev μX1_load : gY := (cX1_load, RX1, 5, none)
abbrev μX1_spread : gY := (cX1_spread, RX1, 4, none)
abbrev μX1_spreadBySets : gY := (cX1_spreadBySets, RX1, 5, none)
abbrev μX1_spreadSet : gY := (cX1_spreadSet, RX1, 7, none)
abbrev μX5_cut : gY := (cX5_cut, RX5, 8, (some .int))
abbrev μX3_cutHelps : gY := (cX3_cutHelps, RX3, 4, (some .boolean))
abbrev μX3_fitsWithPart : gY := (cX3_fitsWithPart, RX3, 6, (some .boolean))
abbrev μX5_keep : gY := (cX5_keep, RX5, 6, (some .int))
abbrev μX5_requireWeights : gY := (cX5_requireWeights, RX5, 2, none)
abbrev μX5_fewest : gY := (cX5_fewest, RX5, 6, (some .int))
abbrev μX5_sortByWeight : gY := (cX5_sortByWeight, RX5, 3, none)
abbrev μX5_makesAllTo : gY := (cX5_makesAllTo, RX5, 6, (some .boolean))
abbrev μX5_answers : gY := (cX5_answers, RX5, 8, (some .int))
abbrev μX5_markMadeByThings : gY := (cX5_markMadeByThings, RX5, 6, none)
abbrev μX5_round : gY := (cX5_round, RX5, 6, (some .int))
abbrev μX5_days : gY := (cX5_days, RX5, 4, (some .int))
abbrev μX5_passDayByBook : gY := (cX5_passDayByBook, RX5, 3, none)
abbrev μX6_init : gY := (cX6_init, RX6, 1, none)
abbrev μX6_begin : gY := (cX6_begin, RX6, 2, none)
abbrev μX6_thrown : gY := (cX6_thrown, RX6, 1, (some .int))
abbrev μX6_feed : gY := (cX6_feed, RX6, 8, (some .int))
abbrev μX6_town : gY := (cX6_town, RX6, 4, (some .int))
abbrev μX6_fail : gY := (cX6_fail, RX6, 2, (some .int))
abbrev μX6_stepOn : gY := (cX6_stepOn, RX6, 2, none)
abbrev μX6_byteAt : gY := (cX6_byteAt, RX6, 2, (some .int))
abbrev μX6_isLetter : gY := (cX6_isLetter, RX6, 1, (some .boolean))
abbrev μX6_isDigit : gY := (cX6_isDigit, RX6, 1, (some .boolean))
abbrev μX6_readLine : gY := (cX6_readLine, RX6, 3, (some .int))
abbrev μX6_is : gY := (cX6_is, RX6, 4, (some .boolean))
abbrev μX6_wrong : gY := (cX6_wrong, RX6, 2, none)
abbrev μX6_readOne : gY := (cX6_readOne, RX6, 4, none)
abbrev μX6_passes : gY := (cX6_passes, RX6, 3, (some .boolean))
abbrev μX6_readNumber : gY := (cX6_readNumber, RX6, 4, (some .int))
abbrev μX6_readThing : gY := (cX6_readThing, RX6, 2, none)
abbrev μX6_readPerson : gY := (cX6_readPerson, RX6, 2, (some .int))
abbrev μX6_personNow : gY := (cX6_personNow, RX6, 1, (some .int))
abbrev μX6_readOwes : gY := (cX6_readOwes, RX6, 3, none)
abbrev μX6_readLaw : gY := (cX6_readLaw, RX6, 2, none)
abbrev μX6_copy : gY := (cX6_copy, RX6, 3, none)
abbrev μX6_fault : gY := (cX6_fault, RX6, 1, (some .int))
abbrev μX6_count : gY := (cX6_count, RX6, 2, (some .int))
abbrev μX6_isIn : gY := (cX6_isIn, RX6, 3, (some .boolean))
abbrev μX6_person : gY := (cX6_person, RX6, 3, (some .int))
abbrev μX6_isPerson : gY := (cX6_isPerson, RX6, 2, (some .boolean))
abbrev μX6_hasOf : gY := (cX6_hasOf, RX6, 5, (some .int))
abbrev μX6_worthOf : gY := (cX6_worthOf, RX6, 4, (some .int))
abbrev μX6_weightOf : gY := (cX6_weightOf, RX6, 4, (some .int))
abbrev μX6_thing : gY := (cX6_thing, RX6, 3, (some .int))
abbrev μX6_isThing : gY := (cX6_isThing, RX6, 2, (some .boolean))
abbrev μX6_judge : gY := (cX6_judge, RX6, 5, (some .int))
abbrev μX6_troubleOf : gY := (cX6_troubleOf, RX6, 6, (some .int))
abbrev μX6_lightest : gY := (cX6_lightest, RX6, 2, (some .int))
abbrev μX6_give : gY := (cX6_give, RX6, 6, (some .int))
abbrev μX6_makeNow : gY := (cX6_makeNow, RX6, 6, none)
abbrev μX6_make : gY := (cX6_make, RX6, 8, (some .int))
abbrev μX6_undo : gY := (cX6_undo, RX6, 5, (some .int))
abbrev μX6_gift : gY := (cX6_gift, RX6, 3, (some .int))
abbrev μX6_sets : gY := (cX6_sets, RX6, 4, (some .int))
abbrev μX6_fits : gY := (cX6_fits, RX6, 4, (some .boolean))
abbrev μX6_sandFor : gY := (cX6_sandFor, RX6, 7, (some .int))
abbrev μX6_choice : gY := (cX6_choice, RX6, 4, (some .int))
abbrev μX6_choiceOf : gY := (cX6_choiceOf, RX6, 6, (some .int))
abbrev μX6_rankOf : gY := (cX6_rankOf, RX6, 3, (some .int))
abbrev μX6_bitsOf : gY := (cX6_bitsOf, RX6, 3, (some .int))
abbrev μX6_whomOf : gY := (cX6_whomOf, RX6, 4, (some .int))
abbrev μX6_gap : gY := (cX6_gap, RX6, 9, (some .int))
abbrev μX6_week : gY := (cX6_week, RX6, 3, (some .int))
abbrev μX6_weekOn : gY := (cX6_weekOn, RX6, 4, none)
abbrev μX6_answerOn : gY := (cX6_answerOn, RX6, 8, none)
abbrev μX6_loadRow : gY := (cX6_loadRow, RX6, 3, none)
abbrev μX6_order : gY := (cX6_order, RX6, 2, (some .int))
abbrev μX6_get : gY := (cX6_get, RX6, 6, (some .int))
abbrev μX6_come : gY := (cX6_come, RX6, 5, none)
abbrev μX6_foldOf : gY := (cX6_foldOf, RX6, 3, (some .int))
abbrev μX6_isState : gY := (cX6_isState, RX6, 4, (some .boolean))
abbrev μX6_goOn : gY := (cX6_goOn, RX6, 6, none)
abbrev μX6_giveOn : gY := (cX6_giveOn, RX6, 5, none)
abbrev μX6_cut : gY := (cX6_cut, RX6, 8, (some .int))
abbrev μX6_anyFits : gY := (cX6_anyFits, RX6, 3, (some .boolean))
abbrev μX6_fitsWith : gY := (cX6_fitsWith, RX6, 6, (some .boolean))
abbrev μX6_keep : gY := (cX6_keep, RX6, 7, (some .int))
abbrev μX6_fewest : gY := (cX6_fewest, RX6, 4, (some .int))
abbrev μX6_tellWeights : gY := (cX6_tellWeights, RX6, 5, none)
abbrev μX6_madeUpTo : gY := (cX6_madeUpTo, RX6, 4, (some .int))
abbrev μX6_answers : gY := (cX6_answers, RX6, 4, (some .int))
abbrev μX6_round : gY := (cX6_round, RX6, 7, (some .int))
abbrev μX6_days : gY := (cX6_days, RX6, 6, (some .int))
abbrev μX6_dry : gY := (cX6_dry, RX6, 2, none)
abbrev μX6_still : gY := (cX6_still, RX6, 3, (some .int))
abbrev μX6_stillFrom : gY := (cX6_stillFrom, RX6, 5, (some .int))
abbrev μX6_isStill : gY := (cX6_isStill, RX6, 4, (some .boolean))
abbrev μX6_image : gY := (cX6_image, RX6, 2, none)
abbrev μX6_restore : gY := (cX6_restore, RX6, 2, (some .boolean))
/-- HeavyGifts.feed -/
theorem vL_71 : g_VL RL 71 RX5 yX5_feed μX5_feed 5 := ⟨g_uwR [344, 345, 346, 90, 347] (by decide +kernel) (by decide +kernel), by decide +kernel, by decide⟩
/-- HeavyGifts$Tape.hasRoomFor -/
theorem vX5_83 : g_VL RX5 83 RX2 yX2_hasRoomFor μX2_hasRoomFor 1 := ⟨g_uwR [348, 349, 350, 93, 351] (by decide +kernel) (by decide +kernel), by decide +kernel, by decide⟩
/-- HeavyGifts$Tape.putBytes -/
theorem vX5_87 : g_VL RX5 87 RX2 yX2_putBytes μX2_putBytes 1 := ⟨g_uwR [352, 353, 354, 93, 355] (by decide +kernel) (by decide +kernel), by decide +kernel, by decide⟩
/-- HeavyGifts$Tape.length -/
theorem vX5_91 : g_VL RX5 91 RX2 yX2_length μX2_length 0 := ⟨g_uwR [356, 357, 358, 93, 359] (by decide +kernel) (by decide +kernel), by decide +kernel, by decide⟩
/-- HeavyGifts.fault -/
theorem vL_86 : g_VL RL 86 RX5 yX5_fault μX5_fault 0 := ⟨g_uwR [360, 361, 362, 90, 363] (by decide +kernel) (by decide +kernel), by decide +kernel, by decide⟩
/-- HeavyGifts.give -/
theorem vL_100 : g_VL RL 100 RX5 yX5_give μX5_give 4 := ⟨g_uwR [364, 365, 366, 90, 367] (by decide +kernel) (by decide +kernel), by decide +kernel, by decide⟩
/-- HeavyGifts$Town.troubleOf -/
theorem vX5_171 : g_VL RX5 171 RX3 yX3_troubleOf μX3_troubleOf 4 := ⟨g_uwR [368, 369, 370, 91, 371] (by decide +kernel) (by decide +kernel), by decide +kernel, by decide⟩
/-- HeavyGifts$Town.weightOf -/
theorem vX3_80 : g_VL RX3 80 RX3 yX3_weightOf μX3_weightOf 1 := ⟨g_uwR [372, 373, 374, 91, 375] (by decide +kernel) (by decide +kernel), by decide +kernel, by decide⟩
/-- HeavyGifts$Town.lightest -/
theorem vX3_84 : g_VL RX3 84 RX3 yX3_lightest μX3_lightest 1 := ⟨g_uwR [376, 378, 0, 91, 379] (by decide +kernel) (by decide +kernel), by decide +kernel, by decide⟩
/-- HeavyGifts$Town.heaviest -/
theorem vX3_87 : g_VL RX3 87 RX3 yX3_heaviest μX3_heaviest 1 := ⟨g_uwR [383, 385, 1, 91, 386] (by decide +kernel) (by decide +kernel), by decide +kernel, by decide⟩
/-- HeavyGifts$Book.isFull -/
theorem vX5_175 : g_VL RX5 175 RX0 yX0_isFull μX0_isFull 0 := ⟨g_uwR [387, 388, 389, 92, 390] (by decide +kernel) (by decide +kernel), by decide +kernel, by decide⟩
/-- HeavyGifts.makeGiftByBook -/
theorem vX5_179 : g_VL RX5 179 RX5 yX5_makeGiftByBook μX5_makeGiftByBook 4 := ⟨g_uwR [391, 393, 2, 90, 394] (by decide +kernel) (by decide +kernel), by decide +kernel, by decide⟩
/-- HeavyGifts$Book.write -/
theorem vX5_183 : g_VL RX5 183 RX0 yX0_write μX0_write 5 := ⟨g_uwR [395, 396, 397, 92, 398] (by decide +kernel) (by decide +kernel), by decide +kernel, by decide⟩
/-- HeavyGifts$Town.weightOf -/
theorem vX0_23 : g_VL RX0 23 RX3 yX3_weightOf μX3_weightOf 1 := ⟨g_uwR [399, 373, 374, 91, 375] (by decide +kernel) (by decide +kernel), by decide +kernel, by decide⟩
/-- HeavyGifts$Town.makeGift -/
theorem vX5_187 : g_VL RX5 187 RX3 yX3_makeGift μX3_makeGift 4 := ⟨g_uwR [400, 401, 402, 91, 403] (by decide +kernel) (by decide +kernel), by decide +kernel, by decide⟩
/-- HeavyGifts$Town.hand -/
theorem vX3_127 : g_VL RX3 127 RX3 yX3_hand μX3_hand 4 := ⟨g_uwR [404, 405, 406, 91, 407] (by decide +kernel) (by decide +kernel), by decide +kernel, by decide⟩
/-- HeavyGifts.judge -/
theorem vL_105 : g_VL RL 105 RX5 yX5_judge μX5_judge 4 := ⟨g_uwR [408, 409, 410, 90, 411] (by decide +kernel) (by decide +kernel), by decide +kernel, by decide⟩
/-- HeavyGifts.undo -/
theorem vL_109 : g_VL RL 109 RX5 yX5_undo μX5_undo 0 := ⟨g_uwR [412, 413, 414, 90, 415] (by decide +kernel) (by decide +kernel), by decide +kernel, by decide⟩
/-- HeavyGifts$Book.length -/
theorem vX5_128 : g_VL RX5 128 RX0 yX0_length μX0_length 0 := ⟨g_uwR [416, 417, 418, 92, 419] (by decide +kernel) (by decide +kernel), by decide +kernel, by decide⟩
/-- HeavyGifts$Book.takeBackLast -/
theorem vX5_190 : g_VL RX5 190 RX0 yX0_takeBackLast μX0_takeBackLast 1 := ⟨g_uwR [420, 421, 422, 92, 423] (by decide +kernel) (by decide +kernel), by decide +kernel, by decide⟩
/-- HeavyGifts$Town.hand -/
theorem vX0_35 : g_VL RX0 35 RX3 yX3_hand μX3_hand 4 := ⟨g_uwR [424, 405, 406, 91, 407] (by decide +kernel) (by decide +kernel), by decide +kernel, by decide⟩
/-- HeavyGifts.still -/
theorem vL_153 : g_VL RL 153 RX5 yX5_still μX5_still 0 := ⟨g_uwR [425, 426, 427, 90, 428] (by decide +kernel) (by decide +kernel), by decide +kernel, by decide⟩
/-- HeavyGifts$Town.copyFrom -/
theorem vX5_106 : g_VL RX5 106 RX3 yX3_copyFrom μX3_copyFrom 1 := ⟨g_uwR [429, 430, 431, 91, 432] (by decide +kernel) (by decide +kernel), by decide +kernel, by decide⟩
/-- HeavyGifts$Town.giveByChoice -/
theorem vX5_285 : g_VL RX5 285 RX3 yX3_giveByChoice μX3_giveByChoice 1 := ⟨g_uwR [436, 437, 438, 91, 439] (by decide +kernel) (by decide +kernel), by decide +kernel, by decide⟩
/-- HeavyGifts$Town.chosenSet -/
theorem vX3_131 : g_VL RX3 131 RX3 yX3_chosenSet μX3_chosenSet 1 := ⟨g_uwR [440, 441, 442, 91, 443] (by decide +kernel) (by decide +kernel), by decide +kernel, by decide⟩
/-- HeavyGifts$Town.mayAnswer -/
theorem vX3_96 : g_VL RX3 96 RX3 yX3_mayAnswer μX3_mayAnswer 1 := ⟨g_uwR [444, 445, 446, 91, 447] (by decide +kernel) (by decide +kernel), by decide +kernel, by decide⟩
/-- HeavyGifts$Town.cheapestFit -/
theorem vX3_110 : g_VL RX3 110 RX3 yX3_cheapestFit μX3_cheapestFit 1 := ⟨g_uwR [448, 450, 3, 91, 451] (by decide +kernel) (by decide +kernel), by decide +kernel, by decide⟩
/-- HeavyGifts$Town.nextSet -/
theorem vX3_100 : g_VL RX3 100 RX3 yX3_nextSet μX3_nextSet 4 := ⟨g_uwR [452, 454, 4, 91, 455] (by decide +kernel) (by decide +kernel), by decide +kernel, by decide⟩
/-- HeavyGifts$Town.stepUp -/
theorem sX3_104 : g_SL RX3 104 yX3_stepUp μX3_stepUp 2 := ⟨g_uwR [456, 457, 91, 458] (by decide +kernel) (by decide +kernel), by decide +kernel, by decide⟩
/-- HeavyGifts$Town.worthOf -/
theorem vX3_119 : g_VL RX3 119 RX3 yX3_worthOf μX3_worthOf 1 := ⟨g_uwR [459, 460, 461, 91, 462] (by decide +kernel) (by decide +kernel), by decide +kernel, by decide⟩
/-- HeavyGifts$Town.leastFitOf -/
theorem vX3_113 : g_VL RX3 113 RX3 yX3_leastFitOf μX3_leastFitOf 2 := ⟨g_uwR [469, 471, 5, 91, 472] (by decide +kernel) (by decide +kernel), by decide +kernel, by decide⟩
/-- HeavyGifts$Town.waits -/
theorem vX3_116 : g_VL RX3 116 RX3 yX3_waits μX3_waits 1 := ⟨g_uwR [473, 475, 6, 91, 476] (by decide +kernel) (by decide +kernel), by decide +kernel, by decide⟩
/-- HeavyGifts$Town.sandFor -/
theorem vX3_134 : g_VL RX3 134 RX3 yX3_sandFor μX3_sandFor 2 := ⟨g_uwR [477, 478, 479, 91, 480] (by decide +kernel) (by decide +kernel), by decide +kernel, by decide⟩
/-- HeavyGifts$Town.takerFor -/
theorem vX3_137 : g_VL RX3 137 RX3 yX3_takerFor μX3_takerFor 1 := ⟨g_uwR [481, 482, 483, 91, 484] (by decide +kernel) (by decide +kernel), by decide +kernel, by decide⟩
/-- HeavyGifts$Town.holderOf -/
theorem vX3_107 : g_VL RX3 107 RX3 yX3_holderOf μX3_holderOf 1 := ⟨g_uwR [485, 486, 487, 91, 488] (by decide +kernel) (by decide +kernel), by decide +kernel, by decide⟩
/-- HeavyGifts$Town.holds -/
theorem vX3_76 : g_VL RX3 76 RX3 yX3_holds μX3_holds 2 := ⟨g_uwR [489, 490, 491, 91, 492] (by decide +kernel) (by decide +kernel), by decide +kernel, by decide⟩
/-- HeavyGifts$Town.makeGift -/
theorem vX3_140 : g_VL RX3 140 RX3 yX3_makeGift μX3_makeGift 4 := ⟨g_uwR [493, 401, 402, 91, 403] (by decide +kernel) (by decide +kernel), by decide +kernel, by decide⟩
/-- HeavyGifts$Town.someoneWaits -/
theorem vX5_294 : g_VL RX5 294 RX3 yX3_someoneWaits μX3_someoneWaits 0 := ⟨g_uwR [494, 495, 496, 91, 497] (by decide +kernel) (by decide +kernel), by decide +kernel, by decide⟩
/-- HeavyGifts$Town.somethingDries -/
theorem vX5_297 : g_VL RX5 297 RX3 yX3_somethingDries μX3_somethingDries 0 := ⟨g_uwR [498, 499, 500, 91, 501] (by decide +kernel) (by decide +kernel), by decide +kernel, by decide⟩
/-- HeavyGifts$Town.endDay -/
theorem vX5_291 : g_VL RX5 291 RX3 yX3_endDay μX3_endDay 0 := ⟨g_uwR [502, 503, 504, 91, 505] (by decide +kernel) (by decide +kernel), by decide +kernel, by decide⟩
/-- HeavyGifts$Town.weighSets -/
theorem vX3_67 : g_VL RX3 67 RX3 yX3_weighSets μX3_weighSets 0 := ⟨g_uwR [506, 507, 508, 91, 509] (by decide +kernel) (by decide +kernel), by decide +kernel, by decide⟩
/-- HeavyGifts.image -/
theorem vL_157 : g_VL RL 157 RX5 yX5_image μX5_image 0 := ⟨g_uwR [510, 511, 512, 90, 513] (by decide +kernel) (by decide +kernel), by decide +kernel, by decide⟩
/-- HeavyGifts$Book.copyFrom -/
theorem vX5_300 : g_VL RX5 300 RX0 yX0_copyFrom μX0_copyFrom 1 := ⟨g_uwR [514, 515, 516, 92, 517] (by decide +kernel) (by decide +kernel), by decide +kernel, by decide⟩
/-- HeavyGifts.restore -/
theorem vL_161 : g_VL RL 161 RX5 yX5_restore μX5_restore 0 := ⟨g_uwR [519, 520, 521, 90, 522] (by decide +kernel) (by decide +kernel), by decide +kernel, by decide⟩
/-- HeavyGifts.town -/
theorem vL_7 : g_VL RL 7 RX5 yX5_town μX5_town 1 := ⟨g_uwR [527, 528, 529, 90, 530] (by decide +kernel) (by decide +kernel), by decide +kernel, by decide⟩
/-- HeavyGifts$Tape.readTown -/
theorem vX5_98 : g_VL RX5 98 RX2 yX2_readTown μX2_readTown 1 := ⟨g_uwR [593, 594, 595, 93, 596] (by decide +kernel) (by decide +kernel), by decide +kernel, by decide⟩
/-- HeavyGifts$Town.clear -/
theorem vX2_63 : g_VL RX2 63 RX3 yX3_clear μX3_clear 0 := ⟨g_uwR [600, 601, 602, 91, 603] (by decide +kernel) (by decide +kernel), by decide +kernel, by decide⟩
/-- HeavyGifts$Tape.step -/
theorem vX2_66 : g_VL RX2 66 RX2 yX2_step μX2_step 0 := ⟨g_uwR [607, 609, 8, 93, 610] (by decide +kernel) (by decide +kernel), by decide +kernel, by decide⟩
/-- HeavyGifts$Tape.isLetter -/
theorem vX2_182 : g_VL RX2 182 RX2 yX2_isLetter μX2_isLetter 1 := ⟨g_uwR [611, 613, 9, 93, 614] (by decide +kernel) (by decide +kernel), by decide +kernel, by decide⟩
/-- HeavyGifts$Tape.stepWord -/
theorem vX2_185 : g_VL RX2 185 RX2 yX2_stepWord μX2_stepWord 1 := ⟨g_uwR [615, 617, 10, 93, 618] (by decide +kernel) (by decide +kernel), by decide +kernel, by decide⟩
/-- HeavyGifts$Tape.isDigit -/
theorem vX2_189 : g_VL RX2 189 RX2 yX2_isDigit μX2_isDigit 1 := ⟨g_uwR [619, 621, 11, 93, 622] (by decide +kernel) (by decide +kernel), by decide +kernel, by decide⟩
/-- HeavyGifts$Tape.stepNumber -/
theorem vX2_192 : g_VL RX2 192 RX2 yX2_stepNumber μX2_stepNumber 1 := ⟨g_uwR [623, 625, 12, 93, 626] (by decide +kernel) (by decide +kernel), by decide +kernel, by decide⟩
/-- HeavyGifts$Tape.readLine -/
theorem vX2_69 : g_VL RX2 69 RX2 yX2_readLine μX2_readLine 0 := ⟨g_uwR [627, 629, 13, 93, 630] (by decide +kernel) (by decide +kernel), by decide +kernel, by decide⟩
/-- HeavyGifts$Tape.isWord -/
theorem vX2_78 : g_VL RX2 78 RX2 yX2_isWord μX2_isWord 1 := ⟨g_uwR [632, 634, 14, 93, 635] (by decide +kernel) (by decide +kernel), by decide +kernel, by decide⟩
/-- HeavyGifts$Tape.readPerson -/
theorem vX2_82 : g_VL RX2 82 RX2 yX2_readPerson μX2_readPerson 0 := ⟨g_uwR [684, 686, 15, 93, 687] (by decide +kernel) (by decide +kernel), by decide +kernel, by decide⟩
/-- HeavyGifts$Tape.refuse -/
theorem vX2_108 : g_VL RX2 108 RX2 yX2_refuse μX2_refuse 1 := ⟨g_uwR [688, 690, 16, 93, 691] (by decide +kernel) (by decide +kernel), by decide +kernel, by decide⟩
/-- HeavyGifts$Tape.skipWord -/
theorem vX2_117 : g_VL RX2 117 RX2 yX2_skipWord μX2_skipWord 1 := ⟨g_uwR [693, 695, 17, 93, 696] (by decide +kernel) (by decide +kernel), by decide +kernel, by decide⟩
/-- HeavyGifts$Tape.takeNumber -/
theorem vX2_120 : g_VL RX2 120 RX2 yX2_takeNumber μX2_takeNumber 2 := ⟨g_uwR [697, 699, 18, 93, 700] (by decide +kernel) (by decide +kernel), by decide +kernel, by decide⟩
/-- HeavyGifts$Tape.kindTold -/
theorem vX2_124 : g_VL RX2 124 RX2 yX2_kindTold μX2_kindTold 0 := ⟨g_uwR [701, 703, 19, 93, 704] (by decide +kernel) (by decide +kernel), by decide +kernel, by decide⟩
/-- HeavyGifts$Town.addPerson -/
theorem vX2_128 : g_VL RX2 128 RX3 yX3_addPerson μX3_addPerson 3 := ⟨g_uwR [710, 711, 712, 91, 713] (by decide +kernel) (by decide +kernel), by decide +kernel, by decide⟩
/-- HeavyGifts$Tape.takeStop -/
theorem vX2_85 : g_VL RX2 85 RX2 yX2_takeStop μX2_takeStop 0 := ⟨g_uwR [714, 716, 20, 93, 717] (by decide +kernel) (by decide +kernel), by decide +kernel, by decide⟩
/-- HeavyGifts$Tape.readThing -/
theorem vX2_90 : g_VL RX2 90 RX2 yX2_readThing μX2_readThing 0 := ⟨g_uwR [719, 721, 21, 93, 722] (by decide +kernel) (by decide +kernel), by decide +kernel, by decide⟩
/-- HeavyGifts$Tape.takePerson -/
theorem vX2_145 : g_VL RX2 145 RX2 yX2_takePerson μX2_takePerson 1 := ⟨g_uwR [723, 725, 22, 93, 726] (by decide +kernel) (by decide +kernel), by decide +kernel, by decide⟩
/-- HeavyGifts$Tape.personTold -/
theorem vX2_154 : g_VL RX2 154 RX2 yX2_personTold μX2_personTold 0 := ⟨g_uwR [727, 729, 23, 93, 730] (by decide +kernel) (by decide +kernel), by decide +kernel, by decide⟩
/-- HeavyGifts$Town.addThing -/
theorem vX2_150 : g_VL RX2 150 RX3 yX3_addThing μX3_addThing 4 := ⟨g_uwR [732, 733, 734, 91, 735] (by decide +kernel) (by decide +kernel), by decide +kernel, by decide⟩
/-- HeavyGifts$Tape.readOwes -/
theorem vX2_95 : g_VL RX2 95 RX2 yX2_readOwes μX2_readOwes 0 := ⟨g_uwR [737, 739, 24, 93, 740] (by decide +kernel) (by decide +kernel), by decide +kernel, by decide⟩
/-- HeavyGifts$Tape.readLaw -/
theorem vX2_100 : g_VL RX2 100 RX2 yX2_readLaw μX2_readLaw 0 := ⟨g_uwR [743, 745, 25, 93, 746] (by decide +kernel) (by decide +kernel), by decide +kernel, by decide⟩
/-- HeavyGifts$Tape.readWithin -/
theorem vX2_105 : g_VL RX2 105 RX2 yX2_readWithin μX2_readWithin 0 := ⟨g_uwR [750, 752, 26, 93, 753] (by decide +kernel) (by decide +kernel), by decide +kernel, by decide⟩
/-- HeavyGifts$Town.weighSets -/
theorem vX2_73 : g_VL RX2 73 RX3 yX3_weighSets μX3_weighSets 0 := ⟨g_uwR [754, 507, 508, 91, 509] (by decide +kernel) (by decide +kernel), by decide +kernel, by decide⟩
/-- HeavyGifts$Tape.place -/
theorem vX5_102 : g_VL RX5 102 RX2 yX2_place μX2_place 0 := ⟨g_uwR [755, 756, 757, 93, 758] (by decide +kernel) (by decide +kernel), by decide +kernel, by decide⟩
/-- HeavyGifts$Book.clear -/
theorem vX5_110 : g_VL RX5 110 RX0 yX0_clear μX0_clear 0 := ⟨g_uwR [759, 760, 761, 92, 762] (by decide +kernel) (by decide +kernel), by decide +kernel, by decide⟩
/-- HeavyGifts.count -/
theorem vL_15 : g_VL RL 15 RX5 yX5_count μX5_count 1 := ⟨g_uwR [767, 768, 769, 90, 770] (by decide +kernel) (by decide +kernel), by decide +kernel, by decide⟩
/-- HeavyGifts.person -/
theorem vL_20 : g_VL RL 20 RX5 yX5_person μX5_person 2 := ⟨g_uwR [789, 790, 791, 90, 792] (by decide +kernel) (by decide +kernel), by decide +kernel, by decide⟩
/-- HeavyGifts.requirePerson -/
theorem vX5_132 : g_VL RX5 132 RX5 yX5_requirePerson μX5_requirePerson 1 := ⟨g_uwR [793, 795, 27, 90, 796] (by decide +kernel) (by decide +kernel), by decide +kernel, by decide⟩
/-- HeavyGifts$Town.worthOf -/
theorem vX5_150 : g_VL RX5 150 RX3 yX3_worthOf μX3_worthOf 1 := ⟨g_uwR [797, 460, 461, 91, 462] (by decide +kernel) (by decide +kernel), by decide +kernel, by decide⟩
/-- HeavyGifts$Town.weightOf -/
theorem vX5_153 : g_VL RX5 153 RX3 yX3_weightOf μX3_weightOf 1 := ⟨g_uwR [798, 373, 374, 91, 375] (by decide +kernel) (by decide +kernel), by decide +kernel, by decide⟩
/-- HeavyGifts.thing -/
theorem vL_24 : g_VL RL 24 RX5 yX5_thing μX5_thing 2 := ⟨g_uwR [802, 803, 804, 90, 805] (by decide +kernel) (by decide +kernel), by decide +kernel, by decide⟩
/-- HeavyGifts.requireThing -/
theorem vX5_156 : g_VL RX5 156 RX5 yX5_requireThing μX5_requireThing 1 := ⟨g_uwR [806, 808, 28, 90, 809] (by decide +kernel) (by decide +kernel), by decide +kernel, by decide⟩
/-- HeavyGifts$Town.holderOf -/
theorem vX5_165 : g_VL RX5 165 RX3 yX3_holderOf μX3_holderOf 1 := ⟨g_uwR [810, 486, 487, 91, 488] (by decide +kernel) (by decide +kernel), by decide +kernel, by decide⟩
/-- HeavyGifts.gift -/
theorem vL_27 : g_VL RL 27 RX5 yX5_gift μX5_gift 2 := ⟨g_uwR [814, 815, 816, 90, 817] (by decide +kernel) (by decide +kernel), by decide +kernel, by decide⟩
/-- HeavyGifts$Book.entry -/
theorem vX5_193 : g_VL RX5 193 RX0 yX0_entry μX0_entry 2 := ⟨g_uwR [818, 819, 820, 92, 821] (by decide +kernel) (by decide +kernel), by decide +kernel, by decide⟩
/-- HeavyGifts.sets -/
theorem vL_30 : g_VL RL 30 RX5 yX5_sets μX5_sets 1 := ⟨g_uwR [825, 826, 827, 90, 828] (by decide +kernel) (by decide +kernel), by decide +kernel, by decide⟩
/-- HeavyGifts$Town.nextFit -/
theorem vX5_197 : g_VL RX5 197 RX3 yX3_nextFit μX3_nextFit 2 := ⟨g_uwR [829, 830, 831, 91, 832] (by decide +kernel) (by decide +kernel), by decide +kernel, by decide⟩
/-- HeavyGifts.choice -/
theorem vL_33 : g_VL RL 33 RX5 yX5_choice μX5_choice 2 := ⟨g_uwR [836, 837, 838, 90, 839] (by decide +kernel) (by decide +kernel), by decide +kernel, by decide⟩
/-- HeavyGifts.requireWhat -/
theorem vX5_200 : g_VL RX5 200 RX5 yX5_requireWhat μX5_requireWhat 2 := ⟨g_uwR [840, 842, 29, 90, 843] (by decide +kernel) (by decide +kernel), by decide +kernel, by decide⟩
/-- HeavyGifts$Town.chosenSet -/
theorem vX5_204 : g_VL RX5 204 RX3 yX3_chosenSet μX3_chosenSet 1 := ⟨g_uwR [844, 441, 442, 91, 443] (by decide +kernel) (by decide +kernel), by decide +kernel, by decide⟩
/-- HeavyGifts$Town.sandFor -/
theorem vX5_207 : g_VL RX5 207 RX3 yX3_sandFor μX3_sandFor 2 := ⟨g_uwR [845, 478, 479, 91, 480] (by decide +kernel) (by decide +kernel), by decide +kernel, by decide⟩
/-- HeavyGifts$Town.takerFor -/
theorem vX5_210 : g_VL RX5 210 RX3 yX3_takerFor μX3_takerFor 1 := ⟨g_uwR [846, 482, 483, 91, 484] (by decide +kernel) (by decide +kernel), by decide +kernel, by decide⟩
/-- HeavyGifts.gap -/
theorem vL_36 : g_VL RL 36 RX5 yX5_gap μX5_gap 1 := ⟨g_uwR [850, 851, 852, 90, 853] (by decide +kernel) (by decide +kernel), by decide +kernel, by decide⟩
/-- HeavyGifts$Town.nearestOff -/
theorem vX5_213 : g_VL RX5 213 RX3 yX3_nearestOff μX3_nearestOff 1 := ⟨g_uwR [854, 855, 856, 91, 857] (by decide +kernel) (by decide +kernel), by decide +kernel, by decide⟩
/-- HeavyGifts.week -/
theorem vL_39 : g_VL RL 39 RX5 yX5_week μX5_week 1 := ⟨g_uwR [863, 864, 865, 90, 866] (by decide +kernel) (by decide +kernel), by decide +kernel, by decide⟩
/-- HeavyGifts$Week.tryAll -/
theorem vX5_221 : g_VL RX5 221 RX4 yX4_tryAll μX4_tryAll 1 := ⟨g_uwR [867, 868, 869, 94, 870] (by decide +kernel) (by decide +kernel), by decide +kernel, by decide⟩
/-- HeavyGifts$Town.copyFrom -/
theorem vX4_32 : g_VL RX4 32 RX3 yX3_copyFrom μX3_copyFrom 1 := ⟨g_uwR [871, 430, 431, 91, 432] (by decide +kernel) (by decide +kernel), by decide +kernel, by decide⟩
/-- HeavyGifts$Week.tryRest -/
theorem vX4_42 : g_VL RX4 42 RX4 yX4_tryRest μX4_tryRest 2 := ⟨g_uwR [872, 874, 30, 94, 875] (by decide +kernel) (by decide +kernel), by decide +kernel, by decide⟩
/-- HeavyGifts$Week.isSpent -/
theorem vX4_52 : g_VL RX4 52 RX4 yX4_isSpent μX4_isSpent 0 := ⟨g_uwR [877, 878, 879, 94, 880] (by decide +kernel) (by decide +kernel), by decide +kernel, by decide⟩
/-- HeavyGifts$Week.tryTurn -/
theorem vX4_56 : g_VL RX4 56 RX4 yX4_tryTurn μX4_tryTurn 3 := ⟨g_uwR [881, 883, 31, 94, 884] (by decide +kernel) (by decide +kernel), by decide +kernel, by decide⟩
/-- HeavyGifts$Town.takerFor -/
theorem vX4_60 : g_VL RX4 60 RX3 yX3_takerFor μX3_takerFor 1 := ⟨g_uwR [885, 482, 483, 91, 484] (by decide +kernel) (by decide +kernel), by decide +kernel, by decide⟩
/-- HeavyGifts$Town.nextFit -/
theorem vX4_64 : g_VL RX4 64 RX3 yX3_nextFit μX3_nextFit 2 := ⟨g_uwR [886, 830, 831, 91, 832] (by decide +kernel) (by decide +kernel), by decide +kernel, by decide⟩
/-- HeavyGifts$Town.sandFor -/
theorem vX4_67 : g_VL RX4 67 RX3 yX3_sandFor μX3_sandFor 2 := ⟨g_uwR [887, 478, 479, 91, 480] (by decide +kernel) (by decide +kernel), by decide +kernel, by decide⟩
/-- HeavyGifts$Town.hand -/
theorem vX4_70 : g_VL RX4 70 RX3 yX3_hand μX3_hand 4 := ⟨g_uwR [888, 405, 406, 91, 407] (by decide +kernel) (by decide +kernel), by decide +kernel, by decide⟩
/-- HeavyGifts.keepOrder -/
theorem vX5_225 : g_VL RX5 225 RX5 yX5_keepOrder μX5_keepOrder 0 := ⟨g_uwR [889, 891, 32, 90, 892] (by decide +kernel) (by decide +kernel), by decide +kernel, by decide⟩
/-- HeavyGifts$Week.length -/
theorem vX5_237 : g_VL RX5 237 RX4 yX4_length μX4_length 0 := ⟨g_uwR [893, 894, 895, 94, 896] (by decide +kernel) (by decide +kernel), by decide +kernel, by decide⟩
/-- HeavyGifts$Week.personAt -/
theorem vX5_241 : g_VL RX5 241 RX4 yX4_personAt μX4_personAt 1 := ⟨g_uwR [898, 899, 900, 94, 901] (by decide +kernel) (by decide +kernel), by decide +kernel, by decide⟩
/-- HeavyGifts$Week.isSpent -/
theorem vX5_228 : g_VL RX5 228 RX4 yX4_isSpent μX4_isSpent 0 := ⟨g_uwR [902, 878, 879, 94, 880] (by decide +kernel) (by decide +kernel), by decide +kernel, by decide⟩
/-- HeavyGifts$Week.most -/
theorem vX5_231 : g_VL RX5 231 RX4 yX4_most μX4_most 0 := ⟨g_uwR [903, 904, 905, 94, 906] (by decide +kernel) (by decide +kernel), by decide +kernel, by decide⟩
/-- HeavyGifts$Week.tries -/
theorem vX5_234 : g_VL RX5 234 RX4 yX4_tries μX4_tries 0 := ⟨g_uwR [907, 908, 909, 94, 910] (by decide +kernel) (by decide +kernel), by decide +kernel, by decide⟩
/-- HeavyGifts.order -/
theorem vL_42 : g_VL RL 42 RX5 yX5_order μX5_order 1 := ⟨g_uwR [914, 915, 916, 90, 917] (by decide +kernel) (by decide +kernel), by decide +kernel, by decide⟩
/-- HeavyGifts.get -/
theorem vL_45 : g_VL RL 45 RX5 yX5_get μX5_get 2 := ⟨g_uwR [921, 922, 923, 90, 924] (by decide +kernel) (by decide +kernel), by decide +kernel, by decide⟩
/-- HeavyGifts$Getting.fewestGifts -/
theorem vX5_247 : g_VL RX5 247 RX1 yX1_fewestGifts μX1_fewestGifts 3 := ⟨g_uwR [954, 955, 956, 109, 957] (by decide +kernel) (by decide +kernel), by decide +kernel, by decide⟩
/-- HeavyGifts$Town.copyFrom -/
theorem vX1_37 : g_VL RX1 37 RX3 yX3_copyFrom μX3_copyFrom 1 := ⟨g_uwR [958, 430, 431, 91, 432] (by decide +kernel) (by decide +kernel), by decide +kernel, by decide⟩
/-- HeavyGifts$Getting.noteState -/
theorem vX1_47 : g_VL RX1 47 RX1 yX1_noteState μX1_noteState 0 := ⟨g_uwR [962, 964, 33, 109, 965] (by decide +kernel) (by decide +kernel), by decide +kernel, by decide⟩
/-- HeavyGifts$Getting.pack -/
theorem vX1_91 : g_VL RX1 91 RX1 yX1_pack μX1_pack 0 := ⟨g_uwR [966, 968, 34, 109, 969] (by decide +kernel) (by decide +kernel), by decide +kernel, by decide⟩
/-- HeavyGifts$Getting.sumOfPacked -/
theorem vX1_94 : g_VL RX1 94 RX1 yX1_sumOfPacked μX1_sumOfPacked 0 := ⟨g_uwR [970, 972, 35, 109, 973] (by decide +kernel) (by decide +kernel), by decide +kernel, by decide⟩
/-- HeavyGifts$Getting.isPacked -/
theorem vX1_98 : g_VL RX1 98 RX1 yX1_isPacked μX1_isPacked 1 := ⟨g_uwR [975, 977, 36, 109, 978] (by decide +kernel) (by decide +kernel), by decide +kernel, by decide⟩
/-- HeavyGifts$Getting.load -/
theorem vX1_50 : g_VL RX1 50 RX1 yX1_load μX1_load 1 := ⟨g_uwR [980, 982, 37, 109, 983] (by decide +kernel) (by decide +kernel), by decide +kernel, by decide⟩
/-- HeavyGifts$Town.holds -/
theorem vX1_54 : g_VL RX1 54 RX3 yX3_holds μX3_holds 2 := ⟨g_uwR [984, 490, 491, 91, 492] (by decide +kernel) (by decide +kernel), by decide +kernel, by decide⟩
/-- HeavyGifts$Getting.spread -/
theorem vX1_58 : g_VL RX1 58 RX1 yX1_spread μX1_spread 2 := ⟨g_uwR [985, 987, 38, 109, 988] (by decide +kernel) (by decide +kernel), by decide +kernel, by decide⟩
/-- HeavyGifts$Getting.spreadBySets -/
theorem vX1_65 : g_VL RX1 65 RX1 yX1_spreadBySets μX1_spreadBySets 2 := ⟨g_uwR [989, 991, 39, 109, 992] (by decide +kernel) (by decide +kernel), by decide +kernel, by decide⟩
/-- HeavyGifts$Town.nextFit -/
theorem vX1_72 : g_VL RX1 72 RX3 yX3_nextFit μX3_nextFit 2 := ⟨g_uwR [993, 830, 831, 91, 832] (by decide +kernel) (by decide +kernel), by decide +kernel, by decide⟩
/-- HeavyGifts$Getting.spreadSet -/
theorem vX1_76 : g_VL RX1 76 RX1 yX1_spreadSet μX1_spreadSet 3 := ⟨g_uwR [994, 996, 40, 109, 997] (by decide +kernel) (by decide +kernel), by decide +kernel, by decide⟩
/-- HeavyGifts$Town.sandFor -/
theorem vX1_80 : g_VL RX1 80 RX3 yX3_sandFor μX3_sandFor 2 := ⟨g_uwR [998, 478, 479, 91, 480] (by decide +kernel) (by decide +kernel), by decide +kernel, by decide⟩
/-- HeavyGifts$Town.makeGift -/
theorem vX1_87 : g_VL RX1 87 RX3 yX3_makeGift μX3_makeGift 4 := ⟨g_uwR [999, 401, 402, 91, 403] (by decide +kernel) (by decide +kernel), by decide +kernel, by decide⟩
/-- HeavyGifts$Town.giveByChoice -/
theorem vX1_68 : g_VL RX1 68 RX3 yX3_giveByChoice μX3_giveByChoice 1 := ⟨g_uwR [1000, 437, 438, 91, 439] (by decide +kernel) (by decide +kernel), by decide +kernel, by decide⟩
/-- HeavyGifts.cut -/
theorem vL_48 : g_VL RL 48 RX5 yX5_cut μX5_cut 2 := ⟨g_uwR [1004, 1005, 1006, 90, 1007] (by decide +kernel) (by decide +kernel), by decide +kernel, by decide⟩
/-- HeavyGifts$Town.mayAnswer -/
theorem vX5_251 : g_VL RX5 251 RX3 yX3_mayAnswer μX3_mayAnswer 1 := ⟨g_uwR [1008, 445, 446, 91, 447] (by decide +kernel) (by decide +kernel), by decide +kernel, by decide⟩
/-- HeavyGifts$Town.holds -/
theorem vX5_254 : g_VL RX5 254 RX3 yX3_holds μX3_holds 2 := ⟨g_uwR [1009, 490, 491, 91, 492] (by decide +kernel) (by decide +kernel), by decide +kernel, by decide⟩
/-- HeavyGifts$Town.cutHelps -/
theorem vX5_258 : g_VL RX5 258 RX3 yX3_cutHelps μX3_cutHelps 3 := ⟨g_uwR [1010, 1011, 1012, 91, 1013] (by decide +kernel) (by decide +kernel), by decide +kernel, by decide⟩
/-- HeavyGifts$Town.fitsWithPart -/
theorem vX3_146 : g_VL RX3 146 RX3 yX3_fitsWithPart μX3_fitsWithPart 3 := ⟨g_uwR [1014, 1016, 41, 91, 1017] (by decide +kernel) (by decide +kernel), by decide +kernel, by decide⟩
/-- HeavyGifts.keep -/
theorem vL_51 : g_VL RL 51 RX5 yX5_keep μX5_keep 2 := ⟨g_uwR [1021, 1022, 1023, 90, 1024] (by decide +kernel) (by decide +kernel), by decide +kernel, by decide⟩
/-- HeavyGifts.requireWeights -/
theorem vX5_262 : g_VL RX5 262 RX5 yX5_requireWeights μX5_requireWeights 1 := ⟨g_uwR [1025, 1027, 42, 90, 1028] (by decide +kernel) (by decide +kernel), by decide +kernel, by decide⟩
/-- HeavyGifts.fewest -/
theorem vL_54 : g_VL RL 54 RX5 yX5_fewest μX5_fewest 1 := ⟨g_uwR [1032, 1033, 1034, 90, 1035] (by decide +kernel) (by decide +kernel), by decide +kernel, by decide⟩
/-- HeavyGifts.sortByWeight -/
theorem vX5_265 : g_VL RX5 265 RX5 yX5_sortByWeight μX5_sortByWeight 0 := ⟨g_uwR [1036, 1038, 43, 90, 1039] (by decide +kernel) (by decide +kernel), by decide +kernel, by decide⟩
/-- HeavyGifts.makesAllTo -/
theorem vX5_273 : g_VL RX5 273 RX5 yX5_makesAllTo μX5_makesAllTo 2 := ⟨g_uwR [1041, 1043, 44, 90, 1044] (by decide +kernel) (by decide +kernel), by decide +kernel, by decide⟩
/-- HeavyGifts.answers -/
theorem vL_57 : g_VL RL 57 RX5 yX5_answers μX5_answers 3 := ⟨g_uwR [1048, 1049, 1050, 90, 1051] (by decide +kernel) (by decide +kernel), by decide +kernel, by decide⟩
/-- HeavyGifts.markMadeByThings -/
theorem vX5_276 : g_VL RX5 276 RX5 yX5_markMadeByThings μX5_markMadeByThings 2 := ⟨g_uwR [1052, 1054, 45, 90, 1055] (by decide +kernel) (by decide +kernel), by decide +kernel, by decide⟩
/-- HeavyGifts.round -/
theorem vL_61 : g_VL RL 61 RX5 yX5_round μX5_round 2 := ⟨g_uwR [1060, 1061, 1062, 90, 1063] (by decide +kernel) (by decide +kernel), by decide +kernel, by decide⟩
/-- HeavyGifts.days -/
theorem vL_64 : g_VL RL 64 RX5 yX5_days μX5_days 1 := ⟨g_uwR [1067, 1068, 1069, 90, 1070] (by decide +kernel) (by decide +kernel), by decide +kernel, by decide⟩
/-- HeavyGifts.passDayByBook -/
theorem vX5_288 : g_VL RX5 288 RX5 yX5_passDayByBook μX5_passDayByBook 0 := ⟨g_uwR [1071, 1073, 46, 90, 1074] (by decide +kernel) (by decide +kernel), by decide +kernel, by decide⟩
/-- HeavyGiftsModel.begin -/
theorem sX6_124 : g_SL RX6 124 yX6_begin μX6_begin 1 := ⟨g_uwR [1088, 1089, 95, 1090] (by decide +kernel) (by decide +kernel), by decide +kernel, by decide⟩
/-- HeavyGiftsModel.thrown -/
theorem vL_82 : g_VL RL 82 RX6 yX6_thrown μX6_thrown 0 := ⟨g_uwR [1258, 1259, 1260, 95, 1261] (by decide +kernel) (by decide +kernel), by decide +kernel, by decide⟩
/-- HeavyGiftsModel.feed -/
theorem vL_75 : g_VL RL 75 RX6 yX6_feed μX6_feed 5 := ⟨g_uwR [1262, 1263, 1264, 95, 1265] (by decide +kernel) (by decide +kernel), by decide +kernel, by decide⟩
/-- HeavyGiftsModel.town -/
theorem vL_81 : g_VL RL 81 RX6 yX6_town μX6_town 1 := ⟨g_uwR [1266, 1267, 1268, 95, 1269] (by decide +kernel) (by decide +kernel), by decide +kernel, by decide⟩
/-- HeavyGiftsModel.fail -/
theorem vX6_243 : g_VL RX6 243 RX6 yX6_fail μX6_fail 1 := ⟨g_uwR [1270, 1272, 47, 95, 1273] (by decide +kernel) (by decide +kernel), by decide +kernel, by decide⟩
/-- HeavyGiftsModel.stepOn -/
theorem vX6_192 : g_VL RX6 192 RX6 yX6_stepOn μX6_stepOn 0 := ⟨g_uwR [1274, 1276, 48, 95, 1277] (by decide +kernel) (by decide +kernel), by decide +kernel, by decide⟩
/-- HeavyGiftsModel.byteAt -/
theorem vX6_144 : g_VL RX6 144 RX6 yX6_byteAt μX6_byteAt 1 := ⟨g_uwR [1278, 1280, 49, 95, 1281] (by decide +kernel) (by decide +kernel), by decide +kernel, by decide⟩
/-- HeavyGiftsModel.isLetter -/
theorem sX6_154 : g_SL RX6 154 yX6_isLetter μX6_isLetter 1 := ⟨g_uwR [1282, 1283, 95, 1284] (by decide +kernel) (by decide +kernel), by decide +kernel, by decide⟩
/-- HeavyGiftsModel.isDigit -/
theorem sX6_158 : g_SL RX6 158 yX6_isDigit μX6_isDigit 1 := ⟨g_uwR [1285, 1286, 95, 1287] (by decide +kernel) (by decide +kernel), by decide +kernel, by decide⟩
/-- HeavyGiftsModel.readLine -/
theorem vX6_246 : g_VL RX6 246 RX6 yX6_readLine μX6_readLine 1 := ⟨g_uwR [1290, 1292, 50, 95, 1293] (by decide +kernel) (by decide +kernel), by decide +kernel, by decide⟩
/-- HeavyGiftsModel.is -/
theorem vX6_188 : g_VL RX6 188 RX6 yX6_is μX6_is 1 := ⟨g_uwR [1295, 1297, 51, 95, 1298] (by decide +kernel) (by decide +kernel), by decide +kernel, by decide⟩
/-- HeavyGiftsModel.wrong -/
theorem vX6_195 : g_VL RX6 195 RX6 yX6_wrong μX6_wrong 1 := ⟨g_uwR [1302, 1304, 52, 95, 1305] (by decide +kernel) (by decide +kernel), by decide +kernel, by decide⟩
/-- HeavyGiftsModel.readOne -/
theorem vX6_227 : g_VL RX6 227 RX6 yX6_readOne μX6_readOne 0 := ⟨g_uwR [1307, 1309, 53, 95, 1310] (by decide +kernel) (by decide +kernel), by decide +kernel, by decide⟩
/-- HeavyGiftsModel.passes -/
theorem vX6_204 : g_VL RX6 204 RX6 yX6_passes μX6_passes 1 := ⟨g_uwR [1312, 1314, 54, 95, 1315] (by decide +kernel) (by decide +kernel), by decide +kernel, by decide⟩
/-- HeavyGiftsModel.readNumber -/
theorem vX6_207 : g_VL RX6 207 RX6 yX6_readNumber μX6_readNumber 2 := ⟨g_uwR [1316, 1318, 55, 95, 1319] (by decide +kernel) (by decide +kernel), by decide +kernel, by decide⟩
/-- HeavyGiftsModel.readThing -/
theorem vX6_232 : g_VL RX6 232 RX6 yX6_readThing μX6_readThing 0 := ⟨g_uwR [1321, 1323, 56, 95, 1324] (by decide +kernel) (by decide +kernel), by decide +kernel, by decide⟩
/-- HeavyGiftsModel.readPerson -/
theorem vX6_210 : g_VL RX6 210 RX6 yX6_readPerson μX6_readPerson 0 := ⟨g_uwR [1325, 1327, 57, 95, 1328] (by decide +kernel) (by decide +kernel), by decide +kernel, by decide⟩
/-- HeavyGiftsModel.personNow -/
theorem vX6_199 : g_VL RX6 199 RX6 yX6_personNow μX6_personNow 0 := ⟨g_uwR [1329, 1331, 58, 95, 1332] (by decide +kernel) (by decide +kernel), by decide +kernel, by decide⟩
/-- HeavyGiftsModel.readOwes -/
theorem vX6_237 : g_VL RX6 237 RX6 yX6_readOwes μX6_readOwes 0 := ⟨g_uwR [1335, 1337, 59, 95, 1338] (by decide +kernel) (by decide +kernel), by decide +kernel, by decide⟩
/-- HeavyGiftsModel.readLaw -/
theorem vX6_240 : g_VL RX6 240 RX6 yX6_readLaw μX6_readLaw 0 := ⟨g_uwR [1340, 1342, 60, 95, 1343] (by decide +kernel) (by decide +kernel), by decide +kernel, by decide⟩
/-- HeavyGiftsModel.copy -/
theorem sX6_249 : g_SL RX6 249 yX6_copy μX6_copy 2 := ⟨g_uwR [1346, 1347, 95, 1348] (by decide +kernel) (by decide +kernel), by decide +kernel, by decide⟩
/-- HeavyGiftsModel.fault -/
theorem vL_89 : g_VL RL 89 RX6 yX6_fault μX6_fault 0 := ⟨g_uwR [1349, 1350, 1351, 95, 1352] (by decide +kernel) (by decide +kernel), by decide +kernel, by decide⟩
/-- HeavyGiftsModel.count -/
theorem vL_92 : g_VL RL 92 RX6 yX6_count μX6_count 1 := ⟨g_uwR [1353, 1354, 1355, 95, 1356] (by decide +kernel) (by decide +kernel), by decide +kernel, by decide⟩
/-- HeavyGiftsModel.isIn -/
theorem sX6_131 : g_SL RX6 131 yX6_isIn μX6_isIn 3 := ⟨g_uwR [1357, 1358, 95, 1359] (by decide +kernel) (by decide +kernel), by decide +kernel, by decide⟩
/-- HeavyGiftsModel.person -/
theorem vL_96 : g_VL RL 96 RX6 yX6_person μX6_person 2 := ⟨g_uwR [1360, 1361, 1362, 95, 1363] (by decide +kernel) (by decide +kernel), by decide +kernel, by decide⟩
/-- HeavyGiftsModel.isPerson -/
theorem vX6_263 : g_VL RX6 263 RX6 yX6_isPerson μX6_isPerson 1 := ⟨g_uwR [1364, 1366, 61, 95, 1367] (by decide +kernel) (by decide +kernel), by decide +kernel, by decide⟩
/-- HeavyGiftsModel.hasOf -/
theorem vX6_266 : g_VL RX6 266 RX6 yX6_hasOf μX6_hasOf 2 := ⟨g_uwR [1368, 1370, 62, 95, 1371] (by decide +kernel) (by decide +kernel), by decide +kernel, by decide⟩
/-- HeavyGiftsModel.worthOf -/
theorem vX6_270 : g_VL RX6 270 RX6 yX6_worthOf μX6_worthOf 1 := ⟨g_uwR [1372, 1374, 63, 95, 1375] (by decide +kernel) (by decide +kernel), by decide +kernel, by decide⟩
/-- HeavyGiftsModel.weightOf -/
theorem vX6_273 : g_VL RX6 273 RX6 yX6_weightOf μX6_weightOf 1 := ⟨g_uwR [1376, 1378, 64, 95, 1379] (by decide +kernel) (by decide +kernel), by decide +kernel, by decide⟩
/-- HeavyGiftsModel.thing -/
theorem vL_99 : g_VL RL 99 RX6 yX6_thing μX6_thing 2 := ⟨g_uwR [1380, 1381, 1382, 95, 1383] (by decide +kernel) (by decide +kernel), by decide +kernel, by decide⟩
/-- HeavyGiftsModel.isThing -/
theorem vX6_276 : g_VL RX6 276 RX6 yX6_isThing μX6_isThing 1 := ⟨g_uwR [1384, 1386, 65, 95, 1387] (by decide +kernel) (by decide +kernel), by decide +kernel, by decide⟩
/-- HeavyGiftsModel.judge -/
theorem vL_108 : g_VL RL 108 RX6 yX6_judge μX6_judge 4 := ⟨g_uwR [1388, 1389, 1390, 95, 1391] (by decide +kernel) (by decide +kernel), by decide +kernel, by decide⟩
/-- HeavyGiftsModel.troubleOf -/
theorem vX6_289 : g_VL RX6 289 RX6 yX6_troubleOf μX6_troubleOf 4 := ⟨g_uwR [1392, 1394, 66, 95, 1395] (by decide +kernel) (by decide +kernel), by decide +kernel, by decide⟩
/-- HeavyGiftsModel.lightest -/
theorem vX6_279 : g_VL RX6 279 RX6 yX6_lightest μX6_lightest 1 := ⟨g_uwR [1396, 1398, 67, 95, 1399] (by decide +kernel) (by decide +kernel), by decide +kernel, by decide⟩
/-- HeavyGiftsModel.give -/
theorem vL_104 : g_VL RL 104 RX6 yX6_give μX6_give 4 := ⟨g_uwR [1401, 1402, 1403, 95, 1404] (by decide +kernel) (by decide +kernel), by decide +kernel, by decide⟩
/-- HeavyGiftsModel.makeNow -/
theorem vX6_293 : g_VL RX6 293 RX6 yX6_makeNow μX6_makeNow 4 := ⟨g_uwR [1405, 1407, 68, 95, 1408] (by decide +kernel) (by decide +kernel), by decide +kernel, by decide⟩
/-- HeavyGiftsModel.make -/
theorem vX6_285 : g_VL RX6 285 RX6 yX6_make μX6_make 5 := ⟨g_uwR [1409, 1411, 69, 95, 1412] (by decide +kernel) (by decide +kernel), by decide +kernel, by decide⟩
/-- HeavyGiftsModel.undo -/
theorem vL_112 : g_VL RL 112 RX6 yX6_undo μX6_undo 0 := ⟨g_uwR [1413, 1414, 1415, 95, 1416] (by decide +kernel) (by decide +kernel), by decide +kernel, by decide⟩
/-- HeavyGiftsModel.gift -/
theorem vL_115 : g_VL RL 115 RX6 yX6_gift μX6_gift 2 := ⟨g_uwR [1417, 1418, 1419, 95, 1420] (by decide +kernel) (by decide +kernel), by decide +kernel, by decide⟩
/-- HeavyGiftsModel.sets -/
theorem vL_118 : g_VL RL 118 RX6 yX6_sets μX6_sets 1 := ⟨g_uwR [1421, 1422, 1423, 95, 1424] (by decide +kernel) (by decide +kernel), by decide +kernel, by decide⟩
/-- HeavyGiftsModel.fits -/
theorem vX6_301 : g_VL RX6 301 RX6 yX6_fits μX6_fits 3 := ⟨g_uwR [1425, 1427, 70, 95, 1428] (by decide +kernel) (by decide +kernel), by decide +kernel, by decide⟩
/-- HeavyGiftsModel.sandFor -/
theorem vX6_297 : g_VL RX6 297 RX6 yX6_sandFor μX6_sandFor 4 := ⟨g_uwR [1429, 1431, 71, 95, 1432] (by decide +kernel) (by decide +kernel), by decide +kernel, by decide⟩
/-- HeavyGiftsModel.choice -/
theorem vL_121 : g_VL RL 121 RX6 yX6_choice μX6_choice 2 := ⟨g_uwR [1433, 1434, 1435, 95, 1436] (by decide +kernel) (by decide +kernel), by decide +kernel, by decide⟩
/-- HeavyGiftsModel.choiceOf -/
theorem vX6_311 : g_VL RX6 311 RX6 yX6_choiceOf μX6_choiceOf 3 := ⟨g_uwR [1437, 1439, 72, 95, 1440] (by decide +kernel) (by decide +kernel), by decide +kernel, by decide⟩
/-- HeavyGiftsModel.rankOf -/
theorem vX6_308 : g_VL RX6 308 RX6 yX6_rankOf μX6_rankOf 2 := ⟨g_uwR [1441, 1443, 73, 95, 1444] (by decide +kernel) (by decide +kernel), by decide +kernel, by decide⟩
/-- HeavyGiftsModel.bitsOf -/
theorem sX6_305 : g_SL RX6 305 yX6_bitsOf μX6_bitsOf 1 := ⟨g_uwR [1445, 1446, 95, 1447] (by decide +kernel) (by decide +kernel), by decide +kernel, by decide⟩
/-- HeavyGiftsModel.whomOf -/
theorem vX6_315 : g_VL RX6 315 RX6 yX6_whomOf μX6_whomOf 3 := ⟨g_uwR [1448, 1450, 74, 95, 1451] (by decide +kernel) (by decide +kernel), by decide +kernel, by decide⟩
/-- HeavyGiftsModel.gap -/
theorem vL_124 : g_VL RL 124 RX6 yX6_gap μX6_gap 1 := ⟨g_uwR [1452, 1453, 1454, 95, 1455] (by decide +kernel) (by decide +kernel), by decide +kernel, by decide⟩
/-- HeavyGiftsModel.week -/
theorem vL_127 : g_VL RL 127 RX6 yX6_week μX6_week 1 := ⟨g_uwR [1459, 1460, 1461, 95, 1462] (by decide +kernel) (by decide +kernel), by decide +kernel, by decide⟩
/-- HeavyGiftsModel.weekOn -/
theorem vX6_343 : g_VL RX6 343 RX6 yX6_weekOn μX6_weekOn 2 := ⟨g_uwR [1463, 1465, 75, 95, 1466] (by decide +kernel) (by decide +kernel), by decide +kernel, by decide⟩
/-- HeavyGiftsModel.answerOn -/
theorem vX6_333 : g_VL RX6 333 RX6 yX6_answerOn μX6_answerOn 3 := ⟨g_uwR [1467, 1469, 76, 95, 1470] (by decide +kernel) (by decide +kernel), by decide +kernel, by decide⟩
/-- HeavyGiftsModel.loadRow -/
theorem vX6_337 : g_VL RX6 337 RX6 yX6_loadRow μX6_loadRow 1 := ⟨g_uwR [1471, 1473, 77, 95, 1474] (by decide +kernel) (by decide +kernel), by decide +kernel, by decide⟩
/-- HeavyGiftsModel.order -/
theorem vL_130 : g_VL RL 130 RX6 yX6_order μX6_order 1 := ⟨g_uwR [1475, 1476, 1477, 95, 1478] (by decide +kernel) (by decide +kernel), by decide +kernel, by decide⟩
/-- HeavyGiftsModel.get -/
theorem vL_133 : g_VL RL 133 RX6 yX6_get μX6_get 2 := ⟨g_uwR [1479, 1480, 1481, 95, 1482] (by decide +kernel) (by decide +kernel), by decide +kernel, by decide⟩
/-- HeavyGiftsModel.come -/
theorem vX6_361 : g_VL RX6 361 RX6 yX6_come μX6_come 2 := ⟨g_uwR [1483, 1485, 78, 95, 1486] (by decide +kernel) (by decide +kernel), by decide +kernel, by decide⟩
/-- HeavyGiftsModel.foldOf -/
theorem sX6_347 : g_SL RX6 347 yX6_foldOf μX6_foldOf 1 := ⟨g_uwR [1487, 1488, 95, 1489] (by decide +kernel) (by decide +kernel), by decide +kernel, by decide⟩
/-- HeavyGiftsModel.isState -/
theorem vX6_351 : g_VL RX6 351 RX6 yX6_isState μX6_isState 2 := ⟨g_uwR [1490, 1492, 79, 95, 1493] (by decide +kernel) (by decide +kernel), by decide +kernel, by decide⟩
/-- HeavyGiftsModel.goOn -/
theorem vX6_368 : g_VL RX6 368 RX6 yX6_goOn μX6_goOn 3 := ⟨g_uwR [1494, 1496, 80, 95, 1497] (by decide +kernel) (by decide +kernel), by decide +kernel, by decide⟩
/-- HeavyGiftsModel.giveOn -/
theorem vX6_365 : g_VL RX6 365 RX6 yX6_giveOn μX6_giveOn 4 := ⟨g_uwR [1498, 1500, 81, 95, 1501] (by decide +kernel) (by decide +kernel), by decide +kernel, by decide⟩
/-- HeavyGiftsModel.cut -/
theorem vL_136 : g_VL RL 136 RX6 yX6_cut μX6_cut 2 := ⟨g_uwR [1502, 1503, 1504, 95, 1505] (by decide +kernel) (by decide +kernel), by decide +kernel, by decide⟩
/-- HeavyGiftsModel.anyFits -/
theorem vX6_371 : g_VL RX6 371 RX6 yX6_anyFits μX6_anyFits 1 := ⟨g_uwR [1506, 1508, 82, 95, 1509] (by decide +kernel) (by decide +kernel), by decide +kernel, by decide⟩
/-- HeavyGiftsModel.fitsWith -/
theorem vX6_374 : g_VL RX6 374 RX6 yX6_fitsWith μX6_fitsWith 3 := ⟨g_uwR [1510, 1512, 83, 95, 1513] (by decide +kernel) (by decide +kernel), by decide +kernel, by decide⟩
/-- HeavyGiftsModel.keep -/
theorem vL_139 : g_VL RL 139 RX6 yX6_keep μX6_keep 2 := ⟨g_uwR [1514, 1515, 1516, 95, 1517] (by decide +kernel) (by decide +kernel), by decide +kernel, by decide⟩
/-- HeavyGiftsModel.fewest -/
theorem vL_142 : g_VL RL 142 RX6 yX6_fewest μX6_fewest 1 := ⟨g_uwR [1518, 1519, 1520, 95, 1521] (by decide +kernel) (by decide +kernel), by decide +kernel, by decide⟩
/-- HeavyGiftsModel.tellWeights -/
theorem vX6_377 : g_VL RX6 377 RX6 yX6_tellWeights μX6_tellWeights 2 := ⟨g_uwR [1522, 1524, 84, 95, 1525] (by decide +kernel) (by decide +kernel), by decide +kernel, by decide⟩
/-- HeavyGiftsModel.madeUpTo -/
theorem vX6_380 : g_VL RX6 380 RX6 yX6_madeUpTo μX6_madeUpTo 1 := ⟨g_uwR [1526, 1528, 85, 95, 1529] (by decide +kernel) (by decide +kernel), by decide +kernel, by decide⟩
/-- HeavyGiftsModel.answers -/
theorem vL_146 : g_VL RL 146 RX6 yX6_answers μX6_answers 3 := ⟨g_uwR [1530, 1531, 1532, 95, 1533] (by decide +kernel) (by decide +kernel), by decide +kernel, by decide⟩
/-- HeavyGiftsModel.round -/
theorem vL_149 : g_VL RL 149 RX6 yX6_round μX6_round 2 := ⟨g_uwR [1534, 1535, 1536, 95, 1537] (by decide +kernel) (by decide +kernel), by decide +kernel, by decide⟩
/-- HeavyGiftsModel.days -/
theorem vL_152 : g_VL RL 152 RX6 yX6_days μX6_days 1 := ⟨g_uwR [1538, 1539, 1540, 95, 1541] (by decide +kernel) (by decide +kernel), by decide +kernel, by decide⟩
/-- HeavyGiftsModel.dry -/
theorem vX6_383 : g_VL RX6 383 RX6 yX6_dry μX6_dry 0 := ⟨g_uwR [1542, 1544, 86, 95, 1545] (by decide +kernel) (by decide +kernel), by decide +kernel, by decide⟩
/-- HeavyGiftsModel.still -/
theorem vL_156 : g_VL RL 156 RX6 yX6_still μX6_still 0 := ⟨g_uwR [1546, 1547, 1548, 95, 1549] (by decide +kernel) (by decide +kernel), by decide +kernel, by decide⟩
/-- HeavyGiftsModel.stillFrom -/
theorem vX6_390 : g_VL RX6 390 RX6 yX6_stillFrom μX6_stillFrom 0 := ⟨g_uwR [1550, 1552, 87, 95, 1553] (by decide +kernel) (by decide +kernel), by decide +kernel, by decide⟩
/-- HeavyGiftsModel.isStill -/
theorem vX6_386 : g_VL RX6 386 RX6 yX6_isStill μX6_isStill 2 := ⟨g_uwR [1554, 1556, 88, 95, 1557] (by decide +kernel) (by decide +kernel), by decide +kernel, by decide⟩
/-- HeavyGiftsModel.image -/
theorem vL_160 : g_VL RL 160 RX6 yX6_image μX6_image 0 := ⟨g_uwR [1558, 1559, 1560, 95, 1561] (by decide +kernel) (by decide +kernel), by decide +kernel, by decide⟩
/-- HeavyGiftsModel.restore -/
theorem vL_165 : g_VL RL 165 RX6 yX6_restore μX6_restore 0 := ⟨g_uwR [1562, 1563, 1564, 95, 1565] (by decide +kernel) (by decide +kernel), by decide +kernel, by decide⟩
