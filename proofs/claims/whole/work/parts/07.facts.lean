/-! ===== facts of the tables, by program: words by their places ===== -/
theorem inW_of (ws : List Cond) (ps : List Nat) (h : ws = ps.filterMap (fun i => lw_tbl[i]?)) (g : ws.all goodWord = true) : ∀ w ∈ ws, w ∈ TW := by
  intro w hw
  have h1 := List.all_eq_true.mp g w hw
  rw [h] at hw
  obtain ⟨i, -, hi⟩ := List.mem_filterMap.mp hw
  exact TW_of (List.mem_of_getElem? hi) h1
theorem inW_X0 : ∀ w ∈ u_ws RX0 TX0 13, w ∈ TW := inW_of _ [296, 298, 300, 302, 304, 306, 308, 310, 312, 314, 316, 318, 320] (by decide +kernel) (by decide +kernel)
theorem inW_X1 : ∀ w ∈ u_ws RX1 TX1 6, w ∈ TW := inW_of _ [153, 155, 157, 159, 161, 163] (by decide +kernel) (by decide +kernel)
theorem inW_X3 : ∀ w ∈ u_ws RX3 TX3 6, w ∈ TW := inW_of _ [248, 250, 252, 254, 256, 258] (by decide +kernel) (by decide +kernel)
theorem inW_X4 : ∀ w ∈ u_ws RX4 TX4 6, w ∈ TW := inW_of _ [185, 187, 189, 191, 193, 195] (by decide +kernel) (by decide +kernel)
theorem inW_X5 : ∀ w ∈ u_ws RX5 TX5 2, w ∈ TW := inW_of _ [227, 229] (by decide +kernel) (by decide +kernel)
theorem inW_X6 : ∀ w ∈ u_ws RX6 TX6 3, w ∈ TW := inW_of _ [390, 392, 394] (by decide +kernel) (by decide +kernel)
theorem inW_X7 : ∀ w ∈ u_ws RX7 TX7 8, w ∈ TW := inW_of _ [414, 416, 418, 420, 422, 424, 426, 428] (by decide +kernel) (by decide +kernel)
theorem inW_X8 : ∀ w ∈ u_ws RX8 TX8 4, w ∈ TW := inW_of _ [119, 121, 123, 125] (by decide +kernel) (by decide +kernel)
theorem inW_X9 : ∀ w ∈ u_ws RX9 TX9 3, w ∈ TW := inW_of _ [210, 212, 214] (by decide +kernel) (by decide +kernel)
theorem inW_X10 : ∀ w ∈ u_ws RX10 TX10 13, w ∈ TW := inW_of _ [350, 352, 354, 356, 358, 360, 362, 364, 366, 368, 370, 372, 374] (by decide +kernel) (by decide +kernel)
theorem inW_X11 : ∀ w ∈ u_ws RX11 TX11 8, w ∈ TW := inW_of _ [439, 441, 443, 445, 447, 449, 451, 453] (by decide +kernel) (by decide +kernel)
theorem inW_X12 : ∀ w ∈ u_ws RX12 TX12 24, w ∈ TW := inW_of _ [1218, 1220, 1222, 1224, 1226, 1228, 1230, 1232, 1234, 1236, 1238, 1240, 1242, 1244, 1246, 1248, 1250, 1252, 1254, 1256, 1258, 1260, 1262, 1264] (by decide +kernel) (by decide +kernel)
theorem fX11_10 : FL "TowField" 10 10 0 := ⟨RX11, TX11, 8, rfl, inW_X11, by decide, TW_of (List.mem_of_getElem? (i := 431) (by decide +kernel)) rfl⟩
theorem fX11_21 : FL "TowField" 21 10 1 := ⟨RX11, TX11, 8, rfl, inW_X11, by decide, TW_of (List.mem_of_getElem? (i := 432) (by decide +kernel)) rfl⟩
theorem fX11_25 : FL "TowField" 25 10 2 := ⟨RX11, TX11, 8, rfl, inW_X11, by decide, TW_of (List.mem_of_getElem? (i := 433) (by decide +kernel)) rfl⟩
theorem fX11_28 : FL "TowField" 28 10 3 := ⟨RX11, TX11, 8, rfl, inW_X11, by decide, TW_of (List.mem_of_getElem? (i := 434) (by decide +kernel)) rfl⟩
theorem fX11_34 : FL "TowField" 34 10 4 := ⟨RX11, TX11, 8, rfl, inW_X11, by decide, TW_of (List.mem_of_getElem? (i := 435) (by decide +kernel)) rfl⟩
theorem fX11_41 : FL "TowField" 41 10 5 := ⟨RX11, TX11, 8, rfl, inW_X11, by decide, TW_of (List.mem_of_getElem? (i := 436) (by decide +kernel)) rfl⟩
theorem fX11_45 : FL "TowField" 45 10 6 := ⟨RX11, TX11, 8, rfl, inW_X11, by decide, TW_of (List.mem_of_getElem? (i := 437) (by decide +kernel)) rfl⟩
theorem fX11_49 : FL "TowField" 49 10 7 := ⟨RX11, TX11, 8, rfl, inW_X11, by decide, TW_of (List.mem_of_getElem? (i := 438) (by decide +kernel)) rfl⟩
theorem pX11_49 : FLp "TowField" 49 10 7 .boolean := ⟨RX11, TX11, 8, tyX11, rfl, inW_X11, tyX11_ok, nmX11, by decide, TW_of (List.mem_of_getElem? (i := 438) (by decide +kernel)) rfl, rfl, by decide +kernel⟩
theorem fX11_62 : FL "TowField" 62 9 2 := ⟨RX10, TX10, 13, rfl, inW_X10, by decide, TW_of (List.mem_of_getElem? (i := 329) (by decide +kernel)) rfl⟩
theorem fX11_72 : FL "TowField" 72 9 1 := ⟨RX10, TX10, 13, rfl, inW_X10, by decide, TW_of (List.mem_of_getElem? (i := 327) (by decide +kernel)) rfl⟩
theorem fX11_76 : FL "TowField" 76 1 4 := ⟨RX1, TX1, 6, rfl, inW_X1, by decide, TW_of (List.mem_of_getElem? (i := 150) (by decide +kernel)) rfl⟩
theorem pX11_76 : FLp "TowField" 76 1 4 .int := ⟨RX1, TX1, 6, tyX1, rfl, inW_X1, tyX1_ok, nmX1, by decide, TW_of (List.mem_of_getElem? (i := 150) (by decide +kernel)) rfl, rfl, by decide +kernel⟩
theorem fX11_87 : FL "TowField" 87 3 4 := ⟨RX4, TX4, 6, rfl, inW_X4, by decide, TW_of (List.mem_of_getElem? (i := 182) (by decide +kernel)) rfl⟩
theorem pX11_87 : FLp "TowField" 87 3 4 .int := ⟨RX4, TX4, 6, tyX4, rfl, inW_X4, tyX4_ok, nmX4, by decide, TW_of (List.mem_of_getElem? (i := 182) (by decide +kernel)) rfl, rfl, by decide +kernel⟩
theorem fX11_91 : FL "TowField" 91 9 3 := ⟨RX10, TX10, 13, rfl, inW_X10, by decide, TW_of (List.mem_of_getElem? (i := 331) (by decide +kernel)) rfl⟩
theorem fX11_95 : FL "TowField" 95 8 2 := ⟨RX9, TX9, 3, rfl, inW_X9, by decide, TW_of (List.mem_of_getElem? (i := 209) (by decide +kernel)) rfl⟩
theorem pX11_95 : FLp "TowField" 95 8 2 .int := ⟨RX9, TX9, 3, tyX9, rfl, inW_X9, tyX9_ok, nmX9, by decide, TW_of (List.mem_of_getElem? (i := 209) (by decide +kernel)) rfl, rfl, by decide +kernel⟩
theorem fX11_100 : FL "TowField" 100 9 4 := ⟨RX10, TX10, 13, rfl, inW_X10, by decide, TW_of (List.mem_of_getElem? (i := 333) (by decide +kernel)) rfl⟩
theorem fX11_104 : FL "TowField" 104 4 1 := ⟨RX5, TX5, 2, rfl, inW_X5, by decide, TW_of (List.mem_of_getElem? (i := 226) (by decide +kernel)) rfl⟩
theorem pX11_104 : FLp "TowField" 104 4 1 .int := ⟨RX5, TX5, 2, tyX5, rfl, inW_X5, tyX5_ok, nmX5, by decide, TW_of (List.mem_of_getElem? (i := 226) (by decide +kernel)) rfl, rfl, by decide +kernel⟩
theorem fX11_117 : FL "TowField" 117 3 1 := ⟨RX4, TX4, 6, rfl, inW_X4, by decide, TW_of (List.mem_of_getElem? (i := 175) (by decide +kernel)) rfl⟩
theorem fX11_131 : FL "TowField" 131 8 0 := ⟨RX9, TX9, 3, rfl, inW_X9, by decide, TW_of (List.mem_of_getElem? (i := 205) (by decide +kernel)) rfl⟩
theorem fX11_134 : FL "TowField" 134 8 1 := ⟨RX9, TX9, 3, rfl, inW_X9, by decide, TW_of (List.mem_of_getElem? (i := 207) (by decide +kernel)) rfl⟩
theorem fX11_138 : FL "TowField" 138 9 9 := ⟨RX10, TX10, 13, rfl, inW_X10, by decide, TW_of (List.mem_of_getElem? (i := 343) (by decide +kernel)) rfl⟩
theorem pX11_138 : FLp "TowField" 138 9 9 .int := ⟨RX10, TX10, 13, tyX10, rfl, inW_X10, tyX10_ok, nmX10, by decide, TW_of (List.mem_of_getElem? (i := 343) (by decide +kernel)) rfl, rfl, by decide +kernel⟩
theorem fX11_141 : FL "TowField" 141 9 7 := ⟨RX10, TX10, 13, rfl, inW_X10, by decide, TW_of (List.mem_of_getElem? (i := 339) (by decide +kernel)) rfl⟩
theorem fX11_149 : FL "TowField" 149 4 0 := ⟨RX5, TX5, 2, rfl, inW_X5, by decide, TW_of (List.mem_of_getElem? (i := 224) (by decide +kernel)) rfl⟩
theorem fX11_153 : FL "TowField" 153 9 5 := ⟨RX10, TX10, 13, rfl, inW_X10, by decide, TW_of (List.mem_of_getElem? (i := 335) (by decide +kernel)) rfl⟩
theorem fX11_157 : FL "TowField" 157 2 0 := ⟨RX3, TX3, 6, rfl, inW_X3, by decide, TW_of (List.mem_of_getElem? (i := 239) (by decide +kernel)) rfl⟩
theorem fX11_160 : FL "TowField" 160 2 1 := ⟨RX3, TX3, 6, rfl, inW_X3, by decide, TW_of (List.mem_of_getElem? (i := 242) (by decide +kernel)) rfl⟩
theorem fX11_163 : FL "TowField" 163 9 10 := ⟨RX10, TX10, 13, rfl, inW_X10, by decide, TW_of (List.mem_of_getElem? (i := 345) (by decide +kernel)) rfl⟩
theorem pX11_163 : FLp "TowField" 163 9 10 .int := ⟨RX10, TX10, 13, tyX10, rfl, inW_X10, tyX10_ok, nmX10, by decide, TW_of (List.mem_of_getElem? (i := 345) (by decide +kernel)) rfl, rfl, by decide +kernel⟩
theorem fX11_166 : FL "TowField" 166 9 11 := ⟨RX10, TX10, 13, rfl, inW_X10, by decide, TW_of (List.mem_of_getElem? (i := 347) (by decide +kernel)) rfl⟩
theorem pX11_166 : FLp "TowField" 166 9 11 .int := ⟨RX10, TX10, 13, tyX10, rfl, inW_X10, tyX10_ok, nmX10, by decide, TW_of (List.mem_of_getElem? (i := 347) (by decide +kernel)) rfl, rfl, by decide +kernel⟩
theorem sX11_169 : Cond.fieldLink "TowField" 169 "TowField$World" "RULE_LEAST" "[I" ∈ TW := TW_of (List.mem_of_getElem? (i := 594) (by decide +kernel)) rfl
theorem sX11_172 : Cond.fieldLink "TowField" 172 "TowField$World" "RULE_MOST" "[I" ∈ TW := TW_of (List.mem_of_getElem? (i := 596) (by decide +kernel)) rfl
theorem fX11_190 : FL "TowField" 190 9 6 := ⟨RX10, TX10, 13, rfl, inW_X10, by decide, TW_of (List.mem_of_getElem? (i := 337) (by decide +kernel)) rfl⟩
theorem fX11_194 : FL "TowField" 194 0 12 := ⟨RX0, TX0, 13, rfl, inW_X0, by decide, TW_of (List.mem_of_getElem? (i := 295) (by decide +kernel)) rfl⟩
theorem pX11_194 : FLp "TowField" 194 0 12 .int := ⟨RX0, TX0, 13, tyX0, rfl, inW_X0, tyX0_ok, nmX0, by decide, TW_of (List.mem_of_getElem? (i := 295) (by decide +kernel)) rfl, rfl, by decide +kernel⟩
theorem fX11_202 : FL "TowField" 202 0 3 := ⟨RX0, TX0, 13, rfl, inW_X0, by decide, TW_of (List.mem_of_getElem? (i := 275) (by decide +kernel)) rfl⟩
theorem fX11_209 : FL "TowField" 209 0 8 := ⟨RX0, TX0, 13, rfl, inW_X0, by decide, TW_of (List.mem_of_getElem? (i := 286) (by decide +kernel)) rfl⟩
theorem fX11_222 : FL "TowField" 222 6 2 := ⟨RX7, TX7, 8, rfl, inW_X7, by decide, TW_of (List.mem_of_getElem? (i := 407) (by decide +kernel)) rfl⟩
theorem pX11_222 : FLp "TowField" 222 6 2 .int := ⟨RX7, TX7, 8, tyX7, rfl, inW_X7, tyX7_ok, nmX7, by decide, TW_of (List.mem_of_getElem? (i := 407) (by decide +kernel)) rfl, rfl, by decide +kernel⟩
theorem fX11_226 : FL "TowField" 226 9 12 := ⟨RX10, TX10, 13, rfl, inW_X10, by decide, TW_of (List.mem_of_getElem? (i := 349) (by decide +kernel)) rfl⟩
theorem pX11_226 : FLp "TowField" 226 9 12 .int := ⟨RX10, TX10, 13, tyX10, rfl, inW_X10, tyX10_ok, nmX10, by decide, TW_of (List.mem_of_getElem? (i := 349) (by decide +kernel)) rfl, rfl, by decide +kernel⟩
theorem fX11_232 : FL "TowField" 232 6 1 := ⟨RX7, TX7, 8, rfl, inW_X7, by decide, TW_of (List.mem_of_getElem? (i := 405) (by decide +kernel)) rfl⟩
theorem fX11_235 : FL "TowField" 235 6 3 := ⟨RX7, TX7, 8, rfl, inW_X7, by decide, TW_of (List.mem_of_getElem? (i := 409) (by decide +kernel)) rfl⟩
theorem pX11_235 : FLp "TowField" 235 6 3 .int := ⟨RX7, TX7, 8, tyX7, rfl, inW_X7, tyX7_ok, nmX7, by decide, TW_of (List.mem_of_getElem? (i := 409) (by decide +kernel)) rfl, rfl, by decide +kernel⟩
theorem fX11_241 : FL "TowField" 241 9 8 := ⟨RX10, TX10, 13, rfl, inW_X10, by decide, TW_of (List.mem_of_getElem? (i := 341) (by decide +kernel)) rfl⟩
theorem fX11_259 : FL "TowField" 259 5 0 := ⟨RX6, TX6, 3, rfl, inW_X6, by decide, TW_of (List.mem_of_getElem? (i := 385) (by decide +kernel)) rfl⟩
theorem fX11_263 : FL "TowField" 263 5 1 := ⟨RX6, TX6, 3, rfl, inW_X6, by decide, TW_of (List.mem_of_getElem? (i := 387) (by decide +kernel)) rfl⟩
theorem fX11_268 : FL "TowField" 268 5 2 := ⟨RX6, TX6, 3, rfl, inW_X6, by decide, TW_of (List.mem_of_getElem? (i := 389) (by decide +kernel)) rfl⟩
theorem fX11_272 : FL "TowField" 272 1 3 := ⟨RX1, TX1, 6, rfl, inW_X1, by decide, TW_of (List.mem_of_getElem? (i := 148) (by decide +kernel)) rfl⟩
theorem fX11_279 : FL "TowField" 279 3 3 := ⟨RX4, TX4, 6, rfl, inW_X4, by decide, TW_of (List.mem_of_getElem? (i := 180) (by decide +kernel)) rfl⟩
theorem fX11_310 : FL "TowField" 310 2 5 := ⟨RX3, TX3, 6, rfl, inW_X3, by decide, TW_of (List.mem_of_getElem? (i := 247) (by decide +kernel)) rfl⟩
theorem pX11_310 : FLp "TowField" 310 2 5 .int := ⟨RX3, TX3, 6, tyX3, rfl, inW_X3, tyX3_ok, nmX3, by decide, TW_of (List.mem_of_getElem? (i := 247) (by decide +kernel)) rfl, rfl, by decide +kernel⟩
theorem fX0_9 : FL "TowField$Asks" 9 0 0 := ⟨RX0, TX0, 13, rfl, inW_X0, by decide, TW_of (List.mem_of_getElem? (i := 267) (by decide +kernel)) rfl⟩
theorem fX0_13 : FL "TowField$Asks" 13 0 1 := ⟨RX0, TX0, 13, rfl, inW_X0, by decide, TW_of (List.mem_of_getElem? (i := 269) (by decide +kernel)) rfl⟩
theorem fX0_16 : FL "TowField$Asks" 16 0 2 := ⟨RX0, TX0, 13, rfl, inW_X0, by decide, TW_of (List.mem_of_getElem? (i := 271) (by decide +kernel)) rfl⟩
theorem fX0_19 : FL "TowField$Asks" 19 0 3 := ⟨RX0, TX0, 13, rfl, inW_X0, by decide, TW_of (List.mem_of_getElem? (i := 273) (by decide +kernel)) rfl⟩
theorem fX0_22 : FL "TowField$Asks" 22 0 4 := ⟨RX0, TX0, 13, rfl, inW_X0, by decide, TW_of (List.mem_of_getElem? (i := 276) (by decide +kernel)) rfl⟩
theorem fX0_25 : FL "TowField$Asks" 25 0 5 := ⟨RX0, TX0, 13, rfl, inW_X0, by decide, TW_of (List.mem_of_getElem? (i := 278) (by decide +kernel)) rfl⟩
theorem fX0_28 : FL "TowField$Asks" 28 0 6 := ⟨RX0, TX0, 13, rfl, inW_X0, by decide, TW_of (List.mem_of_getElem? (i := 280) (by decide +kernel)) rfl⟩
theorem fX0_31 : FL "TowField$Asks" 31 0 7 := ⟨RX0, TX0, 13, rfl, inW_X0, by decide, TW_of (List.mem_of_getElem? (i := 282) (by decide +kernel)) rfl⟩
theorem fX0_34 : FL "TowField$Asks" 34 0 8 := ⟨RX0, TX0, 13, rfl, inW_X0, by decide, TW_of (List.mem_of_getElem? (i := 284) (by decide +kernel)) rfl⟩
theorem fX0_37 : FL "TowField$Asks" 37 0 9 := ⟨RX0, TX0, 13, rfl, inW_X0, by decide, TW_of (List.mem_of_getElem? (i := 287) (by decide +kernel)) rfl⟩
theorem fX0_40 : FL "TowField$Asks" 40 0 10 := ⟨RX0, TX0, 13, rfl, inW_X0, by decide, TW_of (List.mem_of_getElem? (i := 289) (by decide +kernel)) rfl⟩
theorem fX0_43 : FL "TowField$Asks" 43 0 11 := ⟨RX0, TX0, 13, rfl, inW_X0, by decide, TW_of (List.mem_of_getElem? (i := 291) (by decide +kernel)) rfl⟩
theorem fX0_46 : FL "TowField$Asks" 46 0 12 := ⟨RX0, TX0, 13, rfl, inW_X0, by decide, TW_of (List.mem_of_getElem? (i := 293) (by decide +kernel)) rfl⟩
theorem pX0_46 : FLp "TowField$Asks" 46 0 12 .int := ⟨RX0, TX0, 13, tyX0, rfl, inW_X0, tyX0_ok, nmX0, by decide, TW_of (List.mem_of_getElem? (i := 293) (by decide +kernel)) rfl, rfl, by decide +kernel⟩
theorem fX1_9 : FL "TowField$Gliders" 9 1 0 := ⟨RX1, TX1, 6, rfl, inW_X1, by decide, TW_of (List.mem_of_getElem? (i := 141) (by decide +kernel)) rfl⟩
theorem fX1_13 : FL "TowField$Gliders" 13 1 1 := ⟨RX1, TX1, 6, rfl, inW_X1, by decide, TW_of (List.mem_of_getElem? (i := 143) (by decide +kernel)) rfl⟩
theorem fX1_16 : FL "TowField$Gliders" 16 1 2 := ⟨RX1, TX1, 6, rfl, inW_X1, by decide, TW_of (List.mem_of_getElem? (i := 145) (by decide +kernel)) rfl⟩
theorem fX1_19 : FL "TowField$Gliders" 19 1 3 := ⟨RX1, TX1, 6, rfl, inW_X1, by decide, TW_of (List.mem_of_getElem? (i := 147) (by decide +kernel)) rfl⟩
theorem fX1_22 : FL "TowField$Gliders" 22 1 4 := ⟨RX1, TX1, 6, rfl, inW_X1, by decide, TW_of (List.mem_of_getElem? (i := 149) (by decide +kernel)) rfl⟩
theorem pX1_22 : FLp "TowField$Gliders" 22 1 4 .int := ⟨RX1, TX1, 6, tyX1, rfl, inW_X1, tyX1_ok, nmX1, by decide, TW_of (List.mem_of_getElem? (i := 149) (by decide +kernel)) rfl, rfl, by decide +kernel⟩
theorem fX1_26 : FL "TowField$Gliders" 26 1 5 := ⟨RX1, TX1, 6, rfl, inW_X1, by decide, TW_of (List.mem_of_getElem? (i := 151) (by decide +kernel)) rfl⟩
theorem pX1_26 : FLp "TowField$Gliders" 26 1 5 .int := ⟨RX1, TX1, 6, tyX1, rfl, inW_X1, tyX1_ok, nmX1, by decide, TW_of (List.mem_of_getElem? (i := 151) (by decide +kernel)) rfl, rfl, by decide +kernel⟩
theorem sX2_19 : Cond.fieldLink "TowField$Kinds" 19 "TowField$Kinds" "ABOVE" "[I" ∈ TW := TW_of (List.mem_of_getElem? (i := 638) (by decide +kernel)) rfl
theorem fX3_9 : FL "TowField$Lanes" 9 2 0 := ⟨RX3, TX3, 6, rfl, inW_X3, by decide, TW_of (List.mem_of_getElem? (i := 238) (by decide +kernel)) rfl⟩
theorem fX3_13 : FL "TowField$Lanes" 13 2 1 := ⟨RX3, TX3, 6, rfl, inW_X3, by decide, TW_of (List.mem_of_getElem? (i := 240) (by decide +kernel)) rfl⟩
theorem fX3_16 : FL "TowField$Lanes" 16 2 2 := ⟨RX3, TX3, 6, rfl, inW_X3, by decide, TW_of (List.mem_of_getElem? (i := 243) (by decide +kernel)) rfl⟩
theorem fX3_19 : FL "TowField$Lanes" 19 2 3 := ⟨RX3, TX3, 6, rfl, inW_X3, by decide, TW_of (List.mem_of_getElem? (i := 244) (by decide +kernel)) rfl⟩
theorem fX3_22 : FL "TowField$Lanes" 22 2 4 := ⟨RX3, TX3, 6, rfl, inW_X3, by decide, TW_of (List.mem_of_getElem? (i := 245) (by decide +kernel)) rfl⟩
theorem fX3_25 : FL "TowField$Lanes" 25 2 5 := ⟨RX3, TX3, 6, rfl, inW_X3, by decide, TW_of (List.mem_of_getElem? (i := 246) (by decide +kernel)) rfl⟩
theorem pX3_25 : FLp "TowField$Lanes" 25 2 5 .int := ⟨RX3, TX3, 6, tyX3, rfl, inW_X3, tyX3_ok, nmX3, by decide, TW_of (List.mem_of_getElem? (i := 246) (by decide +kernel)) rfl, rfl, by decide +kernel⟩
theorem fX4_9 : FL "TowField$People" 9 3 0 := ⟨RX4, TX4, 6, rfl, inW_X4, by decide, TW_of (List.mem_of_getElem? (i := 172) (by decide +kernel)) rfl⟩
theorem fX4_13 : FL "TowField$People" 13 3 1 := ⟨RX4, TX4, 6, rfl, inW_X4, by decide, TW_of (List.mem_of_getElem? (i := 174) (by decide +kernel)) rfl⟩
theorem fX4_16 : FL "TowField$People" 16 3 2 := ⟨RX4, TX4, 6, rfl, inW_X4, by decide, TW_of (List.mem_of_getElem? (i := 176) (by decide +kernel)) rfl⟩
theorem fX4_19 : FL "TowField$People" 19 3 3 := ⟨RX4, TX4, 6, rfl, inW_X4, by decide, TW_of (List.mem_of_getElem? (i := 178) (by decide +kernel)) rfl⟩
theorem fX4_22 : FL "TowField$People" 22 3 4 := ⟨RX4, TX4, 6, rfl, inW_X4, by decide, TW_of (List.mem_of_getElem? (i := 181) (by decide +kernel)) rfl⟩
theorem pX4_22 : FLp "TowField$People" 22 3 4 .int := ⟨RX4, TX4, 6, tyX4, rfl, inW_X4, tyX4_ok, nmX4, by decide, TW_of (List.mem_of_getElem? (i := 181) (by decide +kernel)) rfl, rfl, by decide +kernel⟩
theorem fX4_26 : FL "TowField$People" 26 3 5 := ⟨RX4, TX4, 6, rfl, inW_X4, by decide, TW_of (List.mem_of_getElem? (i := 183) (by decide +kernel)) rfl⟩
theorem pX4_26 : FLp "TowField$People" 26 3 5 .int := ⟨RX4, TX4, 6, tyX4, rfl, inW_X4, tyX4_ok, nmX4, by decide, TW_of (List.mem_of_getElem? (i := 183) (by decide +kernel)) rfl, rfl, by decide +kernel⟩
theorem fX5_9 : FL "TowField$Planes" 9 4 0 := ⟨RX5, TX5, 2, rfl, inW_X5, by decide, TW_of (List.mem_of_getElem? (i := 223) (by decide +kernel)) rfl⟩
theorem fX5_13 : FL "TowField$Planes" 13 4 1 := ⟨RX5, TX5, 2, rfl, inW_X5, by decide, TW_of (List.mem_of_getElem? (i := 225) (by decide +kernel)) rfl⟩
theorem pX5_13 : FLp "TowField$Planes" 13 4 1 .int := ⟨RX5, TX5, 2, tyX5, rfl, inW_X5, tyX5_ok, nmX5, by decide, TW_of (List.mem_of_getElem? (i := 225) (by decide +kernel)) rfl, rfl, by decide +kernel⟩
theorem fX6_9 : FL "TowField$Sheets" 9 5 0 := ⟨RX6, TX6, 3, rfl, inW_X6, by decide, TW_of (List.mem_of_getElem? (i := 384) (by decide +kernel)) rfl⟩
theorem fX6_13 : FL "TowField$Sheets" 13 5 1 := ⟨RX6, TX6, 3, rfl, inW_X6, by decide, TW_of (List.mem_of_getElem? (i := 386) (by decide +kernel)) rfl⟩
theorem fX6_18 : FL "TowField$Sheets" 18 5 2 := ⟨RX6, TX6, 3, rfl, inW_X6, by decide, TW_of (List.mem_of_getElem? (i := 388) (by decide +kernel)) rfl⟩
theorem fX7_9 : FL "TowField$Tape" 9 6 0 := ⟨RX7, TX7, 8, rfl, inW_X7, by decide, TW_of (List.mem_of_getElem? (i := 403) (by decide +kernel)) rfl⟩
theorem fX7_15 : FL "TowField$Tape" 15 6 1 := ⟨RX7, TX7, 8, rfl, inW_X7, by decide, TW_of (List.mem_of_getElem? (i := 404) (by decide +kernel)) rfl⟩
theorem fX7_18 : FL "TowField$Tape" 18 6 2 := ⟨RX7, TX7, 8, rfl, inW_X7, by decide, TW_of (List.mem_of_getElem? (i := 406) (by decide +kernel)) rfl⟩
theorem pX7_18 : FLp "TowField$Tape" 18 6 2 .int := ⟨RX7, TX7, 8, tyX7, rfl, inW_X7, tyX7_ok, nmX7, by decide, TW_of (List.mem_of_getElem? (i := 406) (by decide +kernel)) rfl, rfl, by decide +kernel⟩
theorem fX7_22 : FL "TowField$Tape" 22 6 3 := ⟨RX7, TX7, 8, rfl, inW_X7, by decide, TW_of (List.mem_of_getElem? (i := 408) (by decide +kernel)) rfl⟩
theorem pX7_22 : FLp "TowField$Tape" 22 6 3 .int := ⟨RX7, TX7, 8, tyX7, rfl, inW_X7, tyX7_ok, nmX7, by decide, TW_of (List.mem_of_getElem? (i := 408) (by decide +kernel)) rfl, rfl, by decide +kernel⟩
theorem fX7_25 : FL "TowField$Tape" 25 6 4 := ⟨RX7, TX7, 8, rfl, inW_X7, by decide, TW_of (List.mem_of_getElem? (i := 410) (by decide +kernel)) rfl⟩
theorem pX7_25 : FLp "TowField$Tape" 25 6 4 .int := ⟨RX7, TX7, 8, tyX7, rfl, inW_X7, tyX7_ok, nmX7, by decide, TW_of (List.mem_of_getElem? (i := 410) (by decide +kernel)) rfl, rfl, by decide +kernel⟩
theorem fX7_28 : FL "TowField$Tape" 28 6 5 := ⟨RX7, TX7, 8, rfl, inW_X7, by decide, TW_of (List.mem_of_getElem? (i := 411) (by decide +kernel)) rfl⟩
theorem pX7_28 : FLp "TowField$Tape" 28 6 5 .int := ⟨RX7, TX7, 8, tyX7, rfl, inW_X7, tyX7_ok, nmX7, by decide, TW_of (List.mem_of_getElem? (i := 411) (by decide +kernel)) rfl, rfl, by decide +kernel⟩
theorem fX7_31 : FL "TowField$Tape" 31 6 6 := ⟨RX7, TX7, 8, rfl, inW_X7, by decide, TW_of (List.mem_of_getElem? (i := 412) (by decide +kernel)) rfl⟩
theorem pX7_31 : FLp "TowField$Tape" 31 6 6 .int := ⟨RX7, TX7, 8, tyX7, rfl, inW_X7, tyX7_ok, nmX7, by decide, TW_of (List.mem_of_getElem? (i := 412) (by decide +kernel)) rfl, rfl, by decide +kernel⟩
theorem fX7_34 : FL "TowField$Tape" 34 6 7 := ⟨RX7, TX7, 8, rfl, inW_X7, by decide, TW_of (List.mem_of_getElem? (i := 413) (by decide +kernel)) rfl⟩
theorem pX7_34 : FLp "TowField$Tape" 34 6 7 .int := ⟨RX7, TX7, 8, tyX7, rfl, inW_X7, tyX7_ok, nmX7, by decide, TW_of (List.mem_of_getElem? (i := 413) (by decide +kernel)) rfl, rfl, by decide +kernel⟩
theorem fX8_13 : FL "TowField$Texts" 13 7 0 := ⟨RX8, TX8, 4, rfl, inW_X8, by decide, TW_of (List.mem_of_getElem? (i := 115) (by decide +kernel)) rfl⟩
theorem fX8_16 : FL "TowField$Texts" 16 7 1 := ⟨RX8, TX8, 4, rfl, inW_X8, by decide, TW_of (List.mem_of_getElem? (i := 116) (by decide +kernel)) rfl⟩
theorem fX8_20 : FL "TowField$Texts" 20 7 2 := ⟨RX8, TX8, 4, rfl, inW_X8, by decide, TW_of (List.mem_of_getElem? (i := 117) (by decide +kernel)) rfl⟩
theorem fX8_23 : FL "TowField$Texts" 23 7 3 := ⟨RX8, TX8, 4, rfl, inW_X8, by decide, TW_of (List.mem_of_getElem? (i := 118) (by decide +kernel)) rfl⟩
theorem fX9_9 : FL "TowField$Winches" 9 8 0 := ⟨RX9, TX9, 3, rfl, inW_X9, by decide, TW_of (List.mem_of_getElem? (i := 204) (by decide +kernel)) rfl⟩
theorem fX9_13 : FL "TowField$Winches" 13 8 1 := ⟨RX9, TX9, 3, rfl, inW_X9, by decide, TW_of (List.mem_of_getElem? (i := 206) (by decide +kernel)) rfl⟩
theorem fX9_16 : FL "TowField$Winches" 16 8 2 := ⟨RX9, TX9, 3, rfl, inW_X9, by decide, TW_of (List.mem_of_getElem? (i := 208) (by decide +kernel)) rfl⟩
theorem pX9_16 : FLp "TowField$Winches" 16 8 2 .int := ⟨RX9, TX9, 3, tyX9, rfl, inW_X9, tyX9_ok, nmX9, by decide, TW_of (List.mem_of_getElem? (i := 208) (by decide +kernel)) rfl, rfl, by decide +kernel⟩
theorem fX10_10 : FL "TowField$World" 10 9 1 := ⟨RX10, TX10, 13, rfl, inW_X10, by decide, TW_of (List.mem_of_getElem? (i := 326) (by decide +kernel)) rfl⟩
theorem fX10_19 : FL "TowField$World" 19 9 2 := ⟨RX10, TX10, 13, rfl, inW_X10, by decide, TW_of (List.mem_of_getElem? (i := 328) (by decide +kernel)) rfl⟩
theorem fX10_26 : FL "TowField$World" 26 9 3 := ⟨RX10, TX10, 13, rfl, inW_X10, by decide, TW_of (List.mem_of_getElem? (i := 330) (by decide +kernel)) rfl⟩
theorem fX10_33 : FL "TowField$World" 33 9 4 := ⟨RX10, TX10, 13, rfl, inW_X10, by decide, TW_of (List.mem_of_getElem? (i := 332) (by decide +kernel)) rfl⟩
theorem fX10_40 : FL "TowField$World" 40 9 5 := ⟨RX10, TX10, 13, rfl, inW_X10, by decide, TW_of (List.mem_of_getElem? (i := 334) (by decide +kernel)) rfl⟩
theorem fX10_47 : FL "TowField$World" 47 9 6 := ⟨RX10, TX10, 13, rfl, inW_X10, by decide, TW_of (List.mem_of_getElem? (i := 336) (by decide +kernel)) rfl⟩
theorem fX10_51 : FL "TowField$World" 51 9 7 := ⟨RX10, TX10, 13, rfl, inW_X10, by decide, TW_of (List.mem_of_getElem? (i := 338) (by decide +kernel)) rfl⟩
theorem fX10_57 : FL "TowField$World" 57 9 8 := ⟨RX10, TX10, 13, rfl, inW_X10, by decide, TW_of (List.mem_of_getElem? (i := 340) (by decide +kernel)) rfl⟩
theorem fX10_60 : FL "TowField$World" 60 9 9 := ⟨RX10, TX10, 13, rfl, inW_X10, by decide, TW_of (List.mem_of_getElem? (i := 342) (by decide +kernel)) rfl⟩
theorem pX10_60 : FLp "TowField$World" 60 9 9 .int := ⟨RX10, TX10, 13, tyX10, rfl, inW_X10, tyX10_ok, nmX10, by decide, TW_of (List.mem_of_getElem? (i := 342) (by decide +kernel)) rfl, rfl, by decide +kernel⟩
theorem fX10_64 : FL "TowField$World" 64 9 10 := ⟨RX10, TX10, 13, rfl, inW_X10, by decide, TW_of (List.mem_of_getElem? (i := 344) (by decide +kernel)) rfl⟩
theorem pX10_64 : FLp "TowField$World" 64 9 10 .int := ⟨RX10, TX10, 13, tyX10, rfl, inW_X10, tyX10_ok, nmX10, by decide, TW_of (List.mem_of_getElem? (i := 344) (by decide +kernel)) rfl, rfl, by decide +kernel⟩
theorem fX10_67 : FL "TowField$World" 67 9 11 := ⟨RX10, TX10, 13, rfl, inW_X10, by decide, TW_of (List.mem_of_getElem? (i := 346) (by decide +kernel)) rfl⟩
theorem pX10_67 : FLp "TowField$World" 67 9 11 .int := ⟨RX10, TX10, 13, tyX10, rfl, inW_X10, tyX10_ok, nmX10, by decide, TW_of (List.mem_of_getElem? (i := 346) (by decide +kernel)) rfl, rfl, by decide +kernel⟩
theorem fX10_70 : FL "TowField$World" 70 9 12 := ⟨RX10, TX10, 13, rfl, inW_X10, by decide, TW_of (List.mem_of_getElem? (i := 348) (by decide +kernel)) rfl⟩
theorem pX10_70 : FLp "TowField$World" 70 9 12 .int := ⟨RX10, TX10, 13, tyX10, rfl, inW_X10, tyX10_ok, nmX10, by decide, TW_of (List.mem_of_getElem? (i := 348) (by decide +kernel)) rfl, rfl, by decide +kernel⟩
theorem fX10_73 : FL "TowField$World" 73 9 0 := ⟨RX10, TX10, 13, rfl, inW_X10, by decide, TW_of (List.mem_of_getElem? (i := 325) (by decide +kernel)) rfl⟩
theorem sX10_77 : Cond.fieldLink "TowField$World" 77 "TowField$World" "RULE_FIRST" "[I" ∈ TW := TW_of (List.mem_of_getElem? (i := 323) (by decide +kernel)) rfl
theorem fX10_105 : FL "TowField$World" 105 0 12 := ⟨RX0, TX0, 13, rfl, inW_X0, by decide, TW_of (List.mem_of_getElem? (i := 294) (by decide +kernel)) rfl⟩
theorem pX10_105 : FLp "TowField$World" 105 0 12 .int := ⟨RX0, TX0, 13, tyX0, rfl, inW_X0, tyX0_ok, nmX0, by decide, TW_of (List.mem_of_getElem? (i := 294) (by decide +kernel)) rfl, rfl, by decide +kernel⟩
theorem fX10_108 : FL "TowField$World" 108 0 8 := ⟨RX0, TX0, 13, rfl, inW_X0, by decide, TW_of (List.mem_of_getElem? (i := 285) (by decide +kernel)) rfl⟩
theorem fX10_115 : FL "TowField$World" 115 0 4 := ⟨RX0, TX0, 13, rfl, inW_X0, by decide, TW_of (List.mem_of_getElem? (i := 277) (by decide +kernel)) rfl⟩
theorem fX10_118 : FL "TowField$World" 118 0 5 := ⟨RX0, TX0, 13, rfl, inW_X0, by decide, TW_of (List.mem_of_getElem? (i := 279) (by decide +kernel)) rfl⟩
theorem fX10_121 : FL "TowField$World" 121 0 3 := ⟨RX0, TX0, 13, rfl, inW_X0, by decide, TW_of (List.mem_of_getElem? (i := 274) (by decide +kernel)) rfl⟩
theorem fX10_139 : FL "TowField$World" 139 0 2 := ⟨RX0, TX0, 13, rfl, inW_X0, by decide, TW_of (List.mem_of_getElem? (i := 272) (by decide +kernel)) rfl⟩
theorem fX10_142 : FL "TowField$World" 142 0 1 := ⟨RX0, TX0, 13, rfl, inW_X0, by decide, TW_of (List.mem_of_getElem? (i := 270) (by decide +kernel)) rfl⟩
theorem fX10_145 : FL "TowField$World" 145 1 5 := ⟨RX1, TX1, 6, rfl, inW_X1, by decide, TW_of (List.mem_of_getElem? (i := 152) (by decide +kernel)) rfl⟩
theorem pX10_145 : FLp "TowField$World" 145 1 5 .int := ⟨RX1, TX1, 6, tyX1, rfl, inW_X1, tyX1_ok, nmX1, by decide, TW_of (List.mem_of_getElem? (i := 152) (by decide +kernel)) rfl, rfl, by decide +kernel⟩
theorem fX10_153 : FL "TowField$World" 153 1 0 := ⟨RX1, TX1, 6, rfl, inW_X1, by decide, TW_of (List.mem_of_getElem? (i := 142) (by decide +kernel)) rfl⟩
theorem fX10_156 : FL "TowField$World" 156 3 0 := ⟨RX4, TX4, 6, rfl, inW_X4, by decide, TW_of (List.mem_of_getElem? (i := 173) (by decide +kernel)) rfl⟩
theorem fX10_159 : FL "TowField$World" 159 0 0 := ⟨RX0, TX0, 13, rfl, inW_X0, by decide, TW_of (List.mem_of_getElem? (i := 268) (by decide +kernel)) rfl⟩
theorem fX10_162 : FL "TowField$World" 162 1 1 := ⟨RX1, TX1, 6, rfl, inW_X1, by decide, TW_of (List.mem_of_getElem? (i := 144) (by decide +kernel)) rfl⟩
theorem fX10_168 : FL "TowField$World" 168 3 2 := ⟨RX4, TX4, 6, rfl, inW_X4, by decide, TW_of (List.mem_of_getElem? (i := 177) (by decide +kernel)) rfl⟩
theorem fX10_180 : FL "TowField$World" 180 1 2 := ⟨RX1, TX1, 6, rfl, inW_X1, by decide, TW_of (List.mem_of_getElem? (i := 146) (by decide +kernel)) rfl⟩
theorem fX10_183 : FL "TowField$World" 183 3 5 := ⟨RX4, TX4, 6, rfl, inW_X4, by decide, TW_of (List.mem_of_getElem? (i := 184) (by decide +kernel)) rfl⟩
theorem pX10_183 : FLp "TowField$World" 183 3 5 .int := ⟨RX4, TX4, 6, tyX4, rfl, inW_X4, tyX4_ok, nmX4, by decide, TW_of (List.mem_of_getElem? (i := 184) (by decide +kernel)) rfl, rfl, by decide +kernel⟩
theorem fX10_192 : FL "TowField$World" 192 2 1 := ⟨RX3, TX3, 6, rfl, inW_X3, by decide, TW_of (List.mem_of_getElem? (i := 241) (by decide +kernel)) rfl⟩
theorem fX10_195 : FL "TowField$World" 195 0 6 := ⟨RX0, TX0, 13, rfl, inW_X0, by decide, TW_of (List.mem_of_getElem? (i := 281) (by decide +kernel)) rfl⟩
theorem fX10_198 : FL "TowField$World" 198 0 7 := ⟨RX0, TX0, 13, rfl, inW_X0, by decide, TW_of (List.mem_of_getElem? (i := 283) (by decide +kernel)) rfl⟩
theorem fX10_268 : FL "TowField$World" 268 0 10 := ⟨RX0, TX0, 13, rfl, inW_X0, by decide, TW_of (List.mem_of_getElem? (i := 290) (by decide +kernel)) rfl⟩
theorem fX10_271 : FL "TowField$World" 271 0 11 := ⟨RX0, TX0, 13, rfl, inW_X0, by decide, TW_of (List.mem_of_getElem? (i := 292) (by decide +kernel)) rfl⟩
theorem fX10_274 : FL "TowField$World" 274 3 3 := ⟨RX4, TX4, 6, rfl, inW_X4, by decide, TW_of (List.mem_of_getElem? (i := 179) (by decide +kernel)) rfl⟩
theorem fX10_284 : FL "TowField$World" 284 0 9 := ⟨RX0, TX0, 13, rfl, inW_X0, by decide, TW_of (List.mem_of_getElem? (i := 288) (by decide +kernel)) rfl⟩
theorem fX12_9 : FL "TowFieldModel" 9 11 0 := ⟨RX12, TX12, 24, rfl, inW_X12, by decide, TW_of (List.mem_of_getElem? (i := 1194) (by decide +kernel)) rfl⟩
theorem fX12_13 : FL "TowFieldModel" 13 11 1 := ⟨RX12, TX12, 24, rfl, inW_X12, by decide, TW_of (List.mem_of_getElem? (i := 1195) (by decide +kernel)) rfl⟩
theorem fX12_16 : FL "TowFieldModel" 16 11 2 := ⟨RX12, TX12, 24, rfl, inW_X12, by decide, TW_of (List.mem_of_getElem? (i := 1196) (by decide +kernel)) rfl⟩
theorem fX12_19 : FL "TowFieldModel" 19 11 4 := ⟨RX12, TX12, 24, rfl, inW_X12, by decide, TW_of (List.mem_of_getElem? (i := 1198) (by decide +kernel)) rfl⟩
theorem fX12_22 : FL "TowFieldModel" 22 11 5 := ⟨RX12, TX12, 24, rfl, inW_X12, by decide, TW_of (List.mem_of_getElem? (i := 1199) (by decide +kernel)) rfl⟩
theorem fX12_35 : FL "TowFieldModel" 35 11 11 := ⟨RX12, TX12, 24, rfl, inW_X12, by decide, TW_of (List.mem_of_getElem? (i := 1205) (by decide +kernel)) rfl⟩
theorem fX12_39 : FL "TowFieldModel" 39 11 17 := ⟨RX12, TX12, 24, rfl, inW_X12, by decide, TW_of (List.mem_of_getElem? (i := 1211) (by decide +kernel)) rfl⟩
theorem fX12_42 : FL "TowFieldModel" 42 11 19 := ⟨RX12, TX12, 24, rfl, inW_X12, by decide, TW_of (List.mem_of_getElem? (i := 1213) (by decide +kernel)) rfl⟩
theorem fX12_45 : FL "TowFieldModel" 45 11 20 := ⟨RX12, TX12, 24, rfl, inW_X12, by decide, TW_of (List.mem_of_getElem? (i := 1214) (by decide +kernel)) rfl⟩
theorem fX12_48 : FL "TowFieldModel" 48 11 21 := ⟨RX12, TX12, 24, rfl, inW_X12, by decide, TW_of (List.mem_of_getElem? (i := 1215) (by decide +kernel)) rfl⟩
theorem fX12_51 : FL "TowFieldModel" 51 11 22 := ⟨RX12, TX12, 24, rfl, inW_X12, by decide, TW_of (List.mem_of_getElem? (i := 1216) (by decide +kernel)) rfl⟩
theorem fX12_54 : FL "TowFieldModel" 54 11 23 := ⟨RX12, TX12, 24, rfl, inW_X12, by decide, TW_of (List.mem_of_getElem? (i := 1217) (by decide +kernel)) rfl⟩
theorem fX12_204 : FL "TowFieldModel" 204 11 7 := ⟨RX12, TX12, 24, rfl, inW_X12, by decide, TW_of (List.mem_of_getElem? (i := 1201) (by decide +kernel)) rfl⟩
theorem pX12_204 : FLp "TowFieldModel" 204 11 7 .int := ⟨RX12, TX12, 24, tyX12, rfl, inW_X12, tyX12_ok, nmX12, by decide, TW_of (List.mem_of_getElem? (i := 1201) (by decide +kernel)) rfl, rfl, by decide +kernel⟩
theorem fX12_208 : FL "TowFieldModel" 208 11 8 := ⟨RX12, TX12, 24, rfl, inW_X12, by decide, TW_of (List.mem_of_getElem? (i := 1202) (by decide +kernel)) rfl⟩
theorem pX12_208 : FLp "TowFieldModel" 208 11 8 .int := ⟨RX12, TX12, 24, tyX12, rfl, inW_X12, tyX12_ok, nmX12, by decide, TW_of (List.mem_of_getElem? (i := 1202) (by decide +kernel)) rfl, rfl, by decide +kernel⟩
theorem fX12_214 : FL "TowFieldModel" 214 11 9 := ⟨RX12, TX12, 24, rfl, inW_X12, by decide, TW_of (List.mem_of_getElem? (i := 1203) (by decide +kernel)) rfl⟩
theorem pX12_214 : FLp "TowFieldModel" 214 11 9 .int := ⟨RX12, TX12, 24, tyX12, rfl, inW_X12, tyX12_ok, nmX12, by decide, TW_of (List.mem_of_getElem? (i := 1203) (by decide +kernel)) rfl, rfl, by decide +kernel⟩
theorem fX12_217 : FL "TowFieldModel" 217 11 10 := ⟨RX12, TX12, 24, rfl, inW_X12, by decide, TW_of (List.mem_of_getElem? (i := 1204) (by decide +kernel)) rfl⟩
theorem pX12_217 : FLp "TowFieldModel" 217 11 10 .int := ⟨RX12, TX12, 24, tyX12, rfl, inW_X12, tyX12_ok, nmX12, by decide, TW_of (List.mem_of_getElem? (i := 1204) (by decide +kernel)) rfl, rfl, by decide +kernel⟩
theorem fX12_223 : FL "TowFieldModel" 223 11 6 := ⟨RX12, TX12, 24, rfl, inW_X12, by decide, TW_of (List.mem_of_getElem? (i := 1200) (by decide +kernel)) rfl⟩
theorem pX12_223 : FLp "TowFieldModel" 223 11 6 .int := ⟨RX12, TX12, 24, tyX12, rfl, inW_X12, tyX12_ok, nmX12, by decide, TW_of (List.mem_of_getElem? (i := 1200) (by decide +kernel)) rfl, rfl, by decide +kernel⟩
theorem fX12_226 : FL "TowFieldModel" 226 11 14 := ⟨RX12, TX12, 24, rfl, inW_X12, by decide, TW_of (List.mem_of_getElem? (i := 1208) (by decide +kernel)) rfl⟩
theorem pX12_226 : FLp "TowFieldModel" 226 11 14 .int := ⟨RX12, TX12, 24, tyX12, rfl, inW_X12, tyX12_ok, nmX12, by decide, TW_of (List.mem_of_getElem? (i := 1208) (by decide +kernel)) rfl, rfl, by decide +kernel⟩
theorem fX12_229 : FL "TowFieldModel" 229 11 13 := ⟨RX12, TX12, 24, rfl, inW_X12, by decide, TW_of (List.mem_of_getElem? (i := 1207) (by decide +kernel)) rfl⟩
theorem pX12_229 : FLp "TowFieldModel" 229 11 13 .int := ⟨RX12, TX12, 24, tyX12, rfl, inW_X12, tyX12_ok, nmX12, by decide, TW_of (List.mem_of_getElem? (i := 1207) (by decide +kernel)) rfl, rfl, by decide +kernel⟩
theorem fX12_232 : FL "TowFieldModel" 232 11 12 := ⟨RX12, TX12, 24, rfl, inW_X12, by decide, TW_of (List.mem_of_getElem? (i := 1206) (by decide +kernel)) rfl⟩
theorem pX12_232 : FLp "TowFieldModel" 232 11 12 .int := ⟨RX12, TX12, 24, tyX12, rfl, inW_X12, tyX12_ok, nmX12, by decide, TW_of (List.mem_of_getElem? (i := 1206) (by decide +kernel)) rfl, rfl, by decide +kernel⟩
theorem fX12_238 : FL "TowFieldModel" 238 11 15 := ⟨RX12, TX12, 24, rfl, inW_X12, by decide, TW_of (List.mem_of_getElem? (i := 1209) (by decide +kernel)) rfl⟩
theorem pX12_238 : FLp "TowFieldModel" 238 11 15 .boolean := ⟨RX12, TX12, 24, tyX12, rfl, inW_X12, tyX12_ok, nmX12, by decide, TW_of (List.mem_of_getElem? (i := 1209) (by decide +kernel)) rfl, rfl, by decide +kernel⟩
theorem fX12_252 : FL "TowFieldModel" 252 11 18 := ⟨RX12, TX12, 24, rfl, inW_X12, by decide, TW_of (List.mem_of_getElem? (i := 1212) (by decide +kernel)) rfl⟩
theorem pX12_252 : FLp "TowFieldModel" 252 11 18 .int := ⟨RX12, TX12, 24, tyX12, rfl, inW_X12, tyX12_ok, nmX12, by decide, TW_of (List.mem_of_getElem? (i := 1212) (by decide +kernel)) rfl, rfl, by decide +kernel⟩
theorem fX12_271 : FL "TowFieldModel" 271 11 16 := ⟨RX12, TX12, 24, rfl, inW_X12, by decide, TW_of (List.mem_of_getElem? (i := 1210) (by decide +kernel)) rfl⟩
theorem pX12_271 : FLp "TowFieldModel" 271 11 16 .int := ⟨RX12, TX12, 24, tyX12, rfl, inW_X12, tyX12_ok, nmX12, by decide, TW_of (List.mem_of_getElem? (i := 1210) (by decide +kernel)) rfl, rfl, by decide +kernel⟩
theorem fX12_304 : FL "TowFieldModel" 304 11 3 := ⟨RX12, TX12, 24, rfl, inW_X12, by decide, TW_of (List.mem_of_getElem? (i := 1197) (by decide +kernel)) rfl⟩
theorem pX12_304 : FLp "TowFieldModel" 304 11 3 .boolean := ⟨RX12, TX12, 24, tyX12, rfl, inW_X12, tyX12_ok, nmX12, by decide, TW_of (List.mem_of_getElem? (i := 1197) (by decide +kernel)) rfl, rfl, by decide +kernel⟩
theorem sJ0_9 : Cond.fieldLink "java/lang/String" 9 "java/lang/String" "value" "[B" ∈ TW := TW_of (List.mem_of_getElem? (i := 1673) (by decide +kernel)) rfl
theorem sJ0_15 : Cond.fieldLink "java/lang/String" 15 "java/lang/String" "coder" "B" ∈ TW := TW_of (List.mem_of_getElem? (i := 1674) (by decide +kernel)) rfl
theorem sJ0_38 : Cond.fieldLink "java/lang/String" 38 "java/lang/String" "COMPACT_STRINGS" "Z" ∈ TW := TW_of (List.mem_of_getElem? (i := 823) (by decide +kernel)) rfl
theorem sJ0_1053 : Cond.fieldLink "java/lang/String" 1053 "jdk/internal/util/Preconditions" "SIOOBE_FORMATTER" "Ljava/util/function/BiFunction;" ∈ TW := TW_of (List.mem_of_getElem? (i := 839) (by decide +kernel)) rfl
theorem sJ2_44 : Cond.fieldLink "java/lang/StringUTF16" 44 "java/lang/StringUTF16" "$assertionsDisabled" "Z" ∈ TW := TW_of (List.mem_of_getElem? (i := 857) (by decide +kernel)) rfl
theorem sJ2_59 : Cond.fieldLink "java/lang/StringUTF16" 59 "java/lang/StringUTF16" "HI_BYTE_SHIFT" "I" ∈ TW := TW_of (List.mem_of_getElem? (i := 859) (by decide +kernel)) rfl
theorem sJ2_63 : Cond.fieldLink "java/lang/StringUTF16" 63 "java/lang/StringUTF16" "LO_BYTE_SHIFT" "I" ∈ TW := TW_of (List.mem_of_getElem? (i := 861) (by decide +kernel)) rfl
theorem kX11_57 : Cond.constant "TowField" 57 (-1000001) ∈ TW := TW_of (List.mem_of_getElem? (i := 463) (by decide +kernel)) rfl
theorem kX11_82 : Cond.constant "TowField" 82 (-1000002) ∈ TW := TW_of (List.mem_of_getElem? (i := 472) (by decide +kernel)) rfl
theorem kX11_137 : Cond.constant "TowField" 137 (-1000005) ∈ TW := TW_of (List.mem_of_getElem? (i := 559) (by decide +kernel)) rfl
theorem kX11_208 : Cond.constant "TowField" 208 (-1000003) ∈ TW := TW_of (List.mem_of_getElem? (i := 659) (by decide +kernel)) rfl
theorem kX11_244 : Cond.constant "TowField" 244 (-1000004) ∈ TW := TW_of (List.mem_of_getElem? (i := 976) (by decide +kernel)) rfl
theorem kX11_262 : Cond.constant "TowField" 262 (-1000006) ∈ TW := TW_of (List.mem_of_getElem? (i := 1108) (by decide +kernel)) rfl
theorem kX11_278 : Cond.constant "TowField" 278 (99999) ∈ TW := TW_of (List.mem_of_getElem? (i := 1128) (by decide +kernel)) rfl
theorem kX11_285 : Cond.constant "TowField" 285 (-1000007) ∈ TW := TW_of (List.mem_of_getElem? (i := 1136) (by decide +kernel)) rfl
theorem kX12_57 : Cond.constant "TowFieldModel" 57 (-1000001) ∈ TW := TW_of (List.mem_of_getElem? (i := 1274) (by decide +kernel)) rfl
theorem kX12_66 : Cond.constant "TowFieldModel" 66 (-1000002) ∈ TW := TW_of (List.mem_of_getElem? (i := 1279) (by decide +kernel)) rfl
theorem kX12_95 : Cond.constant "TowFieldModel" 95 (-1000005) ∈ TW := TW_of (List.mem_of_getElem? (i := 1343) (by decide +kernel)) rfl
theorem kX12_126 : Cond.constant "TowFieldModel" 126 (-1000003) ∈ TW := TW_of (List.mem_of_getElem? (i := 1415) (by decide +kernel)) rfl
theorem kX12_290 : Cond.constant "TowFieldModel" 290 (-1000004) ∈ TW := TW_of (List.mem_of_getElem? (i := 1612) (by decide +kernel)) rfl
theorem kX12_295 : Cond.constant "TowFieldModel" 295 (99999) ∈ TW := TW_of (List.mem_of_getElem? (i := 1625) (by decide +kernel)) rfl
theorem kX12_299 : Cond.constant "TowFieldModel" 299 (-1000006) ∈ TW := TW_of (List.mem_of_getElem? (i := 1633) (by decide +kernel)) rfl
theorem kX12_300 : Cond.constant "TowFieldModel" 300 (-1000007) ∈ TW := TW_of (List.mem_of_getElem? (i := 1638) (by decide +kernel)) rfl
theorem kJ11_76 : Cond.constant "java/lang/Character" 76 (56320) ∈ TW := TW_of (List.mem_of_getElem? (i := 927) (by decide +kernel)) rfl
theorem kJ11_110 : Cond.constant "java/lang/Character" 110 (55232) ∈ TW := TW_of (List.mem_of_getElem? (i := 923) (by decide +kernel)) rfl
theorem kJ6_265 : Cond.constant "java/lang/Integer" 265 (1431655765) ∈ TW := TW_of (List.mem_of_getElem? (i := 1121) (by decide +kernel)) rfl
theorem kJ6_266 : Cond.constant "java/lang/Integer" 266 (858993459) ∈ TW := TW_of (List.mem_of_getElem? (i := 1122) (by decide +kernel)) rfl
theorem kJ6_267 : Cond.constant "java/lang/Integer" 267 (252645135) ∈ TW := TW_of (List.mem_of_getElem? (i := 1123) (by decide +kernel)) rfl
theorem kJ2_227 : Cond.constant "java/lang/StringUTF16" 227 (65536) ∈ TW := TW_of (List.mem_of_getElem? (i := 898) (by decide +kernel)) rfl
def mX0_init : MI := (yX0_init, cX0_init, 1, none)
theorem qX0_init : MF mX0_init 0 := ⟨TW_of (List.mem_of_getElem? (i := 86) (by decide +kernel)) rfl, TW_of (List.mem_of_getElem? (i := 265) (by decide +kernel)) rfl, by decide, by decide +kernel, by decide⟩
def mX0_has : MI := (yX0_has, cX0_has, 2, (some .boolean))
theorem qX0_has : MF mX0_has 1 := ⟨TW_of (List.mem_of_getElem? (i := 86) (by decide +kernel)) rfl, TW_of (List.mem_of_getElem? (i := 648) (by decide +kernel)) rfl, by decide, by decide +kernel, by decide⟩
def mX0_add : MI := (yX0_add, cX0_add, 7, (some .int))
theorem qX0_add : MF mX0_add 5 := ⟨TW_of (List.mem_of_getElem? (i := 86) (by decide +kernel)) rfl, TW_of (List.mem_of_getElem? (i := 633) (by decide +kernel)) rfl, by decide, by decide +kernel, by decide⟩
def mX0_tell : MI := (yX0_tell, cX0_tell, 3, (some .int))
theorem qX0_tell : MF mX0_tell 2 := ⟨TW_of (List.mem_of_getElem? (i := 86) (by decide +kernel)) rfl, TW_of (List.mem_of_getElem? (i := 653) (by decide +kernel)) rfl, by decide, by decide +kernel, by decide⟩
def mX0_thatAre : MI := (yX0_thatAre, cX0_thatAre, 4, (some .int))
theorem qX0_thatAre : MF mX0_thatAre 1 := ⟨TW_of (List.mem_of_getElem? (i := 86) (by decide +kernel)) rfl, TW_of (List.mem_of_getElem? (i := 1095) (by decide +kernel)) rfl, by decide, by decide +kernel, by decide⟩
def mX0_crew : MI := (yX0_crew, cX0_crew, 3, (some .int))
theorem qX0_crew : MF mX0_crew 1 := ⟨TW_of (List.mem_of_getElem? (i := 86) (by decide +kernel)) rfl, TW_of (List.mem_of_getElem? (i := 720) (by decide +kernel)) rfl, by decide, by decide +kernel, by decide⟩
def mX0_firstDue : MI := (yX0_firstDue, cX0_firstDue, 7, (some .int))
theorem qX0_firstDue : MF mX0_firstDue 2 := ⟨TW_of (List.mem_of_getElem? (i := 86) (by decide +kernel)) rfl, TW_of (List.mem_of_getElem? (i := 762) (by decide +kernel)) rfl, by decide, by decide +kernel, by decide⟩
def mX0_become : MI := (yX0_become, cX0_become, 2, none)
theorem qX0_become : MF mX0_become 1 := ⟨TW_of (List.mem_of_getElem? (i := 86) (by decide +kernel)) rfl, TW_of (List.mem_of_getElem? (i := 1090) (by decide +kernel)) rfl, by decide, by decide +kernel, by decide⟩
def mX1_init : MI := (yX1_init, cX1_init, 1, none)
theorem qX1_init : MF mX1_init 0 := ⟨TW_of (List.mem_of_getElem? (i := 81) (by decide +kernel)) rfl, TW_of (List.mem_of_getElem? (i := 139) (by decide +kernel)) rfl, by decide, by decide +kernel, by decide⟩
def mX1_has : MI := (yX1_has, cX1_has, 2, (some .boolean))
theorem qX1_has : MF mX1_has 1 := ⟨TW_of (List.mem_of_getElem? (i := 81) (by decide +kernel)) rfl, TW_of (List.mem_of_getElem? (i := 515) (by decide +kernel)) rfl, by decide, by decide +kernel, by decide⟩
def mX1_add : MI := (yX1_add, cX1_add, 6, (some .int))
theorem qX1_add : MF mX1_add 4 := ⟨TW_of (List.mem_of_getElem? (i := 81) (by decide +kernel)) rfl, TW_of (List.mem_of_getElem? (i := 476) (by decide +kernel)) rfl, by decide, by decide +kernel, by decide⟩
def mX1_tell : MI := (yX1_tell, cX1_tell, 3, (some .int))
theorem qX1_tell : MF mX1_tell 2 := ⟨TW_of (List.mem_of_getElem? (i := 81) (by decide +kernel)) rfl, TW_of (List.mem_of_getElem? (i := 520) (by decide +kernel)) rfl, by decide, by decide +kernel, by decide⟩
def mX1_become : MI := (yX1_become, cX1_become, 2, none)
theorem qX1_become : MF mX1_become 1 := ⟨TW_of (List.mem_of_getElem? (i := 81) (by decide +kernel)) rfl, TW_of (List.mem_of_getElem? (i := 1065) (by decide +kernel)) rfl, by decide, by decide +kernel, by decide⟩
def mX2_has : MI := (yX2_has, cX2_has, 1, (some .boolean))
theorem qX2_has : MF mX2_has 1 := ⟨TW_of (List.mem_of_getElem? (i := 90) (by decide +kernel)) rfl, TW_of (List.mem_of_getElem? (i := 604) (by decide +kernel)) rfl, by decide, by decide +kernel, by decide⟩
def mX2_isOrUnder : MI := (yX2_isOrUnder, cX2_isOrUnder, 4, (some .boolean))
theorem qX2_isOrUnder : MF mX2_isOrUnder 2 := ⟨TW_of (List.mem_of_getElem? (i := 90) (by decide +kernel)) rfl, TW_of (List.mem_of_getElem? (i := 636) (by decide +kernel)) rfl, by decide, by decide +kernel, by decide⟩
def mX2_mostWind : MI := (yX2_mostWind, cX2_mostWind, 1, (some .int))
theorem qX2_mostWind : MF mX2_mostWind 1 := ⟨TW_of (List.mem_of_getElem? (i := 90) (by decide +kernel)) rfl, TW_of (List.mem_of_getElem? (i := 608) (by decide +kernel)) rfl, by decide, by decide +kernel, by decide⟩
def mX2_minutesOnLane : MI := (yX2_minutesOnLane, cX2_minutesOnLane, 3, (some .int))
theorem qX2_minutesOnLane : MF mX2_minutesOnLane 2 := ⟨TW_of (List.mem_of_getElem? (i := 90) (by decide +kernel)) rfl, TW_of (List.mem_of_getElem? (i := 615) (by decide +kernel)) rfl, by decide, by decide +kernel, by decide⟩
def mX3_init : MI := (yX3_init, cX3_init, 2, none)
theorem qX3_init : MF mX3_init 0 := ⟨TW_of (List.mem_of_getElem? (i := 85) (by decide +kernel)) rfl, TW_of (List.mem_of_getElem? (i := 236) (by decide +kernel)) rfl, by decide, by decide +kernel, by decide⟩
def mX3_has : MI := (yX3_has, cX3_has, 1, (some .boolean))
theorem qX3_has : MF mX3_has 1 := ⟨TW_of (List.mem_of_getElem? (i := 85) (by decide +kernel)) rfl, TW_of (List.mem_of_getElem? (i := 576) (by decide +kernel)) rfl, by decide, by decide +kernel, by decide⟩
def mX3_isClear : MI := (yX3_isClear, cX3_isClear, 6, (some .boolean))
theorem qX3_isClear : MF mX3_isClear 3 := ⟨TW_of (List.mem_of_getElem? (i := 85) (by decide +kernel)) rfl, TW_of (List.mem_of_getElem? (i := 740) (by decide +kernel)) rfl, by decide, by decide +kernel, by decide⟩
def mX3_move : MI := (yX3_move, cX3_move, 4, none)
theorem qX3_move : MF mX3_move 3 := ⟨TW_of (List.mem_of_getElem? (i := 85) (by decide +kernel)) rfl, TW_of (List.mem_of_getElem? (i := 1008) (by decide +kernel)) rfl, by decide, by decide +kernel, by decide⟩
def mX3_open : MI := (yX3_open, cX3_open, 4, none)
theorem qX3_open : MF mX3_open 1 := ⟨TW_of (List.mem_of_getElem? (i := 85) (by decide +kernel)) rfl, TW_of (List.mem_of_getElem? (i := 1052) (by decide +kernel)) rfl, by decide, by decide +kernel, by decide⟩
def mX3_become : MI := (yX3_become, cX3_become, 2, none)
theorem qX3_become : MF mX3_become 1 := ⟨TW_of (List.mem_of_getElem? (i := 85) (by decide +kernel)) rfl, TW_of (List.mem_of_getElem? (i := 1085) (by decide +kernel)) rfl, by decide, by decide +kernel, by decide⟩
def mX4_init : MI := (yX4_init, cX4_init, 1, none)
theorem qX4_init : MF mX4_init 0 := ⟨TW_of (List.mem_of_getElem? (i := 82) (by decide +kernel)) rfl, TW_of (List.mem_of_getElem? (i := 170) (by decide +kernel)) rfl, by decide, by decide +kernel, by decide⟩
def mX4_has : MI := (yX4_has, cX4_has, 2, (some .boolean))
theorem qX4_has : MF mX4_has 1 := ⟨TW_of (List.mem_of_getElem? (i := 82) (by decide +kernel)) rfl, TW_of (List.mem_of_getElem? (i := 531) (by decide +kernel)) rfl, by decide, by decide +kernel, by decide⟩
def mX4_all : MI := (yX4_all, cX4_all, 1, (some .int))
theorem qX4_all : MF mX4_all 0 := ⟨TW_of (List.mem_of_getElem? (i := 82) (by decide +kernel)) rfl, TW_of (List.mem_of_getElem? (i := 471) (by decide +kernel)) rfl, by decide, by decide +kernel, by decide⟩
def mX4_add : MI := (yX4_add, cX4_add, 4, (some .int))
theorem qX4_add : MF mX4_add 2 := ⟨TW_of (List.mem_of_getElem? (i := 82) (by decide +kernel)) rfl, TW_of (List.mem_of_getElem? (i := 484) (by decide +kernel)) rfl, by decide, by decide +kernel, by decide⟩
def mX4_tell : MI := (yX4_tell, cX4_tell, 3, (some .int))
theorem qX4_tell : MF mX4_tell 2 := ⟨TW_of (List.mem_of_getElem? (i := 82) (by decide +kernel)) rfl, TW_of (List.mem_of_getElem? (i := 536) (by decide +kernel)) rfl, by decide, by decide +kernel, by decide⟩
def mX4_hasPaper : MI := (yX4_hasPaper, cX4_hasPaper, 3, (some .boolean))
theorem qX4_hasPaper : MF mX4_hasPaper 2 := ⟨TW_of (List.mem_of_getElem? (i := 82) (by decide +kernel)) rfl, TW_of (List.mem_of_getElem? (i := 707) (by decide +kernel)) rfl, by decide, by decide +kernel, by decide⟩
def mX4_bills : MI := (yX4_bills, cX4_bills, 3, (some .int))
theorem qX4_bills : MF mX4_bills 0 := ⟨TW_of (List.mem_of_getElem? (i := 82) (by decide +kernel)) rfl, TW_of (List.mem_of_getElem? (i := 1177) (by decide +kernel)) rfl, by decide, by decide +kernel, by decide⟩
def mX4_part : MI := (yX4_part, cX4_part, 6, (some .int))
theorem qX4_part : MF mX4_part 2 := ⟨TW_of (List.mem_of_getElem? (i := 82) (by decide +kernel)) rfl, TW_of (List.mem_of_getElem? (i := 1117) (by decide +kernel)) rfl, by decide, by decide +kernel, by decide⟩
def mX4_become : MI := (yX4_become, cX4_become, 2, none)
theorem qX4_become : MF mX4_become 1 := ⟨TW_of (List.mem_of_getElem? (i := 82) (by decide +kernel)) rfl, TW_of (List.mem_of_getElem? (i := 1070) (by decide +kernel)) rfl, by decide, by decide +kernel, by decide⟩
def mX5_init : MI := (yX5_init, cX5_init, 1, none)
theorem qX5_init : MF mX5_init 0 := ⟨TW_of (List.mem_of_getElem? (i := 84) (by decide +kernel)) rfl, TW_of (List.mem_of_getElem? (i := 221) (by decide +kernel)) rfl, by decide, by decide +kernel, by decide⟩
def mX5_has : MI := (yX5_has, cX5_has, 2, (some .boolean))
theorem qX5_has : MF mX5_has 1 := ⟨TW_of (List.mem_of_getElem? (i := 84) (by decide +kernel)) rfl, TW_of (List.mem_of_getElem? (i := 568) (by decide +kernel)) rfl, by decide, by decide +kernel, by decide⟩
def mX5_add : MI := (yX5_add, cX5_add, 2, (some .int))
theorem qX5_add : MF mX5_add 0 := ⟨TW_of (List.mem_of_getElem? (i := 84) (by decide +kernel)) rfl, TW_of (List.mem_of_getElem? (i := 507) (by decide +kernel)) rfl, by decide, by decide +kernel, by decide⟩
def mX5_firstThere : MI := (yX5_firstThere, cX5_firstThere, 2, (some .int))
theorem qX5_firstThere : MF mX5_firstThere 0 := ⟨TW_of (List.mem_of_getElem? (i := 84) (by decide +kernel)) rfl, TW_of (List.mem_of_getElem? (i := 736) (by decide +kernel)) rfl, by decide, by decide +kernel, by decide⟩
def mX5_useOne : MI := (yX5_useOne, cX5_useOne, 3, none)
theorem qX5_useOne : MF mX5_useOne 1 := ⟨TW_of (List.mem_of_getElem? (i := 84) (by decide +kernel)) rfl, TW_of (List.mem_of_getElem? (i := 1031) (by decide +kernel)) rfl, by decide, by decide +kernel, by decide⟩
def mX5_open : MI := (yX5_open, cX5_open, 3, none)
theorem qX5_open : MF mX5_open 1 := ⟨TW_of (List.mem_of_getElem? (i := 84) (by decide +kernel)) rfl, TW_of (List.mem_of_getElem? (i := 1048) (by decide +kernel)) rfl, by decide, by decide +kernel, by decide⟩
def mX5_become : MI := (yX5_become, cX5_become, 2, none)
theorem qX5_become : MF mX5_become 1 := ⟨TW_of (List.mem_of_getElem? (i := 84) (by decide +kernel)) rfl, TW_of (List.mem_of_getElem? (i := 1080) (by decide +kernel)) rfl, by decide, by decide +kernel, by decide⟩
def mX6_init : MI := (yX6_init, cX6_init, 1, none)
theorem qX6_init : MF mX6_init 0 := ⟨TW_of (List.mem_of_getElem? (i := 87) (by decide +kernel)) rfl, TW_of (List.mem_of_getElem? (i := 381) (by decide +kernel)) rfl, by decide, by decide +kernel, by decide⟩
def mX6_has : MI := (yX6_has, cX6_has, 1, (some .boolean))
theorem qX6_has : MF mX6_has 1 := ⟨TW_of (List.mem_of_getElem? (i := 87) (by decide +kernel)) rfl, TW_of (List.mem_of_getElem? (i := 1106) (by decide +kernel)) rfl, by decide, by decide +kernel, by decide⟩
def mX6_isBits : MI := (yX6_isBits, cX6_isBits, 1, (some .boolean))
theorem qX6_isBits : MF mX6_isBits 1 := ⟨TW_of (List.mem_of_getElem? (i := 87) (by decide +kernel)) rfl, TW_of (List.mem_of_getElem? (i := 1135) (by decide +kernel)) rfl, by decide, by decide +kernel, by decide⟩
def mX6_lowest : MI := (yX6_lowest, cX6_lowest, 2, (some .int))
theorem qX6_lowest : MF mX6_lowest 2 := ⟨TW_of (List.mem_of_getElem? (i := 87) (by decide +kernel)) rfl, TW_of (List.mem_of_getElem? (i := 1147) (by decide +kernel)) rfl, by decide, by decide +kernel, by decide⟩
def mX6_lay : MI := (yX6_lay, cX6_lay, 5, (some .int))
theorem qX6_lay : MF mX6_lay 3 := ⟨TW_of (List.mem_of_getElem? (i := 87) (by decide +kernel)) rfl, TW_of (List.mem_of_getElem? (i := 1140) (by decide +kernel)) rfl, by decide, by decide +kernel, by decide⟩
def mX6_hasPart : MI := (yX6_hasPart, cX6_hasPart, 4, (some .boolean))
theorem qX6_hasPart : MF mX6_hasPart 3 := ⟨TW_of (List.mem_of_getElem? (i := 87) (by decide +kernel)) rfl, TW_of (List.mem_of_getElem? (i := 1155) (by decide +kernel)) rfl, by decide, by decide +kernel, by decide⟩
def mX7_init : MI := (yX7_init, cX7_init, 1, none)
theorem qX7_init : MF mX7_init 0 := ⟨TW_of (List.mem_of_getElem? (i := 88) (by decide +kernel)) rfl, TW_of (List.mem_of_getElem? (i := 401) (by decide +kernel)) rfl, by decide, by decide +kernel, by decide⟩
def mX7_add : MI := (yX7_add, cX7_add, 2, none)
theorem qX7_add : MF mX7_add 1 := ⟨TW_of (List.mem_of_getElem? (i := 88) (by decide +kernel)) rfl, TW_of (List.mem_of_getElem? (i := 784) (by decide +kernel)) rfl, by decide, by decide +kernel, by decide⟩
def mX7_read : MI := (yX7_read, cX7_read, 1, (some .int))
theorem qX7_read : MF mX7_read 0 := ⟨TW_of (List.mem_of_getElem? (i := 88) (by decide +kernel)) rfl, TW_of (List.mem_of_getElem? (i := 796) (by decide +kernel)) rfl, by decide, by decide +kernel, by decide⟩
def mX7_readEither : MI := (yX7_readEither, cX7_readEither, 4, (some .boolean))
theorem qX7_readEither : MF mX7_readEither 1 := ⟨TW_of (List.mem_of_getElem? (i := 88) (by decide +kernel)) rfl, TW_of (List.mem_of_getElem? (i := 931) (by decide +kernel)) rfl, by decide, by decide +kernel, by decide⟩
def mX7_readBoth : MI := (yX7_readBoth, cX7_readBoth, 4, (some .boolean))
theorem qX7_readBoth : MF mX7_readBoth 1 := ⟨TW_of (List.mem_of_getElem? (i := 88) (by decide +kernel)) rfl, TW_of (List.mem_of_getElem? (i := 935) (by decide +kernel)) rfl, by decide, by decide +kernel, by decide⟩
def mX7_readNot : MI := (yX7_readNot, cX7_readNot, 2, (some .boolean))
theorem qX7_readNot : MF mX7_readNot 1 := ⟨TW_of (List.mem_of_getElem? (i := 88) (by decide +kernel)) rfl, TW_of (List.mem_of_getElem? (i := 939) (by decide +kernel)) rfl, by decide, by decide +kernel, by decide⟩
def mX7_readCompared : MI := (yX7_readCompared, cX7_readCompared, 3, (some .boolean))
theorem qX7_readCompared : MF mX7_readCompared 1 := ⟨TW_of (List.mem_of_getElem? (i := 88) (by decide +kernel)) rfl, TW_of (List.mem_of_getElem? (i := 943) (by decide +kernel)) rfl, by decide, by decide +kernel, by decide⟩
def mX7_readSum : MI := (yX7_readSum, cX7_readSum, 5, (some .boolean))
theorem qX7_readSum : MF mX7_readSum 1 := ⟨TW_of (List.mem_of_getElem? (i := 88) (by decide +kernel)) rfl, TW_of (List.mem_of_getElem? (i := 947) (by decide +kernel)) rfl, by decide, by decide +kernel, by decide⟩
def mX7_readProduct : MI := (yX7_readProduct, cX7_readProduct, 5, (some .boolean))
theorem qX7_readProduct : MF mX7_readProduct 1 := ⟨TW_of (List.mem_of_getElem? (i := 88) (by decide +kernel)) rfl, TW_of (List.mem_of_getElem? (i := 951) (by decide +kernel)) rfl, by decide, by decide +kernel, by decide⟩
def mX7_readSingle : MI := (yX7_readSingle, cX7_readSingle, 2, (some .boolean))
theorem qX7_readSingle : MF mX7_readSingle 1 := ⟨TW_of (List.mem_of_getElem? (i := 88) (by decide +kernel)) rfl, TW_of (List.mem_of_getElem? (i := 955) (by decide +kernel)) rfl, by decide, by decide +kernel, by decide⟩
def mX7_putSign : MI := (yX7_putSign, cX7_putSign, 2, (some .boolean))
theorem qX7_putSign : MF mX7_putSign 1 := ⟨TW_of (List.mem_of_getElem? (i := 88) (by decide +kernel)) rfl, TW_of (List.mem_of_getElem? (i := 963) (by decide +kernel)) rfl, by decide, by decide +kernel, by decide⟩
def mX7_put : MI := (yX7_put, cX7_put, 2, none)
theorem qX7_put : MF mX7_put 1 := ⟨TW_of (List.mem_of_getElem? (i := 88) (by decide +kernel)) rfl, TW_of (List.mem_of_getElem? (i := 959) (by decide +kernel)) rfl, by decide, by decide +kernel, by decide⟩
def mX7_advance : MI := (yX7_advance, cX7_advance, 2, none)
theorem qX7_advance : MF mX7_advance 0 := ⟨TW_of (List.mem_of_getElem? (i := 88) (by decide +kernel)) rfl, TW_of (List.mem_of_getElem? (i := 800) (by decide +kernel)) rfl, by decide, by decide +kernel, by decide⟩
def mX7_behindAll : MI := (yX7_behindAll, cX7_behindAll, 5, (some .int))
theorem qX7_behindAll : MF mX7_behindAll 3 := ⟨TW_of (List.mem_of_getElem? (i := 88) (by decide +kernel)) rfl, TW_of (List.mem_of_getElem? (i := 804) (by decide +kernel)) rfl, by decide, by decide +kernel, by decide⟩
def mX7_takeNumber : MI := (yX7_takeNumber, cX7_takeNumber, 2, none)
theorem qX7_takeNumber : MF mX7_takeNumber 0 := ⟨TW_of (List.mem_of_getElem? (i := 88) (by decide +kernel)) rfl, TW_of (List.mem_of_getElem? (i := 869) (by decide +kernel)) rfl, by decide, by decide +kernel, by decide⟩
def mX7_takeWord : MI := (yX7_takeWord, cX7_takeWord, 1, none)
theorem qX7_takeWord : MF mX7_takeWord 0 := ⟨TW_of (List.mem_of_getElem? (i := 88) (by decide +kernel)) rfl, TW_of (List.mem_of_getElem? (i := 809) (by decide +kernel)) rfl, by decide, by decide +kernel, by decide⟩
def mX7_isWord : MI := (yX7_isWord, cX7_isWord, 4, (some .boolean))
theorem qX7_isWord : MF mX7_isWord 1 := ⟨TW_of (List.mem_of_getElem? (i := 88) (by decide +kernel)) rfl, TW_of (List.mem_of_getElem? (i := 814) (by decide +kernel)) rfl, by decide, by decide +kernel, by decide⟩
def mX8_init : MI := (yX8_init, cX8_init, 1, none)
theorem qX8_init : MF mX8_init 0 := ⟨TW_of (List.mem_of_getElem? (i := 79) (by decide +kernel)) rfl, TW_of (List.mem_of_getElem? (i := 111) (by decide +kernel)) rfl, by decide, by decide +kernel, by decide⟩
def mX8_put : MI := (yX8_put, cX8_put, 4, none)
theorem qX8_put : MF mX8_put 3 := ⟨TW_of (List.mem_of_getElem? (i := 79) (by decide +kernel)) rfl, TW_of (List.mem_of_getElem? (i := 967) (by decide +kernel)) rfl, by decide, by decide +kernel, by decide⟩
def mX8_value : MI := (yX8_value, cX8_value, 8, (some .int))
theorem qX8_value : MF mX8_value 5 := ⟨TW_of (List.mem_of_getElem? (i := 79) (by decide +kernel)) rfl, TW_of (List.mem_of_getElem? (i := 679) (by decide +kernel)) rfl, by decide, by decide +kernel, by decide⟩
def mX8_step : MI := (yX8_step, cX8_step, 5, (some .int))
theorem qX8_step : MF mX8_step 2 := ⟨TW_of (List.mem_of_getElem? (i := 79) (by decide +kernel)) rfl, TW_of (List.mem_of_getElem? (i := 683) (by decide +kernel)) rfl, by decide, by decide +kernel, by decide⟩
def mX8_push : MI := (yX8_push, cX8_push, 4, (some .int))
theorem qX8_push : MF mX8_push 2 := ⟨TW_of (List.mem_of_getElem? (i := 79) (by decide +kernel)) rfl, TW_of (List.mem_of_getElem? (i := 687) (by decide +kernel)) rfl, by decide, by decide +kernel, by decide⟩
def mX8_workOut : MI := (yX8_workOut, cX8_workOut, 3, (some .int))
theorem qX8_workOut : MF mX8_workOut 3 := ⟨TW_of (List.mem_of_getElem? (i := 79) (by decide +kernel)) rfl, TW_of (List.mem_of_getElem? (i := 690) (by decide +kernel)) rfl, by decide, by decide +kernel, by decide⟩
def mX9_init : MI := (yX9_init, cX9_init, 1, none)
theorem qX9_init : MF mX9_init 0 := ⟨TW_of (List.mem_of_getElem? (i := 83) (by decide +kernel)) rfl, TW_of (List.mem_of_getElem? (i := 202) (by decide +kernel)) rfl, by decide, by decide +kernel, by decide⟩
def mX9_place : MI := (yX9_place, cX9_place, 2, (some .int))
theorem qX9_place : MF mX9_place 2 := ⟨TW_of (List.mem_of_getElem? (i := 83) (by decide +kernel)) rfl, TW_of (List.mem_of_getElem? (i := 495) (by decide +kernel)) rfl, by decide, by decide +kernel, by decide⟩
def mX9_hasRope : MI := (yX9_hasRope, cX9_hasRope, 3, (some .boolean))
theorem qX9_hasRope : MF mX9_hasRope 2 := ⟨TW_of (List.mem_of_getElem? (i := 83) (by decide +kernel)) rfl, TW_of (List.mem_of_getElem? (i := 552) (by decide +kernel)) rfl, by decide, by decide +kernel, by decide⟩
def mX9_add : MI := (yX9_add, cX9_add, 3, (some .int))
theorem qX9_add : MF mX9_add 0 := ⟨TW_of (List.mem_of_getElem? (i := 83) (by decide +kernel)) rfl, TW_of (List.mem_of_getElem? (i := 492) (by decide +kernel)) rfl, by decide, by decide +kernel, by decide⟩
def mX9_put : MI := (yX9_put, cX9_put, 4, none)
theorem qX9_put : MF mX9_put 3 := ⟨TW_of (List.mem_of_getElem? (i := 83) (by decide +kernel)) rfl, TW_of (List.mem_of_getElem? (i := 499) (by decide +kernel)) rfl, by decide, by decide +kernel, by decide⟩
def mX9_firstOut : MI := (yX9_firstOut, cX9_firstOut, 2, (some .int))
theorem qX9_firstOut : MF mX9_firstOut 0 := ⟨TW_of (List.mem_of_getElem? (i := 83) (by decide +kernel)) rfl, TW_of (List.mem_of_getElem? (i := 728) (by decide +kernel)) rfl, by decide, by decide +kernel, by decide⟩
def mX9_firstWithBothOut : MI := (yX9_firstWithBothOut, cX9_firstWithBothOut, 2, (some .int))
theorem qX9_firstWithBothOut : MF mX9_firstWithBothOut 0 := ⟨TW_of (List.mem_of_getElem? (i := 83) (by decide +kernel)) rfl, TW_of (List.mem_of_getElem? (i := 732) (by decide +kernel)) rfl, by decide, by decide +kernel, by decide⟩
def mX9_firstToFetch : MI := (yX9_firstToFetch, cX9_firstToFetch, 2, (some .int))
theorem qX9_firstToFetch : MF mX9_firstToFetch 0 := ⟨TW_of (List.mem_of_getElem? (i := 83) (by decide +kernel)) rfl, TW_of (List.mem_of_getElem? (i := 776) (by decide +kernel)) rfl, by decide, by decide +kernel, by decide⟩
def mX9_useOne : MI := (yX9_useOne, cX9_useOne, 2, none)
theorem qX9_useOne : MF mX9_useOne 0 := ⟨TW_of (List.mem_of_getElem? (i := 83) (by decide +kernel)) rfl, TW_of (List.mem_of_getElem? (i := 1021) (by decide +kernel)) rfl, by decide, by decide +kernel, by decide⟩
def mX9_useBoth : MI := (yX9_useBoth, cX9_useBoth, 2, none)
theorem qX9_useBoth : MF mX9_useBoth 0 := ⟨TW_of (List.mem_of_getElem? (i := 83) (by decide +kernel)) rfl, TW_of (List.mem_of_getElem? (i := 1026) (by decide +kernel)) rfl, by decide, by decide +kernel, by decide⟩
def mX9_fetch : MI := (yX9_fetch, cX9_fetch, 5, none)
theorem qX9_fetch : MF mX9_fetch 2 := ⟨TW_of (List.mem_of_getElem? (i := 83) (by decide +kernel)) rfl, TW_of (List.mem_of_getElem? (i := 1036) (by decide +kernel)) rfl, by decide, by decide +kernel, by decide⟩
def mX9_open : MI := (yX9_open, cX9_open, 3, none)
theorem qX9_open : MF mX9_open 1 := ⟨TW_of (List.mem_of_getElem? (i := 83) (by decide +kernel)) rfl, TW_of (List.mem_of_getElem? (i := 1044) (by decide +kernel)) rfl, by decide, by decide +kernel, by decide⟩
def mX9_become : MI := (yX9_become, cX9_become, 2, none)
theorem qX9_become : MF mX9_become 1 := ⟨TW_of (List.mem_of_getElem? (i := 83) (by decide +kernel)) rfl, TW_of (List.mem_of_getElem? (i := 1075) (by decide +kernel)) rfl, by decide, by decide +kernel, by decide⟩
def mX10_init : MI := (yX10_init, cX10_init, 3, none)
theorem qX10_init : MF mX10_init 1 := ⟨TW_of (List.mem_of_getElem? (i := 80) (by decide +kernel)) rfl, TW_of (List.mem_of_getElem? (i := 133) (by decide +kernel)) rfl, by decide, by decide +kernel, by decide⟩
def mX10_become : MI := (yX10_become, cX10_become, 2, none)
theorem qX10_become : MF mX10_become 1 := ⟨TW_of (List.mem_of_getElem? (i := 80) (by decide +kernel)) rfl, TW_of (List.mem_of_getElem? (i := 1060) (by decide +kernel)) rfl, by decide, by decide +kernel, by decide⟩
def mX10_barred : MI := (yX10_barred, cX10_barred, 4, (some .int))
theorem qX10_barred : MF mX10_barred 0 := ⟨TW_of (List.mem_of_getElem? (i := 80) (by decide +kernel)) rfl, TW_of (List.mem_of_getElem? (i := 671) (by decide +kernel)) rfl, by decide, by decide +kernel, by decide⟩
def mX10_isBarredBy : MI := (yX10_isBarredBy, cX10_isBarredBy, 3, (some .boolean))
theorem qX10_isBarredBy : MF mX10_isBarredBy 2 := ⟨TW_of (List.mem_of_getElem? (i := 80) (by decide +kernel)) rfl, TW_of (List.mem_of_getElem? (i := 675) (by decide +kernel)) rfl, by decide, by decide +kernel, by decide⟩
def mX10_whyNot : MI := (yX10_whyNot, cX10_whyNot, 4, (some .int))
theorem qX10_whyNot : MF mX10_whyNot 2 := ⟨TW_of (List.mem_of_getElem? (i := 80) (by decide +kernel)) rfl, TW_of (List.mem_of_getElem? (i := 694) (by decide +kernel)) rfl, by decide, by decide +kernel, by decide⟩
def mX10_whyNotWith : MI := (yX10_whyNotWith, cX10_whyNotWith, 5, (some .int))
theorem qX10_whyNotWith : MF mX10_whyNotWith 1 := ⟨TW_of (List.mem_of_getElem? (i := 80) (by decide +kernel)) rfl, TW_of (List.mem_of_getElem? (i := 698) (by decide +kernel)) rfl, by decide, by decide +kernel, by decide⟩
def mX10_whyNotBy : MI := (yX10_whyNotBy, cX10_whyNotBy, 6, (some .int))
theorem qX10_whyNotBy : MF mX10_whyNotBy 1 := ⟨TW_of (List.mem_of_getElem? (i := 80) (by decide +kernel)) rfl, TW_of (List.mem_of_getElem? (i := 703) (by decide +kernel)) rfl, by decide, by decide +kernel, by decide⟩
def mX10_isRecent : MI := (yX10_isRecent, cX10_isRecent, 3, (some .boolean))
theorem qX10_isRecent : MF mX10_isRecent 1 := ⟨TW_of (List.mem_of_getElem? (i := 80) (by decide +kernel)) rfl, TW_of (List.mem_of_getElem? (i := 711) (by decide +kernel)) rfl, by decide, by decide +kernel, by decide⟩
def mX10_whyNotIn : MI := (yX10_whyNotIn, cX10_whyNotIn, 4, (some .int))
theorem qX10_whyNotIn : MF mX10_whyNotIn 2 := ⟨TW_of (List.mem_of_getElem? (i := 80) (by decide +kernel)) rfl, TW_of (List.mem_of_getElem? (i := 715) (by decide +kernel)) rfl, by decide, by decide +kernel, by decide⟩
def mX10_hasGear : MI := (yX10_hasGear, cX10_hasGear, 2, (some .boolean))
theorem qX10_hasGear : MF mX10_hasGear 1 := ⟨TW_of (List.mem_of_getElem? (i := 80) (by decide +kernel)) rfl, TW_of (List.mem_of_getElem? (i := 724) (by decide +kernel)) rfl, by decide, by decide +kernel, by decide⟩
def mX10_useGear : MI := (yX10_useGear, cX10_useGear, 3, none)
theorem qX10_useGear : MF mX10_useGear 2 := ⟨TW_of (List.mem_of_getElem? (i := 80) (by decide +kernel)) rfl, TW_of (List.mem_of_getElem? (i := 1017) (by decide +kernel)) rfl, by decide, by decide +kernel, by decide⟩
def mX10_lands : MI := (yX10_lands, cX10_lands, 2, (some .int))
theorem qX10_lands : MF mX10_lands 0 := ⟨TW_of (List.mem_of_getElem? (i := 80) (by decide +kernel)) rfl, TW_of (List.mem_of_getElem? (i := 758) (by decide +kernel)) rfl, by decide, by decide +kernel, by decide⟩
def mX10_starts : MI := (yX10_starts, cX10_starts, 3, (some .int))
theorem qX10_starts : MF mX10_starts 1 := ⟨TW_of (List.mem_of_getElem? (i := 80) (by decide +kernel)) rfl, TW_of (List.mem_of_getElem? (i := 767) (by decide +kernel)) rfl, by decide, by decide +kernel, by decide⟩
def mX10_isFetched : MI := (yX10_isFetched, cX10_isFetched, 2, (some .int))
theorem qX10_isFetched : MF mX10_isFetched 0 := ⟨TW_of (List.mem_of_getElem? (i := 80) (by decide +kernel)) rfl, TW_of (List.mem_of_getElem? (i := 772) (by decide +kernel)) rfl, by decide, by decide +kernel, by decide⟩
def mX10_first : MI := (yX10_first, cX10_first, 5, (some .int))
theorem qX10_first : MF mX10_first 1 := ⟨TW_of (List.mem_of_getElem? (i := 80) (by decide +kernel)) rfl, TW_of (List.mem_of_getElem? (i := 754) (by decide +kernel)) rfl, by decide, by decide +kernel, by decide⟩
def mX10_go : MI := (yX10_go, cX10_go, 5, (some .int))
theorem qX10_go : MF mX10_go 1 := ⟨TW_of (List.mem_of_getElem? (i := 80) (by decide +kernel)) rfl, TW_of (List.mem_of_getElem? (i := 989) (by decide +kernel)) rfl, by decide, by decide +kernel, by decide⟩
def mX10_goMinute : MI := (yX10_goMinute, cX10_goMinute, 6, (some .int))
theorem qX10_goMinute : MF mX10_goMinute 1 := ⟨TW_of (List.mem_of_getElem? (i := 80) (by decide +kernel)) rfl, TW_of (List.mem_of_getElem? (i := 994) (by decide +kernel)) rfl, by decide, by decide +kernel, by decide⟩
def mX10_comeDown : MI := (yX10_comeDown, cX10_comeDown, 5, none)
theorem qX10_comeDown : MF mX10_comeDown 1 := ⟨TW_of (List.mem_of_getElem? (i := 80) (by decide +kernel)) rfl, TW_of (List.mem_of_getElem? (i := 998) (by decide +kernel)) rfl, by decide, by decide +kernel, by decide⟩
def mX10_takeOff : MI := (yX10_takeOff, cX10_takeOff, 2, none)
theorem qX10_takeOff : MF mX10_takeOff 1 := ⟨TW_of (List.mem_of_getElem? (i := 80) (by decide +kernel)) rfl, TW_of (List.mem_of_getElem? (i := 1013) (by decide +kernel)) rfl, by decide, by decide +kernel, by decide⟩
def mX10_openNext : MI := (yX10_openNext, cX10_openNext, 1, none)
theorem qX10_openNext : MF mX10_openNext 0 := ⟨TW_of (List.mem_of_getElem? (i := 80) (by decide +kernel)) rfl, TW_of (List.mem_of_getElem? (i := 1040) (by decide +kernel)) rfl, by decide, by decide +kernel, by decide⟩
def mX10_costOf : MI := (yX10_costOf, cX10_costOf, 7, (some .int))
theorem qX10_costOf : MF mX10_costOf 1 := ⟨TW_of (List.mem_of_getElem? (i := 80) (by decide +kernel)) rfl, TW_of (List.mem_of_getElem? (i := 1002) (by decide +kernel)) rfl, by decide, by decide +kernel, by decide⟩
def mX11_init : MI := (yX11_init, cX11_init, 1, none)
theorem qX11_init : MF mX11_init 0 := ⟨TW_of (List.mem_of_getElem? (i := 78) (by decide +kernel)) rfl, TW_of (List.mem_of_getElem? (i := 103) (by decide +kernel)) rfl, by decide, by decide +kernel, by decide⟩
def mX11_glider : MI := (yX11_glider, cX11_glider, 5, (some .int))
theorem qX11_glider : MF mX11_glider 4 := ⟨TW_of (List.mem_of_getElem? (i := 78) (by decide +kernel)) rfl, TW_of (List.mem_of_getElem? (i := 459) (by decide +kernel)) rfl, by decide, by decide +kernel, by decide⟩
def mX11_person : MI := (yX11_person, cX11_person, 3, (some .int))
theorem qX11_person : MF mX11_person 2 := ⟨TW_of (List.mem_of_getElem? (i := 78) (by decide +kernel)) rfl, TW_of (List.mem_of_getElem? (i := 480) (by decide +kernel)) rfl, by decide, by decide +kernel, by decide⟩
def mX11_winch : MI := (yX11_winch, cX11_winch, 1, (some .int))
theorem qX11_winch : MF mX11_winch 0 := ⟨TW_of (List.mem_of_getElem? (i := 78) (by decide +kernel)) rfl, TW_of (List.mem_of_getElem? (i := 488) (by decide +kernel)) rfl, by decide, by decide +kernel, by decide⟩
def mX11_plane : MI := (yX11_plane, cX11_plane, 1, (some .int))
theorem qX11_plane : MF mX11_plane 0 := ⟨TW_of (List.mem_of_getElem? (i := 78) (by decide +kernel)) rfl, TW_of (List.mem_of_getElem? (i := 503) (by decide +kernel)) rfl, by decide, by decide +kernel, by decide⟩
def mX11_gliderIs : MI := (yX11_gliderIs, cX11_gliderIs, 3, (some .int))
theorem qX11_gliderIs : MF mX11_gliderIs 2 := ⟨TW_of (List.mem_of_getElem? (i := 78) (by decide +kernel)) rfl, TW_of (List.mem_of_getElem? (i := 511) (by decide +kernel)) rfl, by decide, by decide +kernel, by decide⟩
def mX11_personIs : MI := (yX11_personIs, cX11_personIs, 3, (some .int))
theorem qX11_personIs : MF mX11_personIs 2 := ⟨TW_of (List.mem_of_getElem? (i := 78) (by decide +kernel)) rfl, TW_of (List.mem_of_getElem? (i := 527) (by decide +kernel)) rfl, by decide, by decide +kernel, by decide⟩
def mX11_paper : MI := (yX11_paper, cX11_paper, 6, (some .int))
theorem qX11_paper : MF mX11_paper 3 := ⟨TW_of (List.mem_of_getElem? (i := 78) (by decide +kernel)) rfl, TW_of (List.mem_of_getElem? (i := 541) (by decide +kernel)) rfl, by decide, by decide +kernel, by decide⟩
def mX11_rope : MI := (yX11_rope, cX11_rope, 5, (some .int))
theorem qX11_rope : MF mX11_rope 3 := ⟨TW_of (List.mem_of_getElem? (i := 78) (by decide +kernel)) rfl, TW_of (List.mem_of_getElem? (i := 548) (by decide +kernel)) rfl, by decide, by decide +kernel, by decide⟩
def mX11_broken : MI := (yX11_broken, cX11_broken, 5, (some .int))
theorem qX11_broken : MF mX11_broken 2 := ⟨TW_of (List.mem_of_getElem? (i := 78) (by decide +kernel)) rfl, TW_of (List.mem_of_getElem? (i := 558) (by decide +kernel)) rfl, by decide, by decide +kernel, by decide⟩
def mX11_tow : MI := (yX11_tow, cX11_tow, 2, (some .int))
theorem qX11_tow : MF mX11_tow 1 := ⟨TW_of (List.mem_of_getElem? (i := 78) (by decide +kernel)) rfl, TW_of (List.mem_of_getElem? (i := 564) (by decide +kernel)) rfl, by decide, by decide +kernel, by decide⟩
def mX11_cross : MI := (yX11_cross, cX11_cross, 6, (some .int))
theorem qX11_cross : MF mX11_cross 3 := ⟨TW_of (List.mem_of_getElem? (i := 78) (by decide +kernel)) rfl, TW_of (List.mem_of_getElem? (i := 573) (by decide +kernel)) rfl, by decide, by decide +kernel, by decide⟩
def mX11_lane : MI := (yX11_lane, cX11_lane, 4, (some .int))
theorem qX11_lane : MF mX11_lane 2 := ⟨TW_of (List.mem_of_getElem? (i := 78) (by decide +kernel)) rfl, TW_of (List.mem_of_getElem? (i := 581) (by decide +kernel)) rfl, by decide, by decide +kernel, by decide⟩
def mX11_wind : MI := (yX11_wind, cX11_wind, 3, (some .int))
theorem qX11_wind : MF mX11_wind 1 := ⟨TW_of (List.mem_of_getElem? (i := 78) (by decide +kernel)) rfl, TW_of (List.mem_of_getElem? (i := 585) (by decide +kernel)) rfl, by decide, by decide +kernel, by decide⟩
def mX11_link : MI := (yX11_link, cX11_link, 4, (some .int))
theorem qX11_link : MF mX11_link 2 := ⟨TW_of (List.mem_of_getElem? (i := 78) (by decide +kernel)) rfl, TW_of (List.mem_of_getElem? (i := 589) (by decide +kernel)) rfl, by decide, by decide +kernel, by decide⟩
def mX11_rule : MI := (yX11_rule, cX11_rule, 4, (some .int))
theorem qX11_rule : MF mX11_rule 2 := ⟨TW_of (List.mem_of_getElem? (i := 78) (by decide +kernel)) rfl, TW_of (List.mem_of_getElem? (i := 593) (by decide +kernel)) rfl, by decide, by decide +kernel, by decide⟩
def mX11_bound : MI := (yX11_bound, cX11_bound, 2, (some .int))
theorem qX11_bound : MF mX11_bound 1 := ⟨TW_of (List.mem_of_getElem? (i := 78) (by decide +kernel)) rfl, TW_of (List.mem_of_getElem? (i := 601) (by decide +kernel)) rfl, by decide, by decide +kernel, by decide⟩
def mX11_span : MI := (yX11_span, cX11_span, 3, (some .int))
theorem qX11_span : MF mX11_span 2 := ⟨TW_of (List.mem_of_getElem? (i := 78) (by decide +kernel)) rfl, TW_of (List.mem_of_getElem? (i := 612) (by decide +kernel)) rfl, by decide, by decide +kernel, by decide⟩
def mX11_ask : MI := (yX11_ask, cX11_ask, 6, (some .int))
theorem qX11_ask : MF mX11_ask 5 := ⟨TW_of (List.mem_of_getElem? (i := 78) (by decide +kernel)) rfl, TW_of (List.mem_of_getElem? (i := 622) (by decide +kernel)) rfl, by decide, by decide +kernel, by decide⟩
def mX11_askIs : MI := (yX11_askIs, cX11_askIs, 3, (some .int))
theorem qX11_askIs : MF mX11_askIs 2 := ⟨TW_of (List.mem_of_getElem? (i := 78) (by decide +kernel)) rfl, TW_of (List.mem_of_getElem? (i := 644) (by decide +kernel)) rfl, by decide, by decide +kernel, by decide⟩
def mX11_as : MI := (yX11_as, cX11_as, 3, (some .int))
theorem qX11_as : MF mX11_as 2 := ⟨TW_of (List.mem_of_getElem? (i := 78) (by decide +kernel)) rfl, TW_of (List.mem_of_getElem? (i := 657) (by decide +kernel)) rfl, by decide, by decide +kernel, by decide⟩
def mX11_back : MI := (yX11_back, cX11_back, 2, (some .int))
theorem qX11_back : MF mX11_back 1 := ⟨TW_of (List.mem_of_getElem? (i := 78) (by decide +kernel)) rfl, TW_of (List.mem_of_getElem? (i := 663) (by decide +kernel)) rfl, by decide, by decide +kernel, by decide⟩
def mX11_why : MI := (yX11_why, cX11_why, 2, (some .int))
theorem qX11_why : MF mX11_why 1 := ⟨TW_of (List.mem_of_getElem? (i := 78) (by decide +kernel)) rfl, TW_of (List.mem_of_getElem? (i := 667) (by decide +kernel)) rfl, by decide, by decide +kernel, by decide⟩
def mX11_clear : MI := (yX11_clear, cX11_clear, 3, (some .int))
theorem qX11_clear : MF mX11_clear 2 := ⟨TW_of (List.mem_of_getElem? (i := 78) (by decide +kernel)) rfl, TW_of (List.mem_of_getElem? (i := 745) (by decide +kernel)) rfl, by decide, by decide +kernel, by decide⟩
def mX11_next : MI := (yX11_next, cX11_next, 1, (some .int))
theorem qX11_next : MF mX11_next 0 := ⟨TW_of (List.mem_of_getElem? (i := 78) (by decide +kernel)) rfl, TW_of (List.mem_of_getElem? (i := 750) (by decide +kernel)) rfl, by decide, by decide +kernel, by decide⟩
def mX11_feed : MI := (yX11_feed, cX11_feed, 4, (some .int))
theorem qX11_feed : MF mX11_feed 2 := ⟨TW_of (List.mem_of_getElem? (i := 78) (by decide +kernel)) rfl, TW_of (List.mem_of_getElem? (i := 780) (by decide +kernel)) rfl, by decide, by decide +kernel, by decide⟩
def mX11_wipe : MI := (yX11_wipe, cX11_wipe, 2, (some .int))
theorem qX11_wipe : MF mX11_wipe 0 := ⟨TW_of (List.mem_of_getElem? (i := 78) (by decide +kernel)) rfl, TW_of (List.mem_of_getElem? (i := 788) (by decide +kernel)) rfl, by decide, by decide +kernel, by decide⟩
def mX11_text : MI := (yX11_text, cX11_text, 4, (some .int))
theorem qX11_text : MF mX11_text 1 := ⟨TW_of (List.mem_of_getElem? (i := 78) (by decide +kernel)) rfl, TW_of (List.mem_of_getElem? (i := 792) (by decide +kernel)) rfl, by decide, by decide +kernel, by decide⟩
def mX11_force : MI := (yX11_force, cX11_force, 2, (some .int))
theorem qX11_force : MF mX11_force 1 := ⟨TW_of (List.mem_of_getElem? (i := 78) (by decide +kernel)) rfl, TW_of (List.mem_of_getElem? (i := 975) (by decide +kernel)) rfl, by decide, by decide +kernel, by decide⟩
def mX11_says : MI := (yX11_says, cX11_says, 5, (some .int))
theorem qX11_says : MF mX11_says 4 := ⟨TW_of (List.mem_of_getElem? (i := 78) (by decide +kernel)) rfl, TW_of (List.mem_of_getElem? (i := 980) (by decide +kernel)) rfl, by decide, by decide +kernel, by decide⟩
def mX11_run : MI := (yX11_run, cX11_run, 2, (some .int))
theorem qX11_run : MF mX11_run 1 := ⟨TW_of (List.mem_of_getElem? (i := 78) (by decide +kernel)) rfl, TW_of (List.mem_of_getElem? (i := 985) (by decide +kernel)) rfl, by decide, by decide +kernel, by decide⟩
def mX11_ahead : MI := (yX11_ahead, cX11_ahead, 4, (some .int))
theorem qX11_ahead : MF mX11_ahead 2 := ⟨TW_of (List.mem_of_getElem? (i := 78) (by decide +kernel)) rfl, TW_of (List.mem_of_getElem? (i := 1056) (by decide +kernel)) rfl, by decide, by decide +kernel, by decide⟩
def mX11_late : MI := (yX11_late, cX11_late, 2, (some .int))
theorem qX11_late : MF mX11_late 1 := ⟨TW_of (List.mem_of_getElem? (i := 78) (by decide +kernel)) rfl, TW_of (List.mem_of_getElem? (i := 1099) (by decide +kernel)) rfl, by decide, by decide +kernel, by decide⟩
def mX11_check : MI := (yX11_check, cX11_check, 7, (some .int))
theorem qX11_check : MF mX11_check 1 := ⟨TW_of (List.mem_of_getElem? (i := 78) (by decide +kernel)) rfl, TW_of (List.mem_of_getElem? (i := 1103) (by decide +kernel)) rfl, by decide, by decide +kernel, by decide⟩
def mX11_share : MI := (yX11_share, cX11_share, 4, (some .int))
theorem qX11_share : MF mX11_share 2 := ⟨TW_of (List.mem_of_getElem? (i := 78) (by decide +kernel)) rfl, TW_of (List.mem_of_getElem? (i := 1113) (by decide +kernel)) rfl, by decide, by decide +kernel, by decide⟩
def mX11_pay : MI := (yX11_pay, cX11_pay, 3, (some .int))
theorem qX11_pay : MF mX11_pay 2 := ⟨TW_of (List.mem_of_getElem? (i := 78) (by decide +kernel)) rfl, TW_of (List.mem_of_getElem? (i := 1127) (by decide +kernel)) rfl, by decide, by decide +kernel, by decide⟩
def mX11_sheet : MI := (yX11_sheet, cX11_sheet, 4, (some .int))
theorem qX11_sheet : MF mX11_sheet 3 := ⟨TW_of (List.mem_of_getElem? (i := 78) (by decide +kernel)) rfl, TW_of (List.mem_of_getElem? (i := 1132) (by decide +kernel)) rfl, by decide, by decide +kernel, by decide⟩
def mX11_write : MI := (yX11_write, cX11_write, 4, (some .int))
theorem qX11_write : MF mX11_write 3 := ⟨TW_of (List.mem_of_getElem? (i := 78) (by decide +kernel)) rfl, TW_of (List.mem_of_getElem? (i := 1144) (by decide +kernel)) rfl, by decide, by decide +kernel, by decide⟩
def mX11_copy : MI := (yX11_copy, cX11_copy, 6, (some .int))
theorem qX11_copy : MF mX11_copy 5 := ⟨TW_of (List.mem_of_getElem? (i := 78) (by decide +kernel)) rfl, TW_of (List.mem_of_getElem? (i := 1151) (by decide +kernel)) rfl, by decide, by decide +kernel, by decide⟩
def mX11_image : MI := (yX11_image, cX11_image, 1, (some .int))
theorem qX11_image : MF mX11_image 0 := ⟨TW_of (List.mem_of_getElem? (i := 78) (by decide +kernel)) rfl, TW_of (List.mem_of_getElem? (i := 1160) (by decide +kernel)) rfl, by decide, by decide +kernel, by decide⟩
def mX11_undo : MI := (yX11_undo, cX11_undo, 1, (some .int))
theorem qX11_undo : MF mX11_undo 0 := ⟨TW_of (List.mem_of_getElem? (i := 78) (by decide +kernel)) rfl, TW_of (List.mem_of_getElem? (i := 1164) (by decide +kernel)) rfl, by decide, by decide +kernel, by decide⟩
def mX11_tear : MI := (yX11_tear, cX11_tear, 2, (some .int))
theorem qX11_tear : MF mX11_tear 0 := ⟨TW_of (List.mem_of_getElem? (i := 78) (by decide +kernel)) rfl, TW_of (List.mem_of_getElem? (i := 1168) (by decide +kernel)) rfl, by decide, by decide +kernel, by decide⟩
def mX11_count : MI := (yX11_count, cX11_count, 2, (some .int))
theorem qX11_count : MF mX11_count 1 := ⟨TW_of (List.mem_of_getElem? (i := 78) (by decide +kernel)) rfl, TW_of (List.mem_of_getElem? (i := 1172) (by decide +kernel)) rfl, by decide, by decide +kernel, by decide⟩
def mX11_status : MI := (yX11_status, cX11_status, 4, (some .int))
theorem qX11_status : MF mX11_status 1 := ⟨TW_of (List.mem_of_getElem? (i := 78) (by decide +kernel)) rfl, TW_of (List.mem_of_getElem? (i := 1181) (by decide +kernel)) rfl, by decide, by decide +kernel, by decide⟩
def mX11_found : MI := (yX11_found, cX11_found, 3, (some .int))
theorem qX11_found : MF mX11_found 1 := ⟨TW_of (List.mem_of_getElem? (i := 78) (by decide +kernel)) rfl, TW_of (List.mem_of_getElem? (i := 467) (by decide +kernel)) rfl, by decide, by decide +kernel, by decide⟩
def mX11_mayBeAlong : MI := (yX11_mayBeAlong, cX11_mayBeAlong, 3, (some .boolean))
theorem qX11_mayBeAlong : MF mX11_mayBeAlong 2 := ⟨TW_of (List.mem_of_getElem? (i := 78) (by decide +kernel)) rfl, TW_of (List.mem_of_getElem? (i := 626) (by decide +kernel)) rfl, by decide, by decide +kernel, by decide⟩
def mX11_isHow : MI := (yX11_isHow, cX11_isHow, 1, (some .boolean))
theorem qX11_isHow : MF mX11_isHow 1 := ⟨TW_of (List.mem_of_getElem? (i := 78) (by decide +kernel)) rfl, TW_of (List.mem_of_getElem? (i := 629) (by decide +kernel)) rfl, by decide, by decide +kernel, by decide⟩
def mX11_within : MI := (yX11_within, cX11_within, 3, (some .boolean))
theorem qX11_within : MF mX11_within 3 := ⟨TW_of (List.mem_of_getElem? (i := 78) (by decide +kernel)) rfl, TW_of (List.mem_of_getElem? (i := 462) (by decide +kernel)) rfl, by decide, by decide +kernel, by decide⟩
def mX11_withBit : MI := (yX11_withBit, cX11_withBit, 3, (some .int))
theorem qX11_withBit : MF mX11_withBit 3 := ⟨TW_of (List.mem_of_getElem? (i := 78) (by decide +kernel)) rfl, TW_of (List.mem_of_getElem? (i := 544) (by decide +kernel)) rfl, by decide, by decide +kernel, by decide⟩
def mX11_hasBit : MI := (yX11_hasBit, cX11_hasBit, 2, (some .boolean))
theorem qX11_hasBit : MF mX11_hasBit 2 := ⟨TW_of (List.mem_of_getElem? (i := 78) (by decide +kernel)) rfl, TW_of (List.mem_of_getElem? (i := 523) (by decide +kernel)) rfl, by decide, by decide +kernel, by decide⟩
def mX12_init : MI := (yX12_init, cX12_init, 2, none)
theorem qX12_init : MF mX12_init 0 := ⟨TW_of (List.mem_of_getElem? (i := 89) (by decide +kernel)) rfl, TW_of (List.mem_of_getElem? (i := 1186) (by decide +kernel)) rfl, by decide, by decide +kernel, by decide⟩
def mX12_finding : MI := (yX12_finding, cX12_finding, 2, (some .int))
theorem qX12_finding : MF mX12_finding 1 := ⟨TW_of (List.mem_of_getElem? (i := 89) (by decide +kernel)) rfl, TW_of (List.mem_of_getElem? (i := 1278) (by decide +kernel)) rfl, by decide, by decide +kernel, by decide⟩
def mX12_within : MI := (yX12_within, cX12_within, 3, (some .boolean))
theorem qX12_within : MF mX12_within 3 := ⟨TW_of (List.mem_of_getElem? (i := 89) (by decide +kernel)) rfl, TW_of (List.mem_of_getElem? (i := 1273) (by decide +kernel)) rfl, by decide, by decide +kernel, by decide⟩
def mX12_is : MI := (yX12_is, cX12_is, 3, (some .boolean))
theorem qX12_is : MF mX12_is 2 := ⟨TW_of (List.mem_of_getElem? (i := 89) (by decide +kernel)) rfl, TW_of (List.mem_of_getElem? (i := 1299) (by decide +kernel)) rfl, by decide, by decide +kernel, by decide⟩
def mX12_has : MI := (yX12_has, cX12_has, 2, (some .boolean))
theorem qX12_has : MF mX12_has 2 := ⟨TW_of (List.mem_of_getElem? (i := 89) (by decide +kernel)) rfl, TW_of (List.mem_of_getElem? (i := 1434) (by decide +kernel)) rfl, by decide, by decide +kernel, by decide⟩
def mX12_become : MI := (yX12_become, cX12_become, 4, (some .int))
theorem qX12_become : MF mX12_become 2 := ⟨TW_of (List.mem_of_getElem? (i := 89) (by decide +kernel)) rfl, TW_of (List.mem_of_getElem? (i := 1366) (by decide +kernel)) rfl, by decide, by decide +kernel, by decide⟩
def mX12_gliderOf : MI := (yX12_gliderOf, cX12_gliderOf, 3, (some .int))
theorem qX12_gliderOf : MF mX12_gliderOf 2 := ⟨TW_of (List.mem_of_getElem? (i := 89) (by decide +kernel)) rfl, TW_of (List.mem_of_getElem? (i := 1303) (by decide +kernel)) rfl, by decide, by decide +kernel, by decide⟩
def mX12_personOf : MI := (yX12_personOf, cX12_personOf, 3, (some .int))
theorem qX12_personOf : MF mX12_personOf 2 := ⟨TW_of (List.mem_of_getElem? (i := 89) (by decide +kernel)) rfl, TW_of (List.mem_of_getElem? (i := 1319) (by decide +kernel)) rfl, by decide, by decide +kernel, by decide⟩
def mX12_askOf : MI := (yX12_askOf, cX12_askOf, 3, (some .int))
theorem qX12_askOf : MF mX12_askOf 2 := ⟨TW_of (List.mem_of_getElem? (i := 89) (by decide +kernel)) rfl, TW_of (List.mem_of_getElem? (i := 1311) (by decide +kernel)) rfl, by decide, by decide +kernel, by decide⟩
def mX12_glider : MI := (yX12_glider, cX12_glider, 7, (some .int))
theorem qX12_glider : MF mX12_glider 4 := ⟨TW_of (List.mem_of_getElem? (i := 89) (by decide +kernel)) rfl, TW_of (List.mem_of_getElem? (i := 1270) (by decide +kernel)) rfl, by decide, by decide +kernel, by decide⟩
def mX12_person : MI := (yX12_person, cX12_person, 5, (some .int))
theorem qX12_person : MF mX12_person 2 := ⟨TW_of (List.mem_of_getElem? (i := 89) (by decide +kernel)) rfl, TW_of (List.mem_of_getElem? (i := 1283) (by decide +kernel)) rfl, by decide, by decide +kernel, by decide⟩
def mX12_winch : MI := (yX12_winch, cX12_winch, 3, (some .int))
theorem qX12_winch : MF mX12_winch 0 := ⟨TW_of (List.mem_of_getElem? (i := 89) (by decide +kernel)) rfl, TW_of (List.mem_of_getElem? (i := 1287) (by decide +kernel)) rfl, by decide, by decide +kernel, by decide⟩
def mX12_plane : MI := (yX12_plane, cX12_plane, 2, (some .int))
theorem qX12_plane : MF mX12_plane 0 := ⟨TW_of (List.mem_of_getElem? (i := 89) (by decide +kernel)) rfl, TW_of (List.mem_of_getElem? (i := 1291) (by decide +kernel)) rfl, by decide, by decide +kernel, by decide⟩
def mX12_isInRow : MI := (yX12_isInRow, cX12_isInRow, 4, (some .boolean))
theorem qX12_isInRow : MF mX12_isInRow 1 := ⟨TW_of (List.mem_of_getElem? (i := 89) (by decide +kernel)) rfl, TW_of (List.mem_of_getElem? (i := 1307) (by decide +kernel)) rfl, by decide, by decide +kernel, by decide⟩
def mX12_isInAir : MI := (yX12_isInAir, cX12_isInAir, 4, (some .boolean))
theorem qX12_isInAir : MF mX12_isInAir 1 := ⟨TW_of (List.mem_of_getElem? (i := 89) (by decide +kernel)) rfl, TW_of (List.mem_of_getElem? (i := 1323) (by decide +kernel)) rfl, by decide, by decide +kernel, by decide⟩
def mX12_gliderIs : MI := (yX12_gliderIs, cX12_gliderIs, 3, (some .int))
theorem qX12_gliderIs : MF mX12_gliderIs 2 := ⟨TW_of (List.mem_of_getElem? (i := 89) (by decide +kernel)) rfl, TW_of (List.mem_of_getElem? (i := 1295) (by decide +kernel)) rfl, by decide, by decide +kernel, by decide⟩
def mX12_personIs : MI := (yX12_personIs, cX12_personIs, 3, (some .int))
theorem qX12_personIs : MF mX12_personIs 2 := ⟨TW_of (List.mem_of_getElem? (i := 89) (by decide +kernel)) rfl, TW_of (List.mem_of_getElem? (i := 1315) (by decide +kernel)) rfl, by decide, by decide +kernel, by decide⟩
def mX12_bit : MI := (yX12_bit, cX12_bit, 5, (some .int))
theorem qX12_bit : MF mX12_bit 3 := ⟨TW_of (List.mem_of_getElem? (i := 89) (by decide +kernel)) rfl, TW_of (List.mem_of_getElem? (i := 1331) (by decide +kernel)) rfl, by decide, by decide +kernel, by decide⟩
def mX12_paper : MI := (yX12_paper, cX12_paper, 4, (some .int))
theorem qX12_paper : MF mX12_paper 3 := ⟨TW_of (List.mem_of_getElem? (i := 89) (by decide +kernel)) rfl, TW_of (List.mem_of_getElem? (i := 1327) (by decide +kernel)) rfl, by decide, by decide +kernel, by decide⟩
def mX12_ropeAt : MI := (yX12_ropeAt, cX12_ropeAt, 2, (some .int))
theorem qX12_ropeAt : MF mX12_ropeAt 2 := ⟨TW_of (List.mem_of_getElem? (i := 89) (by decide +kernel)) rfl, TW_of (List.mem_of_getElem? (i := 1338) (by decide +kernel)) rfl, by decide, by decide +kernel, by decide⟩
def mX12_rope : MI := (yX12_rope, cX12_rope, 4, (some .int))
theorem qX12_rope : MF mX12_rope 3 := ⟨TW_of (List.mem_of_getElem? (i := 89) (by decide +kernel)) rfl, TW_of (List.mem_of_getElem? (i := 1335) (by decide +kernel)) rfl, by decide, by decide +kernel, by decide⟩
def mX12_ropeIs : MI := (yX12_ropeIs, cX12_ropeIs, 5, none)
theorem qX12_ropeIs : MF mX12_ropeIs 4 := ⟨TW_of (List.mem_of_getElem? (i := 89) (by decide +kernel)) rfl, TW_of (List.mem_of_getElem? (i := 1347) (by decide +kernel)) rfl, by decide, by decide +kernel, by decide⟩
def mX12_broken : MI := (yX12_broken, cX12_broken, 3, (some .int))
theorem qX12_broken : MF mX12_broken 2 := ⟨TW_of (List.mem_of_getElem? (i := 89) (by decide +kernel)) rfl, TW_of (List.mem_of_getElem? (i := 1342) (by decide +kernel)) rfl, by decide, by decide +kernel, by decide⟩
def mX12_tow : MI := (yX12_tow, cX12_tow, 2, (some .int))
theorem qX12_tow : MF mX12_tow 1 := ⟨TW_of (List.mem_of_getElem? (i := 89) (by decide +kernel)) rfl, TW_of (List.mem_of_getElem? (i := 1351) (by decide +kernel)) rfl, by decide, by decide +kernel, by decide⟩
def mX12_isLane : MI := (yX12_isLane, cX12_isLane, 1, (some .boolean))
theorem qX12_isLane : MF mX12_isLane 1 := ⟨TW_of (List.mem_of_getElem? (i := 89) (by decide +kernel)) rfl, TW_of (List.mem_of_getElem? (i := 1358) (by decide +kernel)) rfl, by decide, by decide +kernel, by decide⟩
def mX12_cross : MI := (yX12_cross, cX12_cross, 5, (some .int))
theorem qX12_cross : MF mX12_cross 3 := ⟨TW_of (List.mem_of_getElem? (i := 89) (by decide +kernel)) rfl, TW_of (List.mem_of_getElem? (i := 1355) (by decide +kernel)) rfl, by decide, by decide +kernel, by decide⟩
def mX12_lane : MI := (yX12_lane, cX12_lane, 3, (some .int))
theorem qX12_lane : MF mX12_lane 2 := ⟨TW_of (List.mem_of_getElem? (i := 89) (by decide +kernel)) rfl, TW_of (List.mem_of_getElem? (i := 1362) (by decide +kernel)) rfl, by decide, by decide +kernel, by decide⟩
def mX12_wind : MI := (yX12_wind, cX12_wind, 2, (some .int))
theorem qX12_wind : MF mX12_wind 1 := ⟨TW_of (List.mem_of_getElem? (i := 89) (by decide +kernel)) rfl, TW_of (List.mem_of_getElem? (i := 1370) (by decide +kernel)) rfl, by decide, by decide +kernel, by decide⟩
def mX12_link : MI := (yX12_link, cX12_link, 3, (some .int))
theorem qX12_link : MF mX12_link 2 := ⟨TW_of (List.mem_of_getElem? (i := 89) (by decide +kernel)) rfl, TW_of (List.mem_of_getElem? (i := 1374) (by decide +kernel)) rfl, by decide, by decide +kernel, by decide⟩
def mX12_rule : MI := (yX12_rule, cX12_rule, 4, (some .int))
theorem qX12_rule : MF mX12_rule 2 := ⟨TW_of (List.mem_of_getElem? (i := 89) (by decide +kernel)) rfl, TW_of (List.mem_of_getElem? (i := 1378) (by decide +kernel)) rfl, by decide, by decide +kernel, by decide⟩
def mX12_isKind : MI := (yX12_isKind, cX12_isKind, 1, (some .boolean))
theorem qX12_isKind : MF mX12_isKind 1 := ⟨TW_of (List.mem_of_getElem? (i := 89) (by decide +kernel)) rfl, TW_of (List.mem_of_getElem? (i := 1385) (by decide +kernel)) rfl, by decide, by decide +kernel, by decide⟩
def mX12_boundOf : MI := (yX12_boundOf, cX12_boundOf, 1, (some .int))
theorem qX12_boundOf : MF mX12_boundOf 1 := ⟨TW_of (List.mem_of_getElem? (i := 89) (by decide +kernel)) rfl, TW_of (List.mem_of_getElem? (i := 1388) (by decide +kernel)) rfl, by decide, by decide +kernel, by decide⟩
def mX12_spanOf : MI := (yX12_spanOf, cX12_spanOf, 2, (some .int))
theorem qX12_spanOf : MF mX12_spanOf 2 := ⟨TW_of (List.mem_of_getElem? (i := 89) (by decide +kernel)) rfl, TW_of (List.mem_of_getElem? (i := 1395) (by decide +kernel)) rfl, by decide, by decide +kernel, by decide⟩
def mX12_bound : MI := (yX12_bound, cX12_bound, 2, (some .int))
theorem qX12_bound : MF mX12_bound 1 := ⟨TW_of (List.mem_of_getElem? (i := 89) (by decide +kernel)) rfl, TW_of (List.mem_of_getElem? (i := 1382) (by decide +kernel)) rfl, by decide, by decide +kernel, by decide⟩
def mX12_span : MI := (yX12_span, cX12_span, 3, (some .int))
theorem qX12_span : MF mX12_span 2 := ⟨TW_of (List.mem_of_getElem? (i := 89) (by decide +kernel)) rfl, TW_of (List.mem_of_getElem? (i := 1392) (by decide +kernel)) rfl, by decide, by decide +kernel, by decide⟩
def mX12_ask : MI := (yX12_ask, cX12_ask, 9, (some .int))
theorem qX12_ask : MF mX12_ask 5 := ⟨TW_of (List.mem_of_getElem? (i := 89) (by decide +kernel)) rfl, TW_of (List.mem_of_getElem? (i := 1400) (by decide +kernel)) rfl, by decide, by decide +kernel, by decide⟩
def mX12_askIs : MI := (yX12_askIs, cX12_askIs, 3, (some .int))
theorem qX12_askIs : MF mX12_askIs 2 := ⟨TW_of (List.mem_of_getElem? (i := 89) (by decide +kernel)) rfl, TW_of (List.mem_of_getElem? (i := 1404) (by decide +kernel)) rfl, by decide, by decide +kernel, by decide⟩
def mX12_above : MI := (yX12_above, cX12_above, 1, (some .int))
theorem qX12_above : MF mX12_above 1 := ⟨TW_of (List.mem_of_getElem? (i := 89) (by decide +kernel)) rfl, TW_of (List.mem_of_getElem? (i := 1414) (by decide +kernel)) rfl, by decide, by decide +kernel, by decide⟩
def mX12_isUnder : MI := (yX12_isUnder, cX12_isUnder, 3, (some .boolean))
theorem qX12_isUnder : MF mX12_isUnder 2 := ⟨TW_of (List.mem_of_getElem? (i := 89) (by decide +kernel)) rfl, TW_of (List.mem_of_getElem? (i := 1411) (by decide +kernel)) rfl, by decide, by decide +kernel, by decide⟩
def mX12_as : MI := (yX12_as, cX12_as, 3, (some .int))
theorem qX12_as : MF mX12_as 2 := ⟨TW_of (List.mem_of_getElem? (i := 89) (by decide +kernel)) rfl, TW_of (List.mem_of_getElem? (i := 1408) (by decide +kernel)) rfl, by decide, by decide +kernel, by decide⟩
def mX12_back : MI := (yX12_back, cX12_back, 2, (some .int))
theorem qX12_back : MF mX12_back 1 := ⟨TW_of (List.mem_of_getElem? (i := 89) (by decide +kernel)) rfl, TW_of (List.mem_of_getElem? (i := 1419) (by decide +kernel)) rfl, by decide, by decide +kernel, by decide⟩
def mX12_isClear : MI := (yX12_isClear, cX12_isClear, 5, (some .boolean))
theorem qX12_isClear : MF mX12_isClear 2 := ⟨TW_of (List.mem_of_getElem? (i := 89) (by decide +kernel)) rfl, TW_of (List.mem_of_getElem? (i := 1469) (by decide +kernel)) rfl, by decide, by decide +kernel, by decide⟩
def mX12_moves : MI := (yX12_moves, cX12_moves, 3, none)
theorem qX12_moves : MF mX12_moves 2 := ⟨TW_of (List.mem_of_getElem? (i := 89) (by decide +kernel)) rfl, TW_of (List.mem_of_getElem? (i := 1514) (by decide +kernel)) rfl, by decide, by decide +kernel, by decide⟩
def mX12_laneOf : MI := (yX12_laneOf, cX12_laneOf, 2, (some .int))
theorem qX12_laneOf : MF mX12_laneOf 1 := ⟨TW_of (List.mem_of_getElem? (i := 89) (by decide +kernel)) rfl, TW_of (List.mem_of_getElem? (i := 1461) (by decide +kernel)) rfl, by decide, by decide +kernel, by decide⟩
def mX12_spanOfAsk : MI := (yX12_spanOfAsk, cX12_spanOfAsk, 2, (some .int))
theorem qX12_spanOfAsk : MF mX12_spanOfAsk 1 := ⟨TW_of (List.mem_of_getElem? (i := 89) (by decide +kernel)) rfl, TW_of (List.mem_of_getElem? (i := 1465) (by decide +kernel)) rfl, by decide, by decide +kernel, by decide⟩
def mX12_hasPapers : MI := (yX12_hasPapers, cX12_hasPapers, 3, (some .boolean))
theorem qX12_hasPapers : MF mX12_hasPapers 2 := ⟨TW_of (List.mem_of_getElem? (i := 89) (by decide +kernel)) rfl, TW_of (List.mem_of_getElem? (i := 1431) (by decide +kernel)) rfl, by decide, by decide +kernel, by decide⟩
def mX12_winchFor : MI := (yX12_winchFor, cX12_winchFor, 5, (some .int))
theorem qX12_winchFor : MF mX12_winchFor 1 := ⟨TW_of (List.mem_of_getElem? (i := 89) (by decide +kernel)) rfl, TW_of (List.mem_of_getElem? (i := 1453) (by decide +kernel)) rfl, by decide, by decide +kernel, by decide⟩
def mX12_planeThere : MI := (yX12_planeThere, cX12_planeThere, 2, (some .int))
theorem qX12_planeThere : MF mX12_planeThere 0 := ⟨TW_of (List.mem_of_getElem? (i := 89) (by decide +kernel)) rfl, TW_of (List.mem_of_getElem? (i := 1457) (by decide +kernel)) rfl, by decide, by decide +kernel, by decide⟩
def mX12_hasHelp : MI := (yX12_hasHelp, cX12_hasHelp, 2, (some .boolean))
theorem qX12_hasHelp : MF mX12_hasHelp 1 := ⟨TW_of (List.mem_of_getElem? (i := 89) (by decide +kernel)) rfl, TW_of (List.mem_of_getElem? (i := 1449) (by decide +kernel)) rfl, by decide, by decide +kernel, by decide⟩
def mX12_whyNot : MI := (yX12_whyNot, cX12_whyNot, 11, (some .int))
theorem qX12_whyNot : MF mX12_whyNot 1 := ⟨TW_of (List.mem_of_getElem? (i := 89) (by decide +kernel)) rfl, TW_of (List.mem_of_getElem? (i := 1427) (by decide +kernel)) rfl, by decide, by decide +kernel, by decide⟩
def mX12_why : MI := (yX12_why, cX12_why, 2, (some .int))
theorem qX12_why : MF mX12_why 1 := ⟨TW_of (List.mem_of_getElem? (i := 89) (by decide +kernel)) rfl, TW_of (List.mem_of_getElem? (i := 1423) (by decide +kernel)) rfl, by decide, by decide +kernel, by decide⟩
def mX12_clear : MI := (yX12_clear, cX12_clear, 3, (some .int))
theorem qX12_clear : MF mX12_clear 2 := ⟨TW_of (List.mem_of_getElem? (i := 89) (by decide +kernel)) rfl, TW_of (List.mem_of_getElem? (i := 1473) (by decide +kernel)) rfl, by decide, by decide +kernel, by decide⟩
def mX12_dueOf : MI := (yX12_dueOf, cX12_dueOf, 2, (some .int))
theorem qX12_dueOf : MF mX12_dueOf 1 := ⟨TW_of (List.mem_of_getElem? (i := 89) (by decide +kernel)) rfl, TW_of (List.mem_of_getElem? (i := 1485) (by decide +kernel)) rfl, by decide, by decide +kernel, by decide⟩
def mX12_lands : MI := (yX12_lands, cX12_lands, 4, (some .int))
theorem qX12_lands : MF mX12_lands 0 := ⟨TW_of (List.mem_of_getElem? (i := 89) (by decide +kernel)) rfl, TW_of (List.mem_of_getElem? (i := 1481) (by decide +kernel)) rfl, by decide, by decide +kernel, by decide⟩
def mX12_starts : MI := (yX12_starts, cX12_starts, 2, (some .int))
theorem qX12_starts : MF mX12_starts 0 := ⟨TW_of (List.mem_of_getElem? (i := 89) (by decide +kernel)) rfl, TW_of (List.mem_of_getElem? (i := 1489) (by decide +kernel)) rfl, by decide, by decide +kernel, by decide⟩
def mX12_fetches : MI := (yX12_fetches, cX12_fetches, 2, (some .int))
theorem qX12_fetches : MF mX12_fetches 0 := ⟨TW_of (List.mem_of_getElem? (i := 89) (by decide +kernel)) rfl, TW_of (List.mem_of_getElem? (i := 1493) (by decide +kernel)) rfl, by decide, by decide +kernel, by decide⟩
def mX12_next : MI := (yX12_next, cX12_next, 4, (some .int))
theorem qX12_next : MF mX12_next 0 := ⟨TW_of (List.mem_of_getElem? (i := 89) (by decide +kernel)) rfl, TW_of (List.mem_of_getElem? (i := 1477) (by decide +kernel)) rfl, by decide, by decide +kernel, by decide⟩
def mX12_costOf : MI := (yX12_costOf, cX12_costOf, 5, (some .int))
theorem qX12_costOf : MF mX12_costOf 1 := ⟨TW_of (List.mem_of_getElem? (i := 89) (by decide +kernel)) rfl, TW_of (List.mem_of_getElem? (i := 1509) (by decide +kernel)) rfl, by decide, by decide +kernel, by decide⟩
def mX12_goesDown : MI := (yX12_goesDown, cX12_goesDown, 3, none)
theorem qX12_goesDown : MF mX12_goesDown 1 := ⟨TW_of (List.mem_of_getElem? (i := 89) (by decide +kernel)) rfl, TW_of (List.mem_of_getElem? (i := 1505) (by decide +kernel)) rfl, by decide, by decide +kernel, by decide⟩
def mX12_goesUp : MI := (yX12_goesUp, cX12_goesUp, 6, none)
theorem qX12_goesUp : MF mX12_goesUp 1 := ⟨TW_of (List.mem_of_getElem? (i := 89) (by decide +kernel)) rfl, TW_of (List.mem_of_getElem? (i := 1518) (by decide +kernel)) rfl, by decide, by decide +kernel, by decide⟩
def mX12_isFetched : MI := (yX12_isFetched, cX12_isFetched, 3, none)
theorem qX12_isFetched : MF mX12_isFetched 1 := ⟨TW_of (List.mem_of_getElem? (i := 89) (by decide +kernel)) rfl, TW_of (List.mem_of_getElem? (i := 1522) (by decide +kernel)) rfl, by decide, by decide +kernel, by decide⟩
def mX12_opens : MI := (yX12_opens, cX12_opens, 4, none)
theorem qX12_opens : MF mX12_opens 0 := ⟨TW_of (List.mem_of_getElem? (i := 89) (by decide +kernel)) rfl, TW_of (List.mem_of_getElem? (i := 1526) (by decide +kernel)) rfl, by decide, by decide +kernel, by decide⟩
def mX12_goes : MI := (yX12_goes, cX12_goes, 4, (some .int))
theorem qX12_goes : MF mX12_goes 0 := ⟨TW_of (List.mem_of_getElem? (i := 89) (by decide +kernel)) rfl, TW_of (List.mem_of_getElem? (i := 1501) (by decide +kernel)) rfl, by decide, by decide +kernel, by decide⟩
def mX12_run : MI := (yX12_run, cX12_run, 4, (some .int))
theorem qX12_run : MF mX12_run 1 := ⟨TW_of (List.mem_of_getElem? (i := 89) (by decide +kernel)) rfl, TW_of (List.mem_of_getElem? (i := 1497) (by decide +kernel)) rfl, by decide, by decide +kernel, by decide⟩
def mX12_copyRow : MI := (yX12_copyRow, cX12_copyRow, 3, none)
theorem qX12_copyRow : MF mX12_copyRow 2 := ⟨TW_of (List.mem_of_getElem? (i := 89) (by decide +kernel)) rfl, TW_of (List.mem_of_getElem? (i := 1537) (by decide +kernel)) rfl, by decide, by decide +kernel, by decide⟩
def mX12_asksThat : MI := (yX12_asksThat, cX12_asksThat, 4, (some .int))
theorem qX12_asksThat : MF mX12_asksThat 1 := ⟨TW_of (List.mem_of_getElem? (i := 89) (by decide +kernel)) rfl, TW_of (List.mem_of_getElem? (i := 1541) (by decide +kernel)) rfl, by decide, by decide +kernel, by decide⟩
def mX12_goBeside : MI := (yX12_goBeside, cX12_goBeside, 4, none)
theorem qX12_goBeside : MF mX12_goBeside 1 := ⟨TW_of (List.mem_of_getElem? (i := 89) (by decide +kernel)) rfl, TW_of (List.mem_of_getElem? (i := 1534) (by decide +kernel)) rfl, by decide, by decide +kernel, by decide⟩
def mX12_ahead : MI := (yX12_ahead, cX12_ahead, 3, (some .int))
theorem qX12_ahead : MF mX12_ahead 2 := ⟨TW_of (List.mem_of_getElem? (i := 89) (by decide +kernel)) rfl, TW_of (List.mem_of_getElem? (i := 1530) (by decide +kernel)) rfl, by decide, by decide +kernel, by decide⟩
def mX12_late : MI := (yX12_late, cX12_late, 2, (some .int))
theorem qX12_late : MF mX12_late 1 := ⟨TW_of (List.mem_of_getElem? (i := 89) (by decide +kernel)) rfl, TW_of (List.mem_of_getElem? (i := 1545) (by decide +kernel)) rfl, by decide, by decide +kernel, by decide⟩
def mX12_feed : MI := (yX12_feed, cX12_feed, 4, (some .int))
theorem qX12_feed : MF mX12_feed 2 := ⟨TW_of (List.mem_of_getElem? (i := 89) (by decide +kernel)) rfl, TW_of (List.mem_of_getElem? (i := 1549) (by decide +kernel)) rfl, by decide, by decide +kernel, by decide⟩
def mX12_wipe : MI := (yX12_wipe, cX12_wipe, 2, (some .int))
theorem qX12_wipe : MF mX12_wipe 0 := ⟨TW_of (List.mem_of_getElem? (i := 89) (by decide +kernel)) rfl, TW_of (List.mem_of_getElem? (i := 1553) (by decide +kernel)) rfl, by decide, by decide +kernel, by decide⟩
def mX12_isByte : MI := (yX12_isByte, cX12_isByte, 4, (some .boolean))
theorem qX12_isByte : MF mX12_isByte 3 := ⟨TW_of (List.mem_of_getElem? (i := 89) (by decide +kernel)) rfl, TW_of (List.mem_of_getElem? (i := 1565) (by decide +kernel)) rfl, by decide, by decide +kernel, by decide⟩
def mX12_nextToken : MI := (yX12_nextToken, cX12_nextToken, 1, none)
theorem qX12_nextToken : MF mX12_nextToken 0 := ⟨TW_of (List.mem_of_getElem? (i := 89) (by decide +kernel)) rfl, TW_of (List.mem_of_getElem? (i := 1561) (by decide +kernel)) rfl, by decide, by decide +kernel, by decide⟩
def mX12_need : MI := (yX12_need, cX12_need, 2, none)
theorem qX12_need : MF mX12_need 1 := ⟨TW_of (List.mem_of_getElem? (i := 89) (by decide +kernel)) rfl, TW_of (List.mem_of_getElem? (i := 1585) (by decide +kernel)) rfl, by decide, by decide +kernel, by decide⟩
def mX12_isWord : MI := (yX12_isWord, cX12_isWord, 4, (some .boolean))
theorem qX12_isWord : MF mX12_isWord 1 := ⟨TW_of (List.mem_of_getElem? (i := 89) (by decide +kernel)) rfl, TW_of (List.mem_of_getElem? (i := 1605) (by decide +kernel)) rfl, by decide, by decide +kernel, by decide⟩
def mX12_isSign : MI := (yX12_isSign, cX12_isSign, 2, (some .boolean))
theorem qX12_isSign : MF mX12_isSign 1 := ⟨TW_of (List.mem_of_getElem? (i := 89) (by decide +kernel)) rfl, TW_of (List.mem_of_getElem? (i := 1581) (by decide +kernel)) rfl, by decide, by decide +kernel, by decide⟩
def mX12_emit : MI := (yX12_emit, cX12_emit, 2, none)
theorem qX12_emit : MF mX12_emit 1 := ⟨TW_of (List.mem_of_getElem? (i := 89) (by decide +kernel)) rfl, TW_of (List.mem_of_getElem? (i := 1589) (by decide +kernel)) rfl, by decide, by decide +kernel, by decide⟩
def mX12_either : MI := (yX12_either, cX12_either, 1, none)
theorem qX12_either : MF mX12_either 0 := ⟨TW_of (List.mem_of_getElem? (i := 89) (by decide +kernel)) rfl, TW_of (List.mem_of_getElem? (i := 1569) (by decide +kernel)) rfl, by decide, by decide +kernel, by decide⟩
def mX12_both : MI := (yX12_both, cX12_both, 1, none)
theorem qX12_both : MF mX12_both 0 := ⟨TW_of (List.mem_of_getElem? (i := 89) (by decide +kernel)) rfl, TW_of (List.mem_of_getElem? (i := 1573) (by decide +kernel)) rfl, by decide, by decide +kernel, by decide⟩
def mX12_not : MI := (yX12_not, cX12_not, 2, none)
theorem qX12_not : MF mX12_not 0 := ⟨TW_of (List.mem_of_getElem? (i := 89) (by decide +kernel)) rfl, TW_of (List.mem_of_getElem? (i := 1577) (by decide +kernel)) rfl, by decide, by decide +kernel, by decide⟩
def mX12_sum : MI := (yX12_sum, cX12_sum, 2, none)
theorem qX12_sum : MF mX12_sum 0 := ⟨TW_of (List.mem_of_getElem? (i := 89) (by decide +kernel)) rfl, TW_of (List.mem_of_getElem? (i := 1593) (by decide +kernel)) rfl, by decide, by decide +kernel, by decide⟩
def mX12_product : MI := (yX12_product, cX12_product, 2, none)
theorem qX12_product : MF mX12_product 0 := ⟨TW_of (List.mem_of_getElem? (i := 89) (by decide +kernel)) rfl, TW_of (List.mem_of_getElem? (i := 1597) (by decide +kernel)) rfl, by decide, by decide +kernel, by decide⟩
def mX12_part : MI := (yX12_part, cX12_part, 4, none)
theorem qX12_part : MF mX12_part 0 := ⟨TW_of (List.mem_of_getElem? (i := 89) (by decide +kernel)) rfl, TW_of (List.mem_of_getElem? (i := 1601) (by decide +kernel)) rfl, by decide, by decide +kernel, by decide⟩
def mX12_text : MI := (yX12_text, cX12_text, 5, (some .int))
theorem qX12_text : MF mX12_text 1 := ⟨TW_of (List.mem_of_getElem? (i := 89) (by decide +kernel)) rfl, TW_of (List.mem_of_getElem? (i := 1557) (by decide +kernel)) rfl, by decide, by decide +kernel, by decide⟩
def mX12_textOf : MI := (yX12_textOf, cX12_textOf, 4, (some .int))
theorem qX12_textOf : MF mX12_textOf 1 := ⟨TW_of (List.mem_of_getElem? (i := 89) (by decide +kernel)) rfl, TW_of (List.mem_of_getElem? (i := 1438) (by decide +kernel)) rfl, by decide, by decide +kernel, by decide⟩
def mX12_force : MI := (yX12_force, cX12_force, 3, (some .int))
theorem qX12_force : MF mX12_force 1 := ⟨TW_of (List.mem_of_getElem? (i := 89) (by decide +kernel)) rfl, TW_of (List.mem_of_getElem? (i := 1611) (by decide +kernel)) rfl, by decide, by decide +kernel, by decide⟩
def mX12_done : MI := (yX12_done, cX12_done, 3, (some .int))
theorem qX12_done : MF mX12_done 3 := ⟨TW_of (List.mem_of_getElem? (i := 89) (by decide +kernel)) rfl, TW_of (List.mem_of_getElem? (i := 1445) (by decide +kernel)) rfl, by decide, by decide +kernel, by decide⟩
def mX12_worked : MI := (yX12_worked, cX12_worked, 9, (some .int))
theorem qX12_worked : MF mX12_worked 4 := ⟨TW_of (List.mem_of_getElem? (i := 89) (by decide +kernel)) rfl, TW_of (List.mem_of_getElem? (i := 1442) (by decide +kernel)) rfl, by decide, by decide +kernel, by decide⟩
def mX12_says : MI := (yX12_says, cX12_says, 5, (some .int))
theorem qX12_says : MF mX12_says 4 := ⟨TW_of (List.mem_of_getElem? (i := 89) (by decide +kernel)) rfl, TW_of (List.mem_of_getElem? (i := 1616) (by decide +kernel)) rfl, by decide, by decide +kernel, by decide⟩
def mX12_share : MI := (yX12_share, cX12_share, 7, (some .int))
theorem qX12_share : MF mX12_share 2 := ⟨TW_of (List.mem_of_getElem? (i := 89) (by decide +kernel)) rfl, TW_of (List.mem_of_getElem? (i := 1620) (by decide +kernel)) rfl, by decide, by decide +kernel, by decide⟩
def mX12_pay : MI := (yX12_pay, cX12_pay, 4, (some .int))
theorem qX12_pay : MF mX12_pay 2 := ⟨TW_of (List.mem_of_getElem? (i := 89) (by decide +kernel)) rfl, TW_of (List.mem_of_getElem? (i := 1624) (by decide +kernel)) rfl, by decide, by decide +kernel, by decide⟩
def mX12_isSheet : MI := (yX12_isSheet, cX12_isSheet, 1, (some .boolean))
theorem qX12_isSheet : MF mX12_isSheet 1 := ⟨TW_of (List.mem_of_getElem? (i := 89) (by decide +kernel)) rfl, TW_of (List.mem_of_getElem? (i := 1632) (by decide +kernel)) rfl, by decide, by decide +kernel, by decide⟩
def mX12_check : MI := (yX12_check, cX12_check, 3, (some .int))
theorem qX12_check : MF mX12_check 1 := ⟨TW_of (List.mem_of_getElem? (i := 89) (by decide +kernel)) rfl, TW_of (List.mem_of_getElem? (i := 1629) (by decide +kernel)) rfl, by decide, by decide +kernel, by decide⟩
def mX12_cut : MI := (yX12_cut, cX12_cut, 2, (some .int))
theorem qX12_cut : MF mX12_cut 2 := ⟨TW_of (List.mem_of_getElem? (i := 89) (by decide +kernel)) rfl, TW_of (List.mem_of_getElem? (i := 1645) (by decide +kernel)) rfl, by decide, by decide +kernel, by decide⟩
def mX12_sheet : MI := (yX12_sheet, cX12_sheet, 5, (some .int))
theorem qX12_sheet : MF mX12_sheet 3 := ⟨TW_of (List.mem_of_getElem? (i := 89) (by decide +kernel)) rfl, TW_of (List.mem_of_getElem? (i := 1637) (by decide +kernel)) rfl, by decide, by decide +kernel, by decide⟩
def mX12_write : MI := (yX12_write, cX12_write, 4, (some .int))
theorem qX12_write : MF mX12_write 3 := ⟨TW_of (List.mem_of_getElem? (i := 89) (by decide +kernel)) rfl, TW_of (List.mem_of_getElem? (i := 1642) (by decide +kernel)) rfl, by decide, by decide +kernel, by decide⟩
def mX12_copy : MI := (yX12_copy, cX12_copy, 7, (some .int))
theorem qX12_copy : MF mX12_copy 5 := ⟨TW_of (List.mem_of_getElem? (i := 89) (by decide +kernel)) rfl, TW_of (List.mem_of_getElem? (i := 1649) (by decide +kernel)) rfl, by decide, by decide +kernel, by decide⟩
def mX12_image : MI := (yX12_image, cX12_image, 1, (some .int))
theorem qX12_image : MF mX12_image 0 := ⟨TW_of (List.mem_of_getElem? (i := 89) (by decide +kernel)) rfl, TW_of (List.mem_of_getElem? (i := 1653) (by decide +kernel)) rfl, by decide, by decide +kernel, by decide⟩
def mX12_undo : MI := (yX12_undo, cX12_undo, 1, (some .int))
theorem qX12_undo : MF mX12_undo 0 := ⟨TW_of (List.mem_of_getElem? (i := 89) (by decide +kernel)) rfl, TW_of (List.mem_of_getElem? (i := 1657) (by decide +kernel)) rfl, by decide, by decide +kernel, by decide⟩
def mX12_tear : MI := (yX12_tear, cX12_tear, 2, (some .int))
theorem qX12_tear : MF mX12_tear 0 := ⟨TW_of (List.mem_of_getElem? (i := 89) (by decide +kernel)) rfl, TW_of (List.mem_of_getElem? (i := 1661) (by decide +kernel)) rfl, by decide, by decide +kernel, by decide⟩
def mX12_bits : MI := (yX12_bits, cX12_bits, 3, (some .int))
theorem qX12_bits : MF mX12_bits 1 := ⟨TW_of (List.mem_of_getElem? (i := 89) (by decide +kernel)) rfl, TW_of (List.mem_of_getElem? (i := 1668) (by decide +kernel)) rfl, by decide, by decide +kernel, by decide⟩
def mX12_count : MI := (yX12_count, cX12_count, 4, (some .int))
theorem qX12_count : MF mX12_count 1 := ⟨TW_of (List.mem_of_getElem? (i := 89) (by decide +kernel)) rfl, TW_of (List.mem_of_getElem? (i := 1665) (by decide +kernel)) rfl, by decide, by decide +kernel, by decide⟩
def mX12_status : MI := (yX12_status, cX12_status, 4, (some .int))
theorem qX12_status : MF mX12_status 1 := ⟨TW_of (List.mem_of_getElem? (i := 89) (by decide +kernel)) rfl, TW_of (List.mem_of_getElem? (i := 1672) (by decide +kernel)) rfl, by decide, by decide +kernel, by decide⟩
def mJ11_isValidCodePoint_9a6ad : MI := (yJ11_isValidCodePoint_9a6ad, cJ11_isValidCodePoint_9a6ad, 2, (some .boolean))
theorem qJ11_isValidCodePoint_9a6ad : MF mJ11_isValidCodePoint_9a6ad 1 := ⟨TW_of (List.mem_of_getElem? (i := 96) (by decide +kernel)) rfl, TW_of (List.mem_of_getElem? (i := 919) (by decide +kernel)) rfl, by decide, by decide +kernel, by decide⟩
def mJ11_highSurrogate_5068e : MI := (yJ11_highSurrogate_5068e, cJ11_highSurrogate_5068e, 1, (some .char))
theorem qJ11_highSurrogate_5068e : MF mJ11_highSurrogate_5068e 1 := ⟨TW_of (List.mem_of_getElem? (i := 96) (by decide +kernel)) rfl, TW_of (List.mem_of_getElem? (i := 922) (by decide +kernel)) rfl, by decide, by decide +kernel, by decide⟩
def mJ11_lowSurrogate_5068e : MI := (yJ11_lowSurrogate_5068e, cJ11_lowSurrogate_5068e, 1, (some .char))
theorem qJ11_lowSurrogate_5068e : MF mJ11_lowSurrogate_5068e 1 := ⟨TW_of (List.mem_of_getElem? (i := 96) (by decide +kernel)) rfl, TW_of (List.mem_of_getElem? (i := 926) (by decide +kernel)) rfl, by decide, by decide +kernel, by decide⟩
def mJ6_bitCount_0f7a4 : MI := (yJ6_bitCount_0f7a4, cJ6_bitCount_0f7a4, 1, (some .int))
theorem qJ6_bitCount_0f7a4 : MF mJ6_bitCount_0f7a4 1 := ⟨TW_of (List.mem_of_getElem? (i := 98) (by decide +kernel)) rfl, TW_of (List.mem_of_getElem? (i := 1120) (by decide +kernel)) rfl, by decide, by decide +kernel, by decide⟩
def mJ9_max_7cf53 : MI := (yJ9_max_7cf53, cJ9_max_7cf53, 2, (some .int))
theorem qJ9_max_7cf53 : MF mJ9_max_7cf53 2 := ⟨TW_of (List.mem_of_getElem? (i := 91) (by decide +kernel)) rfl, TW_of (List.mem_of_getElem? (i := 618) (by decide +kernel)) rfl, by decide, by decide +kernel, by decide⟩
def mJ9_min_7cf53 : MI := (yJ9_min_7cf53, cJ9_min_7cf53, 2, (some .int))
theorem qJ9_min_7cf53 : MF mJ9_min_7cf53 2 := ⟨TW_of (List.mem_of_getElem? (i := 91) (by decide +kernel)) rfl, TW_of (List.mem_of_getElem? (i := 889) (by decide +kernel)) rfl, by decide, by decide +kernel, by decide⟩
def mJ0_length_8abf5 : MI := (yJ0_length_8abf5, cJ0_length_8abf5, 1, (some .int))
theorem qJ0_length_8abf5 : MF mJ0_length_8abf5 0 := ⟨TW_of (List.mem_of_getElem? (i := 92) (by decide +kernel)) rfl, TW_of (List.mem_of_getElem? (i := 818) (by decide +kernel)) rfl, by decide, by decide +kernel, by decide⟩
def mJ0_charAt_5068e : MI := (yJ0_charAt_5068e, cJ0_charAt_5068e, 2, (some .char))
theorem qJ0_charAt_5068e : MF mJ0_charAt_5068e 1 := ⟨TW_of (List.mem_of_getElem? (i := 92) (by decide +kernel)) rfl, TW_of (List.mem_of_getElem? (i := 828) (by decide +kernel)) rfl, by decide, by decide +kernel, by decide⟩
def mJ0_indexOf_0f7a4 : MI := (yJ0_indexOf_0f7a4, cJ0_indexOf_0f7a4, 2, (some .int))
theorem qJ0_indexOf_0f7a4 : MF mJ0_indexOf_0f7a4 1 := ⟨TW_of (List.mem_of_getElem? (i := 92) (by decide +kernel)) rfl, TW_of (List.mem_of_getElem? (i := 874) (by decide +kernel)) rfl, by decide, by decide +kernel, by decide⟩
def mJ0_indexOf_7cf53 : MI := (yJ0_indexOf_7cf53, cJ0_indexOf_7cf53, 3, (some .int))
theorem qJ0_indexOf_7cf53 : MF mJ0_indexOf_7cf53 2 := ⟨TW_of (List.mem_of_getElem? (i := 92) (by decide +kernel)) rfl, TW_of (List.mem_of_getElem? (i := 878) (by decide +kernel)) rfl, by decide, by decide +kernel, by decide⟩
def mJ0_coder_7d493 : MI := (yJ0_coder_7d493, cJ0_coder_7d493, 1, (some .byte))
theorem qJ0_coder_7d493 : MF mJ0_coder_7d493 0 := ⟨TW_of (List.mem_of_getElem? (i := 92) (by decide +kernel)) rfl, TW_of (List.mem_of_getElem? (i := 822) (by decide +kernel)) rfl, by decide, by decide +kernel, by decide⟩
def mJ0_isLatin1_aae02 : MI := (yJ0_isLatin1_aae02, cJ0_isLatin1_aae02, 1, (some .boolean))
theorem qJ0_isLatin1_aae02 : MF mJ0_isLatin1_aae02 0 := ⟨TW_of (List.mem_of_getElem? (i := 92) (by decide +kernel)) rfl, TW_of (List.mem_of_getElem? (i := 832) (by decide +kernel)) rfl, by decide, by decide +kernel, by decide⟩
def mJ0_checkIndex_df160 : MI := (yJ0_checkIndex_df160, cJ0_checkIndex_df160, 2, none)
theorem qJ0_checkIndex_df160 : MF mJ0_checkIndex_df160 2 := ⟨TW_of (List.mem_of_getElem? (i := 92) (by decide +kernel)) rfl, TW_of (List.mem_of_getElem? (i := 838) (by decide +kernel)) rfl, by decide, by decide +kernel, by decide⟩
def mJ0_checkBoundsBeginEnd_23922 : MI := (yJ0_checkBoundsBeginEnd_23922, cJ0_checkBoundsBeginEnd_23922, 3, none)
theorem qJ0_checkBoundsBeginEnd_23922 : MF mJ0_checkBoundsBeginEnd_23922 3 := ⟨TW_of (List.mem_of_getElem? (i := 92) (by decide +kernel)) rfl, TW_of (List.mem_of_getElem? (i := 907) (by decide +kernel)) rfl, by decide, by decide +kernel, by decide⟩
def mJ1_charAt_3b067 : MI := (yJ1_charAt_3b067, cJ1_charAt_3b067, 2, (some .char))
theorem qJ1_charAt_3b067 : MF mJ1_charAt_3b067 2 := ⟨TW_of (List.mem_of_getElem? (i := 93) (by decide +kernel)) rfl, TW_of (List.mem_of_getElem? (i := 835) (by decide +kernel)) rfl, by decide, by decide +kernel, by decide⟩
def mJ1_canEncode_9a6ad : MI := (yJ1_canEncode_9a6ad, cJ1_canEncode_9a6ad, 1, (some .boolean))
theorem qJ1_canEncode_9a6ad : MF mJ1_canEncode_9a6ad 1 := ⟨TW_of (List.mem_of_getElem? (i := 93) (by decide +kernel)) rfl, TW_of (List.mem_of_getElem? (i := 885) (by decide +kernel)) rfl, by decide, by decide +kernel, by decide⟩
def mJ1_indexOf_4cfef : MI := (yJ1_indexOf_4cfef, cJ1_indexOf_4cfef, 4, (some .int))
theorem qJ1_indexOf_4cfef : MF mJ1_indexOf_4cfef 4 := ⟨TW_of (List.mem_of_getElem? (i := 93) (by decide +kernel)) rfl, TW_of (List.mem_of_getElem? (i := 882) (by decide +kernel)) rfl, by decide, by decide +kernel, by decide⟩
def mJ1_indexOfChar_4cfef : MI := (yJ1_indexOfChar_4cfef, cJ1_indexOfChar_4cfef, 6, (some .int))
theorem qJ1_indexOfChar_4cfef : MF mJ1_indexOfChar_4cfef 4 := ⟨TW_of (List.mem_of_getElem? (i := 93) (by decide +kernel)) rfl, TW_of (List.mem_of_getElem? (i := 892) (by decide +kernel)) rfl, by decide, by decide +kernel, by decide⟩
def mJ2_getChar_3b067 : MI := (yJ2_getChar_3b067, cJ2_getChar_3b067, 2, (some .char))
theorem qJ2_getChar_3b067 : MF mJ2_getChar_3b067 2 := ⟨TW_of (List.mem_of_getElem? (i := 95) (by decide +kernel)) rfl, TW_of (List.mem_of_getElem? (i := 856) (by decide +kernel)) rfl, by decide, by decide +kernel, by decide⟩
def mJ2_length_9d52b : MI := (yJ2_length_9d52b, cJ2_length_9d52b, 1, (some .int))
theorem qJ2_length_9d52b : MF mJ2_length_9d52b 1 := ⟨TW_of (List.mem_of_getElem? (i := 95) (by decide +kernel)) rfl, TW_of (List.mem_of_getElem? (i := 852) (by decide +kernel)) rfl, by decide, by decide +kernel, by decide⟩
def mJ2_indexOf_4cfef : MI := (yJ2_indexOf_4cfef, cJ2_indexOf_4cfef, 4, (some .int))
theorem qJ2_indexOf_4cfef : MF mJ2_indexOf_4cfef 4 := ⟨TW_of (List.mem_of_getElem? (i := 95) (by decide +kernel)) rfl, TW_of (List.mem_of_getElem? (i := 895) (by decide +kernel)) rfl, by decide, by decide +kernel, by decide⟩
def mJ2_indexOfChar_4cfef : MI := (yJ2_indexOfChar_4cfef, cJ2_indexOfChar_4cfef, 4, (some .int))
theorem qJ2_indexOfChar_4cfef : MF mJ2_indexOfChar_4cfef 4 := ⟨TW_of (List.mem_of_getElem? (i := 95) (by decide +kernel)) rfl, TW_of (List.mem_of_getElem? (i := 901) (by decide +kernel)) rfl, by decide, by decide +kernel, by decide⟩
def mJ2_indexOfCharUnsafe_4cfef : MI := (yJ2_indexOfCharUnsafe_4cfef, cJ2_indexOfCharUnsafe_4cfef, 5, (some .int))
theorem qJ2_indexOfCharUnsafe_4cfef : MF mJ2_indexOfCharUnsafe_4cfef 4 := ⟨TW_of (List.mem_of_getElem? (i := 95) (by decide +kernel)) rfl, TW_of (List.mem_of_getElem? (i := 913) (by decide +kernel)) rfl, by decide, by decide +kernel, by decide⟩
def mJ2_indexOfSupplementary_4cfef : MI := (yJ2_indexOfSupplementary_4cfef, cJ2_indexOfSupplementary_4cfef, 7, (some .int))
theorem qJ2_indexOfSupplementary_4cfef : MF mJ2_indexOfSupplementary_4cfef 4 := ⟨TW_of (List.mem_of_getElem? (i := 95) (by decide +kernel)) rfl, TW_of (List.mem_of_getElem? (i := 916) (by decide +kernel)) rfl, by decide, by decide +kernel, by decide⟩
def mJ2_charAt_3b067 : MI := (yJ2_charAt_3b067, cJ2_charAt_3b067, 2, (some .char))
theorem qJ2_charAt_3b067 : MF mJ2_charAt_3b067 2 := ⟨TW_of (List.mem_of_getElem? (i := 95) (by decide +kernel)) rfl, TW_of (List.mem_of_getElem? (i := 846) (by decide +kernel)) rfl, by decide, by decide +kernel, by decide⟩
def mJ2_checkIndex_2214a : MI := (yJ2_checkIndex_2214a, cJ2_checkIndex_2214a, 2, none)
theorem qJ2_checkIndex_2214a : MF mJ2_checkIndex_2214a 2 := ⟨TW_of (List.mem_of_getElem? (i := 95) (by decide +kernel)) rfl, TW_of (List.mem_of_getElem? (i := 849) (by decide +kernel)) rfl, by decide, by decide +kernel, by decide⟩
def mJ2_checkBoundsBeginEnd_d044e : MI := (yJ2_checkBoundsBeginEnd_d044e, cJ2_checkBoundsBeginEnd_d044e, 3, none)
theorem qJ2_checkBoundsBeginEnd_d044e : MF mJ2_checkBoundsBeginEnd_d044e 3 := ⟨TW_of (List.mem_of_getElem? (i := 95) (by decide +kernel)) rfl, TW_of (List.mem_of_getElem? (i := 904) (by decide +kernel)) rfl, by decide, by decide +kernel, by decide⟩
def mJ3_checkIndex_8e157 : MI := (yJ3_checkIndex_8e157, cJ3_checkIndex_8e157, 3, (some .int))
theorem qJ3_checkIndex_8e157 : MF mJ3_checkIndex_8e157 3 := ⟨TW_of (List.mem_of_getElem? (i := 94) (by decide +kernel)) rfl, TW_of (List.mem_of_getElem? (i := 843) (by decide +kernel)) rfl, by decide, by decide +kernel, by decide⟩
def mJ3_checkFromToIndex_8c36e : MI := (yJ3_checkFromToIndex_8c36e, cJ3_checkFromToIndex_8c36e, 4, (some .int))
theorem qJ3_checkFromToIndex_8c36e : MF mJ3_checkFromToIndex_8c36e 4 := ⟨TW_of (List.mem_of_getElem? (i := 94) (by decide +kernel)) rfl, TW_of (List.mem_of_getElem? (i := 910) (by decide +kernel)) rfl, by decide, by decide +kernel, by decide⟩
theorem lX11_53 : MLs "TowField" 53 mX11_within 3 := ⟨TW_of (List.mem_of_getElem? (i := 460) (by decide +kernel)) rfl, TW_of (List.mem_of_getElem? (i := 461) (by decide +kernel)) rfl, qX11_within⟩
theorem lX11_58 : MLv "TowField" 58 mX11_found 1 := ⟨TW_of (List.mem_of_getElem? (i := 464) (by decide +kernel)) rfl, TW_of (List.mem_of_getElem? (i := 466) (by decide +kernel)) rfl, TW_of (List.mem_of_getElem? (i := 0) (by decide +kernel)) rfl, qX11_found⟩
theorem lX11_66 : MLv "TowField" 66 mX4_all 0 := ⟨TW_of (List.mem_of_getElem? (i := 468) (by decide +kernel)) rfl, TW_of (List.mem_of_getElem? (i := 469) (by decide +kernel)) rfl, TW_of (List.mem_of_getElem? (i := 470) (by decide +kernel)) rfl, qX4_all⟩
theorem lX11_83 : MLv "TowField" 83 mX1_add 4 := ⟨TW_of (List.mem_of_getElem? (i := 473) (by decide +kernel)) rfl, TW_of (List.mem_of_getElem? (i := 474) (by decide +kernel)) rfl, TW_of (List.mem_of_getElem? (i := 475) (by decide +kernel)) rfl, qX1_add⟩
theorem lX11_88 : MLv "TowField" 88 mX4_add 2 := ⟨TW_of (List.mem_of_getElem? (i := 481) (by decide +kernel)) rfl, TW_of (List.mem_of_getElem? (i := 482) (by decide +kernel)) rfl, TW_of (List.mem_of_getElem? (i := 483) (by decide +kernel)) rfl, qX4_add⟩
theorem lX11_98 : MLv "TowField" 98 mX9_add 0 := ⟨TW_of (List.mem_of_getElem? (i := 489) (by decide +kernel)) rfl, TW_of (List.mem_of_getElem? (i := 490) (by decide +kernel)) rfl, TW_of (List.mem_of_getElem? (i := 491) (by decide +kernel)) rfl, qX9_add⟩
theorem lX11_107 : MLv "TowField" 107 mX5_add 0 := ⟨TW_of (List.mem_of_getElem? (i := 504) (by decide +kernel)) rfl, TW_of (List.mem_of_getElem? (i := 505) (by decide +kernel)) rfl, TW_of (List.mem_of_getElem? (i := 506) (by decide +kernel)) rfl, qX5_add⟩
theorem lX11_108 : MLv "TowField" 108 mX1_has 1 := ⟨TW_of (List.mem_of_getElem? (i := 512) (by decide +kernel)) rfl, TW_of (List.mem_of_getElem? (i := 513) (by decide +kernel)) rfl, TW_of (List.mem_of_getElem? (i := 514) (by decide +kernel)) rfl, qX1_has⟩
theorem lX11_112 : MLv "TowField" 112 mX1_tell 2 := ⟨TW_of (List.mem_of_getElem? (i := 517) (by decide +kernel)) rfl, TW_of (List.mem_of_getElem? (i := 518) (by decide +kernel)) rfl, TW_of (List.mem_of_getElem? (i := 519) (by decide +kernel)) rfl, qX1_tell⟩
theorem lX11_115 : MLv "TowField" 115 mX4_has 1 := ⟨TW_of (List.mem_of_getElem? (i := 528) (by decide +kernel)) rfl, TW_of (List.mem_of_getElem? (i := 529) (by decide +kernel)) rfl, TW_of (List.mem_of_getElem? (i := 530) (by decide +kernel)) rfl, qX4_has⟩
theorem lX11_116 : MLv "TowField" 116 mX4_tell 2 := ⟨TW_of (List.mem_of_getElem? (i := 533) (by decide +kernel)) rfl, TW_of (List.mem_of_getElem? (i := 534) (by decide +kernel)) rfl, TW_of (List.mem_of_getElem? (i := 535) (by decide +kernel)) rfl, qX4_tell⟩
theorem lX11_120 : MLs "TowField" 120 mX11_withBit 3 := ⟨TW_of (List.mem_of_getElem? (i := 542) (by decide +kernel)) rfl, TW_of (List.mem_of_getElem? (i := 543) (by decide +kernel)) rfl, qX11_withBit⟩
theorem lX11_124 : MLv "TowField" 124 mX9_hasRope 2 := ⟨TW_of (List.mem_of_getElem? (i := 549) (by decide +kernel)) rfl, TW_of (List.mem_of_getElem? (i := 550) (by decide +kernel)) rfl, TW_of (List.mem_of_getElem? (i := 551) (by decide +kernel)) rfl, qX9_hasRope⟩
theorem lX11_128 : MLs "TowField" 128 mX9_place 2 := ⟨TW_of (List.mem_of_getElem? (i := 554) (by decide +kernel)) rfl, TW_of (List.mem_of_getElem? (i := 494) (by decide +kernel)) rfl, qX9_place⟩
theorem lX11_144 : MLv "TowField" 144 mX9_put 3 := ⟨TW_of (List.mem_of_getElem? (i := 560) (by decide +kernel)) rfl, TW_of (List.mem_of_getElem? (i := 497) (by decide +kernel)) rfl, TW_of (List.mem_of_getElem? (i := 498) (by decide +kernel)) rfl, qX9_put⟩
theorem lX11_148 : MLv "TowField" 148 mX5_has 1 := ⟨TW_of (List.mem_of_getElem? (i := 565) (by decide +kernel)) rfl, TW_of (List.mem_of_getElem? (i := 566) (by decide +kernel)) rfl, TW_of (List.mem_of_getElem? (i := 567) (by decide +kernel)) rfl, qX5_has⟩
theorem lX11_150 : MLs "TowField" 150 mX3_has 1 := ⟨TW_of (List.mem_of_getElem? (i := 574) (by decide +kernel)) rfl, TW_of (List.mem_of_getElem? (i := 575) (by decide +kernel)) rfl, qX3_has⟩
theorem lX11_175 : MLs "TowField" 175 mX2_has 1 := ⟨TW_of (List.mem_of_getElem? (i := 602) (by decide +kernel)) rfl, TW_of (List.mem_of_getElem? (i := 603) (by decide +kernel)) rfl, qX2_has⟩
theorem lX11_178 : MLs "TowField" 178 mX2_mostWind 1 := ⟨TW_of (List.mem_of_getElem? (i := 606) (by decide +kernel)) rfl, TW_of (List.mem_of_getElem? (i := 607) (by decide +kernel)) rfl, qX2_mostWind⟩
theorem lX11_181 : MLs "TowField" 181 mX2_minutesOnLane 2 := ⟨TW_of (List.mem_of_getElem? (i := 613) (by decide +kernel)) rfl, TW_of (List.mem_of_getElem? (i := 614) (by decide +kernel)) rfl, qX2_minutesOnLane⟩
theorem lX11_184 : MLv "TowField" 184 mX11_mayBeAlong 2 := ⟨TW_of (List.mem_of_getElem? (i := 623) (by decide +kernel)) rfl, TW_of (List.mem_of_getElem? (i := 625) (by decide +kernel)) rfl, TW_of (List.mem_of_getElem? (i := 1) (by decide +kernel)) rfl, qX11_mayBeAlong⟩
theorem lX11_187 : MLs "TowField" 187 mX11_isHow 1 := ⟨TW_of (List.mem_of_getElem? (i := 627) (by decide +kernel)) rfl, TW_of (List.mem_of_getElem? (i := 628) (by decide +kernel)) rfl, qX11_isHow⟩
theorem lX11_197 : MLv "TowField" 197 mX0_add 5 := ⟨TW_of (List.mem_of_getElem? (i := 630) (by decide +kernel)) rfl, TW_of (List.mem_of_getElem? (i := 631) (by decide +kernel)) rfl, TW_of (List.mem_of_getElem? (i := 632) (by decide +kernel)) rfl, qX0_add⟩
theorem lX11_200 : MLv "TowField" 200 mX0_has 1 := ⟨TW_of (List.mem_of_getElem? (i := 645) (by decide +kernel)) rfl, TW_of (List.mem_of_getElem? (i := 646) (by decide +kernel)) rfl, TW_of (List.mem_of_getElem? (i := 647) (by decide +kernel)) rfl, qX0_has⟩
theorem lX11_201 : MLv "TowField" 201 mX0_tell 2 := ⟨TW_of (List.mem_of_getElem? (i := 650) (by decide +kernel)) rfl, TW_of (List.mem_of_getElem? (i := 651) (by decide +kernel)) rfl, TW_of (List.mem_of_getElem? (i := 652) (by decide +kernel)) rfl, qX0_tell⟩
theorem lX11_205 : MLs "TowField" 205 mX2_isOrUnder 2 := ⟨TW_of (List.mem_of_getElem? (i := 658) (by decide +kernel)) rfl, TW_of (List.mem_of_getElem? (i := 635) (by decide +kernel)) rfl, qX2_isOrUnder⟩
theorem lX11_210 : MLv "TowField" 210 mX10_barred 0 := ⟨TW_of (List.mem_of_getElem? (i := 668) (by decide +kernel)) rfl, TW_of (List.mem_of_getElem? (i := 669) (by decide +kernel)) rfl, TW_of (List.mem_of_getElem? (i := 670) (by decide +kernel)) rfl, qX10_barred⟩
theorem lX11_213 : MLv "TowField" 213 mX10_whyNot 2 := ⟨TW_of (List.mem_of_getElem? (i := 691) (by decide +kernel)) rfl, TW_of (List.mem_of_getElem? (i := 692) (by decide +kernel)) rfl, TW_of (List.mem_of_getElem? (i := 693) (by decide +kernel)) rfl, qX10_whyNot⟩
theorem lX11_216 : MLv "TowField" 216 mX3_isClear 3 := ⟨TW_of (List.mem_of_getElem? (i := 746) (by decide +kernel)) rfl, TW_of (List.mem_of_getElem? (i := 738) (by decide +kernel)) rfl, TW_of (List.mem_of_getElem? (i := 739) (by decide +kernel)) rfl, qX3_isClear⟩
theorem lX11_219 : MLv "TowField" 219 mX10_first 1 := ⟨TW_of (List.mem_of_getElem? (i := 751) (by decide +kernel)) rfl, TW_of (List.mem_of_getElem? (i := 752) (by decide +kernel)) rfl, TW_of (List.mem_of_getElem? (i := 753) (by decide +kernel)) rfl, qX10_first⟩
theorem lX11_223 : MLv "TowField" 223 mX7_add 1 := ⟨TW_of (List.mem_of_getElem? (i := 781) (by decide +kernel)) rfl, TW_of (List.mem_of_getElem? (i := 782) (by decide +kernel)) rfl, TW_of (List.mem_of_getElem? (i := 783) (by decide +kernel)) rfl, qX7_add⟩
theorem lX11_229 : MLv "TowField" 229 mX7_read 0 := ⟨TW_of (List.mem_of_getElem? (i := 793) (by decide +kernel)) rfl, TW_of (List.mem_of_getElem? (i := 794) (by decide +kernel)) rfl, TW_of (List.mem_of_getElem? (i := 795) (by decide +kernel)) rfl, qX7_read⟩
theorem lX11_238 : MLv "TowField" 238 mX8_put 3 := ⟨TW_of (List.mem_of_getElem? (i := 964) (by decide +kernel)) rfl, TW_of (List.mem_of_getElem? (i := 965) (by decide +kernel)) rfl, TW_of (List.mem_of_getElem? (i := 966) (by decide +kernel)) rfl, qX8_put⟩
theorem lX11_245 : MLv "TowField" 245 mX8_value 5 := ⟨TW_of (List.mem_of_getElem? (i := 981) (by decide +kernel)) rfl, TW_of (List.mem_of_getElem? (i := 677) (by decide +kernel)) rfl, TW_of (List.mem_of_getElem? (i := 678) (by decide +kernel)) rfl, qX8_value⟩
theorem lX11_248 : MLv "TowField" 248 mX10_go 1 := ⟨TW_of (List.mem_of_getElem? (i := 986) (by decide +kernel)) rfl, TW_of (List.mem_of_getElem? (i := 987) (by decide +kernel)) rfl, TW_of (List.mem_of_getElem? (i := 988) (by decide +kernel)) rfl, qX10_go⟩
theorem lX11_251 : MLv "TowField" 251 mX10_become 1 := ⟨TW_of (List.mem_of_getElem? (i := 1057) (by decide +kernel)) rfl, TW_of (List.mem_of_getElem? (i := 1058) (by decide +kernel)) rfl, TW_of (List.mem_of_getElem? (i := 1059) (by decide +kernel)) rfl, qX10_become⟩
theorem lX11_255 : MLv "TowField" 255 mX0_thatAre 1 := ⟨TW_of (List.mem_of_getElem? (i := 1092) (by decide +kernel)) rfl, TW_of (List.mem_of_getElem? (i := 1093) (by decide +kernel)) rfl, TW_of (List.mem_of_getElem? (i := 1094) (by decide +kernel)) rfl, qX0_thatAre⟩
theorem lX11_258 : MLs "TowField" 258 mX6_has 1 := ⟨TW_of (List.mem_of_getElem? (i := 1104) (by decide +kernel)) rfl, TW_of (List.mem_of_getElem? (i := 1105) (by decide +kernel)) rfl, qX6_has⟩
theorem lX11_265 : MLv "TowField" 265 mX10_goMinute 1 := ⟨TW_of (List.mem_of_getElem? (i := 1109) (by decide +kernel)) rfl, TW_of (List.mem_of_getElem? (i := 992) (by decide +kernel)) rfl, TW_of (List.mem_of_getElem? (i := 993) (by decide +kernel)) rfl, qX10_goMinute⟩
theorem lX11_275 : MLv "TowField" 275 mX4_part 2 := ⟨TW_of (List.mem_of_getElem? (i := 1114) (by decide +kernel)) rfl, TW_of (List.mem_of_getElem? (i := 1115) (by decide +kernel)) rfl, TW_of (List.mem_of_getElem? (i := 1116) (by decide +kernel)) rfl, qX4_part⟩
theorem lX11_282 : MLs "TowField" 282 mX6_isBits 1 := ⟨TW_of (List.mem_of_getElem? (i := 1133) (by decide +kernel)) rfl, TW_of (List.mem_of_getElem? (i := 1134) (by decide +kernel)) rfl, qX6_isBits⟩
theorem lX11_286 : MLv "TowField" 286 mX6_lay 3 := ⟨TW_of (List.mem_of_getElem? (i := 1137) (by decide +kernel)) rfl, TW_of (List.mem_of_getElem? (i := 1138) (by decide +kernel)) rfl, TW_of (List.mem_of_getElem? (i := 1139) (by decide +kernel)) rfl, qX6_lay⟩
theorem lX11_290 : MLs "TowField" 290 mX6_lowest 2 := ⟨TW_of (List.mem_of_getElem? (i := 1145) (by decide +kernel)) rfl, TW_of (List.mem_of_getElem? (i := 1146) (by decide +kernel)) rfl, qX6_lowest⟩
theorem lX11_293 : MLv "TowField" 293 mX6_hasPart 3 := ⟨TW_of (List.mem_of_getElem? (i := 1152) (by decide +kernel)) rfl, TW_of (List.mem_of_getElem? (i := 1153) (by decide +kernel)) rfl, TW_of (List.mem_of_getElem? (i := 1154) (by decide +kernel)) rfl, qX6_hasPart⟩
theorem lX11_302 : MLs "TowField" 302 mJ6_bitCount_0f7a4 1 := ⟨TW_of (List.mem_of_getElem? (i := 1173) (by decide +kernel)) rfl, TW_of (List.mem_of_getElem? (i := 1119) (by decide +kernel)) rfl, qJ6_bitCount_0f7a4⟩
theorem lX11_307 : MLv "TowField" 307 mX4_bills 0 := ⟨TW_of (List.mem_of_getElem? (i := 1174) (by decide +kernel)) rfl, TW_of (List.mem_of_getElem? (i := 1175) (by decide +kernel)) rfl, TW_of (List.mem_of_getElem? (i := 1176) (by decide +kernel)) rfl, qX4_bills⟩
theorem lX0_50 : MLn "TowField$Asks" 50 mX11_within 3 := ⟨List.mem_of_getElem? (i := 16) (by decide +kernel), TW_of (List.mem_of_getElem? (i := 461) (by decide +kernel)) rfl, qX11_within⟩
theorem lX0_58 : MLs "TowField$Asks" 58 mX2_isOrUnder 2 := ⟨TW_of (List.mem_of_getElem? (i := 634) (by decide +kernel)) rfl, TW_of (List.mem_of_getElem? (i := 635) (by decide +kernel)) rfl, qX2_isOrUnder⟩
theorem lX0_64 : MLs "TowField$Asks" 64 mX2_minutesOnLane 2 := ⟨TW_of (List.mem_of_getElem? (i := 640) (by decide +kernel)) rfl, TW_of (List.mem_of_getElem? (i := 614) (by decide +kernel)) rfl, qX2_minutesOnLane⟩
theorem lX0_68 : MLs "TowField$Asks" 68 mJ9_max_7cf53 2 := ⟨TW_of (List.mem_of_getElem? (i := 763) (by decide +kernel)) rfl, TW_of (List.mem_of_getElem? (i := 617) (by decide +kernel)) rfl, qJ9_max_7cf53⟩
theorem lX1_29 : MLn "TowField$Gliders" 29 mX11_within 3 := ⟨List.mem_of_getElem? (i := 8) (by decide +kernel), TW_of (List.mem_of_getElem? (i := 461) (by decide +kernel)) rfl, qX11_within⟩
theorem lX1_35 : MLn "TowField$Gliders" 35 mX11_hasBit 2 := ⟨List.mem_of_getElem? (i := 9) (by decide +kernel), TW_of (List.mem_of_getElem? (i := 522) (by decide +kernel)) rfl, qX11_hasBit⟩
theorem lX2_9 : MLn "TowField$Kinds" 9 mX11_within 3 := ⟨List.mem_of_getElem? (i := 15) (by decide +kernel), TW_of (List.mem_of_getElem? (i := 461) (by decide +kernel)) rfl, qX11_within⟩
theorem lX2_15 : MLs "TowField$Kinds" 15 mX2_has 1 := ⟨TW_of (List.mem_of_getElem? (i := 637) (by decide +kernel)) rfl, TW_of (List.mem_of_getElem? (i := 603) (by decide +kernel)) rfl, qX2_has⟩
theorem lX2_23 : MLs "TowField$Kinds" 23 mJ9_max_7cf53 2 := ⟨TW_of (List.mem_of_getElem? (i := 616) (by decide +kernel)) rfl, TW_of (List.mem_of_getElem? (i := 617) (by decide +kernel)) rfl, qJ9_max_7cf53⟩
theorem lX3_29 : MLn "TowField$Lanes" 29 mX11_within 3 := ⟨List.mem_of_getElem? (i := 14) (by decide +kernel), TW_of (List.mem_of_getElem? (i := 461) (by decide +kernel)) rfl, qX11_within⟩
theorem lX3_35 : MLn "TowField$Lanes" 35 mX11_hasBit 2 := ⟨List.mem_of_getElem? (i := 18) (by decide +kernel), TW_of (List.mem_of_getElem? (i := 522) (by decide +kernel)) rfl, qX11_hasBit⟩
theorem lX4_29 : MLn "TowField$People" 29 mX11_within 3 := ⟨List.mem_of_getElem? (i := 10) (by decide +kernel), TW_of (List.mem_of_getElem? (i := 461) (by decide +kernel)) rfl, qX11_within⟩
theorem lX4_35 : MLn "TowField$People" 35 mX11_hasBit 2 := ⟨List.mem_of_getElem? (i := 11) (by decide +kernel), TW_of (List.mem_of_getElem? (i := 522) (by decide +kernel)) rfl, qX11_hasBit⟩
theorem lX4_39 : MLs "TowField$People" 39 mJ6_bitCount_0f7a4 1 := ⟨TW_of (List.mem_of_getElem? (i := 1118) (by decide +kernel)) rfl, TW_of (List.mem_of_getElem? (i := 1119) (by decide +kernel)) rfl, qJ6_bitCount_0f7a4⟩
theorem lX5_17 : MLn "TowField$Planes" 17 mX11_within 3 := ⟨List.mem_of_getElem? (i := 13) (by decide +kernel), TW_of (List.mem_of_getElem? (i := 461) (by decide +kernel)) rfl, qX11_within⟩
theorem lX5_23 : MLv "TowField$Planes" 23 mX5_firstThere 0 := ⟨TW_of (List.mem_of_getElem? (i := 1032) (by decide +kernel)) rfl, TW_of (List.mem_of_getElem? (i := 734) (by decide +kernel)) rfl, TW_of (List.mem_of_getElem? (i := 735) (by decide +kernel)) rfl, qX5_firstThere⟩
theorem lX6_21 : MLn "TowField$Sheets" 21 mX11_within 3 := ⟨List.mem_of_getElem? (i := 21) (by decide +kernel), TW_of (List.mem_of_getElem? (i := 461) (by decide +kernel)) rfl, qX11_within⟩
theorem lX7_37 : MLv "TowField$Tape" 37 mX7_advance 0 := ⟨TW_of (List.mem_of_getElem? (i := 797) (by decide +kernel)) rfl, TW_of (List.mem_of_getElem? (i := 799) (by decide +kernel)) rfl, TW_of (List.mem_of_getElem? (i := 13) (by decide +kernel)) rfl, qX7_advance⟩
theorem lX7_40 : MLv "TowField$Tape" 40 mX7_readEither 1 := ⟨TW_of (List.mem_of_getElem? (i := 928) (by decide +kernel)) rfl, TW_of (List.mem_of_getElem? (i := 930) (by decide +kernel)) rfl, TW_of (List.mem_of_getElem? (i := 18) (by decide +kernel)) rfl, qX7_readEither⟩
theorem lX7_44 : MLv "TowField$Tape" 44 mX7_readBoth 1 := ⟨TW_of (List.mem_of_getElem? (i := 932) (by decide +kernel)) rfl, TW_of (List.mem_of_getElem? (i := 934) (by decide +kernel)) rfl, TW_of (List.mem_of_getElem? (i := 19) (by decide +kernel)) rfl, qX7_readBoth⟩
theorem lX7_47 : MLv "TowField$Tape" 47 mX7_putSign 1 := ⟨TW_of (List.mem_of_getElem? (i := 960) (by decide +kernel)) rfl, TW_of (List.mem_of_getElem? (i := 962) (by decide +kernel)) rfl, TW_of (List.mem_of_getElem? (i := 26) (by decide +kernel)) rfl, qX7_putSign⟩
theorem lX7_50 : MLv "TowField$Tape" 50 mX7_readNot 1 := ⟨TW_of (List.mem_of_getElem? (i := 936) (by decide +kernel)) rfl, TW_of (List.mem_of_getElem? (i := 938) (by decide +kernel)) rfl, TW_of (List.mem_of_getElem? (i := 20) (by decide +kernel)) rfl, qX7_readNot⟩
theorem lX7_53 : MLv "TowField$Tape" 53 mX7_readCompared 1 := ⟨TW_of (List.mem_of_getElem? (i := 940) (by decide +kernel)) rfl, TW_of (List.mem_of_getElem? (i := 942) (by decide +kernel)) rfl, TW_of (List.mem_of_getElem? (i := 21) (by decide +kernel)) rfl, qX7_readCompared⟩
theorem lX7_56 : MLv "TowField$Tape" 56 mX7_readSum 1 := ⟨TW_of (List.mem_of_getElem? (i := 944) (by decide +kernel)) rfl, TW_of (List.mem_of_getElem? (i := 946) (by decide +kernel)) rfl, TW_of (List.mem_of_getElem? (i := 22) (by decide +kernel)) rfl, qX7_readSum⟩
theorem lX7_59 : MLv "TowField$Tape" 59 mX7_readProduct 1 := ⟨TW_of (List.mem_of_getElem? (i := 948) (by decide +kernel)) rfl, TW_of (List.mem_of_getElem? (i := 950) (by decide +kernel)) rfl, TW_of (List.mem_of_getElem? (i := 23) (by decide +kernel)) rfl, qX7_readProduct⟩
theorem lX7_62 : MLv "TowField$Tape" 62 mX7_readSingle 1 := ⟨TW_of (List.mem_of_getElem? (i := 952) (by decide +kernel)) rfl, TW_of (List.mem_of_getElem? (i := 954) (by decide +kernel)) rfl, TW_of (List.mem_of_getElem? (i := 24) (by decide +kernel)) rfl, qX7_readSingle⟩
theorem lX7_67 : MLv "TowField$Tape" 67 mX7_put 1 := ⟨TW_of (List.mem_of_getElem? (i := 956) (by decide +kernel)) rfl, TW_of (List.mem_of_getElem? (i := 958) (by decide +kernel)) rfl, TW_of (List.mem_of_getElem? (i := 25) (by decide +kernel)) rfl, qX7_put⟩
theorem lX7_71 : MLv "TowField$Tape" 71 mX7_behindAll 3 := ⟨TW_of (List.mem_of_getElem? (i := 801) (by decide +kernel)) rfl, TW_of (List.mem_of_getElem? (i := 803) (by decide +kernel)) rfl, TW_of (List.mem_of_getElem? (i := 14) (by decide +kernel)) rfl, qX7_behindAll⟩
theorem lX7_75 : MLn "TowField$Tape" 75 mX11_within 3 := ⟨List.mem_of_getElem? (i := 19) (by decide +kernel), TW_of (List.mem_of_getElem? (i := 461) (by decide +kernel)) rfl, qX11_within⟩
theorem lX7_79 : MLv "TowField$Tape" 79 mX7_takeWord 0 := ⟨TW_of (List.mem_of_getElem? (i := 806) (by decide +kernel)) rfl, TW_of (List.mem_of_getElem? (i := 808) (by decide +kernel)) rfl, TW_of (List.mem_of_getElem? (i := 15) (by decide +kernel)) rfl, qX7_takeWord⟩
theorem lX7_82 : MLv "TowField$Tape" 82 mX7_takeNumber 0 := ⟨TW_of (List.mem_of_getElem? (i := 866) (by decide +kernel)) rfl, TW_of (List.mem_of_getElem? (i := 868) (by decide +kernel)) rfl, TW_of (List.mem_of_getElem? (i := 17) (by decide +kernel)) rfl, qX7_takeNumber⟩
theorem lX7_87 : MLv "TowField$Tape" 87 mJ0_indexOf_0f7a4 1 := ⟨TW_of (List.mem_of_getElem? (i := 871) (by decide +kernel)) rfl, TW_of (List.mem_of_getElem? (i := 872) (by decide +kernel)) rfl, TW_of (List.mem_of_getElem? (i := 873) (by decide +kernel)) rfl, qJ0_indexOf_0f7a4⟩
theorem lX7_95 : MLv "TowField$Tape" 95 mX7_isWord 1 := ⟨TW_of (List.mem_of_getElem? (i := 811) (by decide +kernel)) rfl, TW_of (List.mem_of_getElem? (i := 813) (by decide +kernel)) rfl, TW_of (List.mem_of_getElem? (i := 16) (by decide +kernel)) rfl, qX7_isWord⟩
theorem lX7_105 : MLv "TowField$Tape" 105 mJ0_length_8abf5 0 := ⟨TW_of (List.mem_of_getElem? (i := 815) (by decide +kernel)) rfl, TW_of (List.mem_of_getElem? (i := 816) (by decide +kernel)) rfl, TW_of (List.mem_of_getElem? (i := 817) (by decide +kernel)) rfl, qJ0_length_8abf5⟩
theorem lX7_108 : MLv "TowField$Tape" 108 mJ0_charAt_5068e 1 := ⟨TW_of (List.mem_of_getElem? (i := 825) (by decide +kernel)) rfl, TW_of (List.mem_of_getElem? (i := 826) (by decide +kernel)) rfl, TW_of (List.mem_of_getElem? (i := 827) (by decide +kernel)) rfl, qJ0_charAt_5068e⟩
theorem lX8_32 : MLv "TowField$Texts" 32 mX8_step 2 := ⟨TW_of (List.mem_of_getElem? (i := 680) (by decide +kernel)) rfl, TW_of (List.mem_of_getElem? (i := 682) (by decide +kernel)) rfl, TW_of (List.mem_of_getElem? (i := 3) (by decide +kernel)) rfl, qX8_step⟩
theorem lX8_36 : MLv "TowField$Texts" 36 mX8_push 2 := ⟨TW_of (List.mem_of_getElem? (i := 684) (by decide +kernel)) rfl, TW_of (List.mem_of_getElem? (i := 686) (by decide +kernel)) rfl, TW_of (List.mem_of_getElem? (i := 4) (by decide +kernel)) rfl, qX8_push⟩
theorem lX8_39 : MLs "TowField$Texts" 39 mX8_workOut 3 := ⟨TW_of (List.mem_of_getElem? (i := 688) (by decide +kernel)) rfl, TW_of (List.mem_of_getElem? (i := 689) (by decide +kernel)) rfl, qX8_workOut⟩
theorem lX9_20 : MLn "TowField$Winches" 20 mX11_within 3 := ⟨List.mem_of_getElem? (i := 12) (by decide +kernel), TW_of (List.mem_of_getElem? (i := 461) (by decide +kernel)) rfl, qX11_within⟩
theorem lX9_26 : MLs "TowField$Winches" 26 mX9_place 2 := ⟨TW_of (List.mem_of_getElem? (i := 493) (by decide +kernel)) rfl, TW_of (List.mem_of_getElem? (i := 494) (by decide +kernel)) rfl, qX9_place⟩
theorem lX9_30 : MLv "TowField$Winches" 30 mX9_put 3 := ⟨TW_of (List.mem_of_getElem? (i := 496) (by decide +kernel)) rfl, TW_of (List.mem_of_getElem? (i := 497) (by decide +kernel)) rfl, TW_of (List.mem_of_getElem? (i := 498) (by decide +kernel)) rfl, qX9_put⟩
theorem lX9_34 : MLv "TowField$Winches" 34 mX9_firstOut 0 := ⟨TW_of (List.mem_of_getElem? (i := 1022) (by decide +kernel)) rfl, TW_of (List.mem_of_getElem? (i := 726) (by decide +kernel)) rfl, TW_of (List.mem_of_getElem? (i := 727) (by decide +kernel)) rfl, qX9_firstOut⟩
theorem lX9_38 : MLv "TowField$Winches" 38 mX9_firstWithBothOut 0 := ⟨TW_of (List.mem_of_getElem? (i := 1027) (by decide +kernel)) rfl, TW_of (List.mem_of_getElem? (i := 730) (by decide +kernel)) rfl, TW_of (List.mem_of_getElem? (i := 731) (by decide +kernel)) rfl, qX9_firstWithBothOut⟩
theorem lX10_86 : MLv "TowField$World" 86 mX1_become 1 := ⟨TW_of (List.mem_of_getElem? (i := 1062) (by decide +kernel)) rfl, TW_of (List.mem_of_getElem? (i := 1063) (by decide +kernel)) rfl, TW_of (List.mem_of_getElem? (i := 1064) (by decide +kernel)) rfl, qX1_become⟩
theorem lX10_90 : MLv "TowField$World" 90 mX4_become 1 := ⟨TW_of (List.mem_of_getElem? (i := 1067) (by decide +kernel)) rfl, TW_of (List.mem_of_getElem? (i := 1068) (by decide +kernel)) rfl, TW_of (List.mem_of_getElem? (i := 1069) (by decide +kernel)) rfl, qX4_become⟩
theorem lX10_93 : MLv "TowField$World" 93 mX9_become 1 := ⟨TW_of (List.mem_of_getElem? (i := 1072) (by decide +kernel)) rfl, TW_of (List.mem_of_getElem? (i := 1073) (by decide +kernel)) rfl, TW_of (List.mem_of_getElem? (i := 1074) (by decide +kernel)) rfl, qX9_become⟩
theorem lX10_96 : MLv "TowField$World" 96 mX5_become 1 := ⟨TW_of (List.mem_of_getElem? (i := 1077) (by decide +kernel)) rfl, TW_of (List.mem_of_getElem? (i := 1078) (by decide +kernel)) rfl, TW_of (List.mem_of_getElem? (i := 1079) (by decide +kernel)) rfl, qX5_become⟩
theorem lX10_99 : MLv "TowField$World" 99 mX3_become 1 := ⟨TW_of (List.mem_of_getElem? (i := 1082) (by decide +kernel)) rfl, TW_of (List.mem_of_getElem? (i := 1083) (by decide +kernel)) rfl, TW_of (List.mem_of_getElem? (i := 1084) (by decide +kernel)) rfl, qX3_become⟩
theorem lX10_102 : MLv "TowField$World" 102 mX0_become 1 := ⟨TW_of (List.mem_of_getElem? (i := 1087) (by decide +kernel)) rfl, TW_of (List.mem_of_getElem? (i := 1088) (by decide +kernel)) rfl, TW_of (List.mem_of_getElem? (i := 1089) (by decide +kernel)) rfl, qX0_become⟩
theorem lX10_111 : MLv "TowField$World" 111 mX10_isBarredBy 2 := ⟨TW_of (List.mem_of_getElem? (i := 672) (by decide +kernel)) rfl, TW_of (List.mem_of_getElem? (i := 674) (by decide +kernel)) rfl, TW_of (List.mem_of_getElem? (i := 2) (by decide +kernel)) rfl, qX10_isBarredBy⟩
theorem lX10_124 : MLv "TowField$World" 124 mX8_value 5 := ⟨TW_of (List.mem_of_getElem? (i := 676) (by decide +kernel)) rfl, TW_of (List.mem_of_getElem? (i := 677) (by decide +kernel)) rfl, TW_of (List.mem_of_getElem? (i := 678) (by decide +kernel)) rfl, qX8_value⟩
theorem lX10_128 : MLv "TowField$World" 128 mX10_whyNotWith 1 := ⟨TW_of (List.mem_of_getElem? (i := 695) (by decide +kernel)) rfl, TW_of (List.mem_of_getElem? (i := 697) (by decide +kernel)) rfl, TW_of (List.mem_of_getElem? (i := 5) (by decide +kernel)) rfl, qX10_whyNotWith⟩
theorem lX10_132 : MLv "TowField$World" 132 mX10_whyNotBy 1 := ⟨TW_of (List.mem_of_getElem? (i := 700) (by decide +kernel)) rfl, TW_of (List.mem_of_getElem? (i := 702) (by decide +kernel)) rfl, TW_of (List.mem_of_getElem? (i := 6) (by decide +kernel)) rfl, qX10_whyNotBy⟩
theorem lX10_135 : MLv "TowField$World" 135 mX10_whyNotIn 2 := ⟨TW_of (List.mem_of_getElem? (i := 712) (by decide +kernel)) rfl, TW_of (List.mem_of_getElem? (i := 714) (by decide +kernel)) rfl, TW_of (List.mem_of_getElem? (i := 8) (by decide +kernel)) rfl, qX10_whyNotIn⟩
theorem lX10_148 : MLn "TowField$World" 148 mX11_hasBit 2 := ⟨List.mem_of_getElem? (i := 17) (by decide +kernel), TW_of (List.mem_of_getElem? (i := 522) (by decide +kernel)) rfl, qX11_hasBit⟩
theorem lX10_165 : MLv "TowField$World" 165 mX4_hasPaper 2 := ⟨TW_of (List.mem_of_getElem? (i := 704) (by decide +kernel)) rfl, TW_of (List.mem_of_getElem? (i := 705) (by decide +kernel)) rfl, TW_of (List.mem_of_getElem? (i := 706) (by decide +kernel)) rfl, qX4_hasPaper⟩
theorem lX10_171 : MLv "TowField$World" 171 mX10_isRecent 1 := ⟨TW_of (List.mem_of_getElem? (i := 708) (by decide +kernel)) rfl, TW_of (List.mem_of_getElem? (i := 710) (by decide +kernel)) rfl, TW_of (List.mem_of_getElem? (i := 7) (by decide +kernel)) rfl, qX10_isRecent⟩
theorem lX10_175 : MLs "TowField$World" 175 mX2_mostWind 1 := ⟨TW_of (List.mem_of_getElem? (i := 716) (by decide +kernel)) rfl, TW_of (List.mem_of_getElem? (i := 607) (by decide +kernel)) rfl, qX2_mostWind⟩
theorem lX10_186 : MLv "TowField$World" 186 mX0_crew 1 := ⟨TW_of (List.mem_of_getElem? (i := 717) (by decide +kernel)) rfl, TW_of (List.mem_of_getElem? (i := 718) (by decide +kernel)) rfl, TW_of (List.mem_of_getElem? (i := 719) (by decide +kernel)) rfl, qX0_crew⟩
theorem lX10_189 : MLv "TowField$World" 189 mX10_hasGear 1 := ⟨TW_of (List.mem_of_getElem? (i := 721) (by decide +kernel)) rfl, TW_of (List.mem_of_getElem? (i := 723) (by decide +kernel)) rfl, TW_of (List.mem_of_getElem? (i := 9) (by decide +kernel)) rfl, qX10_hasGear⟩
theorem lX10_201 : MLv "TowField$World" 201 mX3_isClear 3 := ⟨TW_of (List.mem_of_getElem? (i := 737) (by decide +kernel)) rfl, TW_of (List.mem_of_getElem? (i := 738) (by decide +kernel)) rfl, TW_of (List.mem_of_getElem? (i := 739) (by decide +kernel)) rfl, qX3_isClear⟩
theorem lX10_205 : MLv "TowField$World" 205 mX9_firstOut 0 := ⟨TW_of (List.mem_of_getElem? (i := 725) (by decide +kernel)) rfl, TW_of (List.mem_of_getElem? (i := 726) (by decide +kernel)) rfl, TW_of (List.mem_of_getElem? (i := 727) (by decide +kernel)) rfl, qX9_firstOut⟩
theorem lX10_209 : MLv "TowField$World" 209 mX9_firstWithBothOut 0 := ⟨TW_of (List.mem_of_getElem? (i := 729) (by decide +kernel)) rfl, TW_of (List.mem_of_getElem? (i := 730) (by decide +kernel)) rfl, TW_of (List.mem_of_getElem? (i := 731) (by decide +kernel)) rfl, qX9_firstWithBothOut⟩
theorem lX10_212 : MLv "TowField$World" 212 mX5_firstThere 0 := ⟨TW_of (List.mem_of_getElem? (i := 733) (by decide +kernel)) rfl, TW_of (List.mem_of_getElem? (i := 734) (by decide +kernel)) rfl, TW_of (List.mem_of_getElem? (i := 735) (by decide +kernel)) rfl, qX5_firstThere⟩
theorem lX10_215 : MLv "TowField$World" 215 mX9_useOne 0 := ⟨TW_of (List.mem_of_getElem? (i := 1018) (by decide +kernel)) rfl, TW_of (List.mem_of_getElem? (i := 1019) (by decide +kernel)) rfl, TW_of (List.mem_of_getElem? (i := 1020) (by decide +kernel)) rfl, qX9_useOne⟩
theorem lX10_218 : MLv "TowField$World" 218 mX9_useBoth 0 := ⟨TW_of (List.mem_of_getElem? (i := 1023) (by decide +kernel)) rfl, TW_of (List.mem_of_getElem? (i := 1024) (by decide +kernel)) rfl, TW_of (List.mem_of_getElem? (i := 1025) (by decide +kernel)) rfl, qX9_useBoth⟩
theorem lX10_221 : MLv "TowField$World" 221 mX5_useOne 1 := ⟨TW_of (List.mem_of_getElem? (i := 1028) (by decide +kernel)) rfl, TW_of (List.mem_of_getElem? (i := 1029) (by decide +kernel)) rfl, TW_of (List.mem_of_getElem? (i := 1030) (by decide +kernel)) rfl, qX5_useOne⟩
theorem lX10_224 : MLv "TowField$World" 224 mX0_firstDue 2 := ⟨TW_of (List.mem_of_getElem? (i := 759) (by decide +kernel)) rfl, TW_of (List.mem_of_getElem? (i := 760) (by decide +kernel)) rfl, TW_of (List.mem_of_getElem? (i := 761) (by decide +kernel)) rfl, qX0_firstDue⟩
theorem lX10_227 : MLv "TowField$World" 227 mX10_whyNot 2 := ⟨TW_of (List.mem_of_getElem? (i := 768) (by decide +kernel)) rfl, TW_of (List.mem_of_getElem? (i := 692) (by decide +kernel)) rfl, TW_of (List.mem_of_getElem? (i := 693) (by decide +kernel)) rfl, qX10_whyNot⟩
theorem lX10_230 : MLv "TowField$World" 230 mX9_firstToFetch 0 := ⟨TW_of (List.mem_of_getElem? (i := 773) (by decide +kernel)) rfl, TW_of (List.mem_of_getElem? (i := 774) (by decide +kernel)) rfl, TW_of (List.mem_of_getElem? (i := 775) (by decide +kernel)) rfl, qX9_firstToFetch⟩
theorem lX10_233 : MLv "TowField$World" 233 mX10_lands 0 := ⟨TW_of (List.mem_of_getElem? (i := 755) (by decide +kernel)) rfl, TW_of (List.mem_of_getElem? (i := 757) (by decide +kernel)) rfl, TW_of (List.mem_of_getElem? (i := 10) (by decide +kernel)) rfl, qX10_lands⟩
theorem lX10_236 : MLv "TowField$World" 236 mX10_starts 1 := ⟨TW_of (List.mem_of_getElem? (i := 764) (by decide +kernel)) rfl, TW_of (List.mem_of_getElem? (i := 766) (by decide +kernel)) rfl, TW_of (List.mem_of_getElem? (i := 11) (by decide +kernel)) rfl, qX10_starts⟩
theorem lX10_239 : MLv "TowField$World" 239 mX10_isFetched 0 := ⟨TW_of (List.mem_of_getElem? (i := 769) (by decide +kernel)) rfl, TW_of (List.mem_of_getElem? (i := 771) (by decide +kernel)) rfl, TW_of (List.mem_of_getElem? (i := 12) (by decide +kernel)) rfl, qX10_isFetched⟩
theorem lX10_242 : MLv "TowField$World" 242 mX10_barred 0 := ⟨TW_of (List.mem_of_getElem? (i := 990) (by decide +kernel)) rfl, TW_of (List.mem_of_getElem? (i := 669) (by decide +kernel)) rfl, TW_of (List.mem_of_getElem? (i := 670) (by decide +kernel)) rfl, qX10_barred⟩
theorem lX10_245 : MLv "TowField$World" 245 mX10_goMinute 1 := ⟨TW_of (List.mem_of_getElem? (i := 991) (by decide +kernel)) rfl, TW_of (List.mem_of_getElem? (i := 992) (by decide +kernel)) rfl, TW_of (List.mem_of_getElem? (i := 993) (by decide +kernel)) rfl, qX10_goMinute⟩
theorem lX10_248 : MLv "TowField$World" 248 mX10_comeDown 1 := ⟨TW_of (List.mem_of_getElem? (i := 995) (by decide +kernel)) rfl, TW_of (List.mem_of_getElem? (i := 997) (by decide +kernel)) rfl, TW_of (List.mem_of_getElem? (i := 27) (by decide +kernel)) rfl, qX10_comeDown⟩
theorem lX10_251 : MLv "TowField$World" 251 mX10_takeOff 1 := ⟨TW_of (List.mem_of_getElem? (i := 1010) (by decide +kernel)) rfl, TW_of (List.mem_of_getElem? (i := 1012) (by decide +kernel)) rfl, TW_of (List.mem_of_getElem? (i := 29) (by decide +kernel)) rfl, qX10_takeOff⟩
theorem lX10_254 : MLv "TowField$World" 254 mX9_fetch 2 := ⟨TW_of (List.mem_of_getElem? (i := 1033) (by decide +kernel)) rfl, TW_of (List.mem_of_getElem? (i := 1034) (by decide +kernel)) rfl, TW_of (List.mem_of_getElem? (i := 1035) (by decide +kernel)) rfl, qX9_fetch⟩
theorem lX10_258 : MLv "TowField$World" 258 mX3_move 3 := ⟨TW_of (List.mem_of_getElem? (i := 1005) (by decide +kernel)) rfl, TW_of (List.mem_of_getElem? (i := 1006) (by decide +kernel)) rfl, TW_of (List.mem_of_getElem? (i := 1007) (by decide +kernel)) rfl, qX3_move⟩
theorem lX10_262 : MLv "TowField$World" 262 mX10_openNext 0 := ⟨TW_of (List.mem_of_getElem? (i := 1037) (by decide +kernel)) rfl, TW_of (List.mem_of_getElem? (i := 1039) (by decide +kernel)) rfl, TW_of (List.mem_of_getElem? (i := 31) (by decide +kernel)) rfl, qX10_openNext⟩
theorem lX10_265 : MLv "TowField$World" 265 mX10_costOf 1 := ⟨TW_of (List.mem_of_getElem? (i := 999) (by decide +kernel)) rfl, TW_of (List.mem_of_getElem? (i := 1001) (by decide +kernel)) rfl, TW_of (List.mem_of_getElem? (i := 28) (by decide +kernel)) rfl, qX10_costOf⟩
theorem lX10_277 : MLn "TowField$World" 277 mX11_withBit 3 := ⟨List.mem_of_getElem? (i := 20) (by decide +kernel), TW_of (List.mem_of_getElem? (i := 543) (by decide +kernel)) rfl, qX11_withBit⟩
theorem lX10_281 : MLv "TowField$World" 281 mX10_useGear 2 := ⟨TW_of (List.mem_of_getElem? (i := 1014) (by decide +kernel)) rfl, TW_of (List.mem_of_getElem? (i := 1016) (by decide +kernel)) rfl, TW_of (List.mem_of_getElem? (i := 30) (by decide +kernel)) rfl, qX10_useGear⟩
theorem lX10_287 : MLv "TowField$World" 287 mX9_open 1 := ⟨TW_of (List.mem_of_getElem? (i := 1041) (by decide +kernel)) rfl, TW_of (List.mem_of_getElem? (i := 1042) (by decide +kernel)) rfl, TW_of (List.mem_of_getElem? (i := 1043) (by decide +kernel)) rfl, qX9_open⟩
theorem lX10_290 : MLv "TowField$World" 290 mX5_open 1 := ⟨TW_of (List.mem_of_getElem? (i := 1045) (by decide +kernel)) rfl, TW_of (List.mem_of_getElem? (i := 1046) (by decide +kernel)) rfl, TW_of (List.mem_of_getElem? (i := 1047) (by decide +kernel)) rfl, qX5_open⟩
theorem lX10_291 : MLv "TowField$World" 291 mX3_open 1 := ⟨TW_of (List.mem_of_getElem? (i := 1049) (by decide +kernel)) rfl, TW_of (List.mem_of_getElem? (i := 1050) (by decide +kernel)) rfl, TW_of (List.mem_of_getElem? (i := 1051) (by decide +kernel)) rfl, qX3_open⟩
theorem lX10_292 : MLs "TowField$World" 292 mJ9_min_7cf53 2 := ⟨TW_of (List.mem_of_getElem? (i := 1003) (by decide +kernel)) rfl, TW_of (List.mem_of_getElem? (i := 888) (by decide +kernel)) rfl, qJ9_min_7cf53⟩
theorem lX10_297 : MLs "TowField$World" 297 mJ9_max_7cf53 2 := ⟨TW_of (List.mem_of_getElem? (i := 1004) (by decide +kernel)) rfl, TW_of (List.mem_of_getElem? (i := 617) (by decide +kernel)) rfl, qJ9_max_7cf53⟩
theorem lL_13 : MLv "TowFieldLaw" 13 mX11_glider 4 := ⟨TW_of (List.mem_of_getElem? (i := 456) (by decide +kernel)) rfl, TW_of (List.mem_of_getElem? (i := 457) (by decide +kernel)) rfl, TW_of (List.mem_of_getElem? (i := 458) (by decide +kernel)) rfl, qX11_glider⟩
theorem lL_17 : MLv "TowFieldLaw" 17 mX12_glider 4 := ⟨TW_of (List.mem_of_getElem? (i := 1267) (by decide +kernel)) rfl, TW_of (List.mem_of_getElem? (i := 1268) (by decide +kernel)) rfl, TW_of (List.mem_of_getElem? (i := 1269) (by decide +kernel)) rfl, qX12_glider⟩
theorem lL_18 : MLv "TowFieldLaw" 18 mX11_person 2 := ⟨TW_of (List.mem_of_getElem? (i := 477) (by decide +kernel)) rfl, TW_of (List.mem_of_getElem? (i := 478) (by decide +kernel)) rfl, TW_of (List.mem_of_getElem? (i := 479) (by decide +kernel)) rfl, qX11_person⟩
theorem lL_22 : MLv "TowFieldLaw" 22 mX12_person 2 := ⟨TW_of (List.mem_of_getElem? (i := 1280) (by decide +kernel)) rfl, TW_of (List.mem_of_getElem? (i := 1281) (by decide +kernel)) rfl, TW_of (List.mem_of_getElem? (i := 1282) (by decide +kernel)) rfl, qX12_person⟩
theorem lL_23 : MLv "TowFieldLaw" 23 mX11_winch 0 := ⟨TW_of (List.mem_of_getElem? (i := 485) (by decide +kernel)) rfl, TW_of (List.mem_of_getElem? (i := 486) (by decide +kernel)) rfl, TW_of (List.mem_of_getElem? (i := 487) (by decide +kernel)) rfl, qX11_winch⟩
theorem lL_27 : MLv "TowFieldLaw" 27 mX12_winch 0 := ⟨TW_of (List.mem_of_getElem? (i := 1284) (by decide +kernel)) rfl, TW_of (List.mem_of_getElem? (i := 1285) (by decide +kernel)) rfl, TW_of (List.mem_of_getElem? (i := 1286) (by decide +kernel)) rfl, qX12_winch⟩
theorem lL_28 : MLv "TowFieldLaw" 28 mX11_plane 0 := ⟨TW_of (List.mem_of_getElem? (i := 500) (by decide +kernel)) rfl, TW_of (List.mem_of_getElem? (i := 501) (by decide +kernel)) rfl, TW_of (List.mem_of_getElem? (i := 502) (by decide +kernel)) rfl, qX11_plane⟩
theorem lL_31 : MLv "TowFieldLaw" 31 mX12_plane 0 := ⟨TW_of (List.mem_of_getElem? (i := 1288) (by decide +kernel)) rfl, TW_of (List.mem_of_getElem? (i := 1289) (by decide +kernel)) rfl, TW_of (List.mem_of_getElem? (i := 1290) (by decide +kernel)) rfl, qX12_plane⟩
theorem lL_32 : MLv "TowFieldLaw" 32 mX11_gliderIs 2 := ⟨TW_of (List.mem_of_getElem? (i := 508) (by decide +kernel)) rfl, TW_of (List.mem_of_getElem? (i := 509) (by decide +kernel)) rfl, TW_of (List.mem_of_getElem? (i := 510) (by decide +kernel)) rfl, qX11_gliderIs⟩
theorem lL_35 : MLv "TowFieldLaw" 35 mX12_gliderIs 2 := ⟨TW_of (List.mem_of_getElem? (i := 1292) (by decide +kernel)) rfl, TW_of (List.mem_of_getElem? (i := 1293) (by decide +kernel)) rfl, TW_of (List.mem_of_getElem? (i := 1294) (by decide +kernel)) rfl, qX12_gliderIs⟩
theorem lL_36 : MLv "TowFieldLaw" 36 mX11_personIs 2 := ⟨TW_of (List.mem_of_getElem? (i := 524) (by decide +kernel)) rfl, TW_of (List.mem_of_getElem? (i := 525) (by decide +kernel)) rfl, TW_of (List.mem_of_getElem? (i := 526) (by decide +kernel)) rfl, qX11_personIs⟩
theorem lL_39 : MLv "TowFieldLaw" 39 mX12_personIs 2 := ⟨TW_of (List.mem_of_getElem? (i := 1312) (by decide +kernel)) rfl, TW_of (List.mem_of_getElem? (i := 1313) (by decide +kernel)) rfl, TW_of (List.mem_of_getElem? (i := 1314) (by decide +kernel)) rfl, qX12_personIs⟩
theorem lL_40 : MLv "TowFieldLaw" 40 mX11_paper 3 := ⟨TW_of (List.mem_of_getElem? (i := 538) (by decide +kernel)) rfl, TW_of (List.mem_of_getElem? (i := 539) (by decide +kernel)) rfl, TW_of (List.mem_of_getElem? (i := 540) (by decide +kernel)) rfl, qX11_paper⟩
theorem lL_44 : MLv "TowFieldLaw" 44 mX12_paper 3 := ⟨TW_of (List.mem_of_getElem? (i := 1324) (by decide +kernel)) rfl, TW_of (List.mem_of_getElem? (i := 1325) (by decide +kernel)) rfl, TW_of (List.mem_of_getElem? (i := 1326) (by decide +kernel)) rfl, qX12_paper⟩
theorem lL_45 : MLv "TowFieldLaw" 45 mX11_rope 3 := ⟨TW_of (List.mem_of_getElem? (i := 545) (by decide +kernel)) rfl, TW_of (List.mem_of_getElem? (i := 546) (by decide +kernel)) rfl, TW_of (List.mem_of_getElem? (i := 547) (by decide +kernel)) rfl, qX11_rope⟩
theorem lL_49 : MLv "TowFieldLaw" 49 mX12_rope 3 := ⟨TW_of (List.mem_of_getElem? (i := 1332) (by decide +kernel)) rfl, TW_of (List.mem_of_getElem? (i := 1333) (by decide +kernel)) rfl, TW_of (List.mem_of_getElem? (i := 1334) (by decide +kernel)) rfl, qX12_rope⟩
theorem lL_50 : MLv "TowFieldLaw" 50 mX11_broken 2 := ⟨TW_of (List.mem_of_getElem? (i := 555) (by decide +kernel)) rfl, TW_of (List.mem_of_getElem? (i := 556) (by decide +kernel)) rfl, TW_of (List.mem_of_getElem? (i := 557) (by decide +kernel)) rfl, qX11_broken⟩
theorem lL_53 : MLv "TowFieldLaw" 53 mX12_broken 2 := ⟨TW_of (List.mem_of_getElem? (i := 1339) (by decide +kernel)) rfl, TW_of (List.mem_of_getElem? (i := 1340) (by decide +kernel)) rfl, TW_of (List.mem_of_getElem? (i := 1341) (by decide +kernel)) rfl, qX12_broken⟩
theorem lL_54 : MLv "TowFieldLaw" 54 mX11_tow 1 := ⟨TW_of (List.mem_of_getElem? (i := 561) (by decide +kernel)) rfl, TW_of (List.mem_of_getElem? (i := 562) (by decide +kernel)) rfl, TW_of (List.mem_of_getElem? (i := 563) (by decide +kernel)) rfl, qX11_tow⟩
theorem lL_58 : MLv "TowFieldLaw" 58 mX12_tow 1 := ⟨TW_of (List.mem_of_getElem? (i := 1348) (by decide +kernel)) rfl, TW_of (List.mem_of_getElem? (i := 1349) (by decide +kernel)) rfl, TW_of (List.mem_of_getElem? (i := 1350) (by decide +kernel)) rfl, qX12_tow⟩
theorem lL_59 : MLv "TowFieldLaw" 59 mX11_cross 3 := ⟨TW_of (List.mem_of_getElem? (i := 570) (by decide +kernel)) rfl, TW_of (List.mem_of_getElem? (i := 571) (by decide +kernel)) rfl, TW_of (List.mem_of_getElem? (i := 572) (by decide +kernel)) rfl, qX11_cross⟩
theorem lL_62 : MLv "TowFieldLaw" 62 mX12_cross 3 := ⟨TW_of (List.mem_of_getElem? (i := 1352) (by decide +kernel)) rfl, TW_of (List.mem_of_getElem? (i := 1353) (by decide +kernel)) rfl, TW_of (List.mem_of_getElem? (i := 1354) (by decide +kernel)) rfl, qX12_cross⟩
theorem lL_63 : MLv "TowFieldLaw" 63 mX11_lane 2 := ⟨TW_of (List.mem_of_getElem? (i := 578) (by decide +kernel)) rfl, TW_of (List.mem_of_getElem? (i := 579) (by decide +kernel)) rfl, TW_of (List.mem_of_getElem? (i := 580) (by decide +kernel)) rfl, qX11_lane⟩
theorem lL_66 : MLv "TowFieldLaw" 66 mX12_lane 2 := ⟨TW_of (List.mem_of_getElem? (i := 1359) (by decide +kernel)) rfl, TW_of (List.mem_of_getElem? (i := 1360) (by decide +kernel)) rfl, TW_of (List.mem_of_getElem? (i := 1361) (by decide +kernel)) rfl, qX12_lane⟩
theorem lL_67 : MLv "TowFieldLaw" 67 mX11_wind 1 := ⟨TW_of (List.mem_of_getElem? (i := 582) (by decide +kernel)) rfl, TW_of (List.mem_of_getElem? (i := 583) (by decide +kernel)) rfl, TW_of (List.mem_of_getElem? (i := 584) (by decide +kernel)) rfl, qX11_wind⟩
theorem lL_70 : MLv "TowFieldLaw" 70 mX12_wind 1 := ⟨TW_of (List.mem_of_getElem? (i := 1367) (by decide +kernel)) rfl, TW_of (List.mem_of_getElem? (i := 1368) (by decide +kernel)) rfl, TW_of (List.mem_of_getElem? (i := 1369) (by decide +kernel)) rfl, qX12_wind⟩
theorem lL_71 : MLv "TowFieldLaw" 71 mX11_link 2 := ⟨TW_of (List.mem_of_getElem? (i := 586) (by decide +kernel)) rfl, TW_of (List.mem_of_getElem? (i := 587) (by decide +kernel)) rfl, TW_of (List.mem_of_getElem? (i := 588) (by decide +kernel)) rfl, qX11_link⟩
theorem lL_75 : MLv "TowFieldLaw" 75 mX12_link 2 := ⟨TW_of (List.mem_of_getElem? (i := 1371) (by decide +kernel)) rfl, TW_of (List.mem_of_getElem? (i := 1372) (by decide +kernel)) rfl, TW_of (List.mem_of_getElem? (i := 1373) (by decide +kernel)) rfl, qX12_link⟩
theorem lL_76 : MLv "TowFieldLaw" 76 mX11_rule 2 := ⟨TW_of (List.mem_of_getElem? (i := 590) (by decide +kernel)) rfl, TW_of (List.mem_of_getElem? (i := 591) (by decide +kernel)) rfl, TW_of (List.mem_of_getElem? (i := 592) (by decide +kernel)) rfl, qX11_rule⟩
theorem lL_79 : MLv "TowFieldLaw" 79 mX12_rule 2 := ⟨TW_of (List.mem_of_getElem? (i := 1375) (by decide +kernel)) rfl, TW_of (List.mem_of_getElem? (i := 1376) (by decide +kernel)) rfl, TW_of (List.mem_of_getElem? (i := 1377) (by decide +kernel)) rfl, qX12_rule⟩
theorem lL_80 : MLv "TowFieldLaw" 80 mX11_bound 1 := ⟨TW_of (List.mem_of_getElem? (i := 598) (by decide +kernel)) rfl, TW_of (List.mem_of_getElem? (i := 599) (by decide +kernel)) rfl, TW_of (List.mem_of_getElem? (i := 600) (by decide +kernel)) rfl, qX11_bound⟩
theorem lL_83 : MLv "TowFieldLaw" 83 mX12_bound 1 := ⟨TW_of (List.mem_of_getElem? (i := 1379) (by decide +kernel)) rfl, TW_of (List.mem_of_getElem? (i := 1380) (by decide +kernel)) rfl, TW_of (List.mem_of_getElem? (i := 1381) (by decide +kernel)) rfl, qX12_bound⟩
theorem lL_84 : MLv "TowFieldLaw" 84 mX11_span 2 := ⟨TW_of (List.mem_of_getElem? (i := 609) (by decide +kernel)) rfl, TW_of (List.mem_of_getElem? (i := 610) (by decide +kernel)) rfl, TW_of (List.mem_of_getElem? (i := 611) (by decide +kernel)) rfl, qX11_span⟩
theorem lL_87 : MLv "TowFieldLaw" 87 mX12_span 2 := ⟨TW_of (List.mem_of_getElem? (i := 1389) (by decide +kernel)) rfl, TW_of (List.mem_of_getElem? (i := 1390) (by decide +kernel)) rfl, TW_of (List.mem_of_getElem? (i := 1391) (by decide +kernel)) rfl, qX12_span⟩
theorem lL_88 : MLv "TowFieldLaw" 88 mX11_ask 5 := ⟨TW_of (List.mem_of_getElem? (i := 619) (by decide +kernel)) rfl, TW_of (List.mem_of_getElem? (i := 620) (by decide +kernel)) rfl, TW_of (List.mem_of_getElem? (i := 621) (by decide +kernel)) rfl, qX11_ask⟩
theorem lL_92 : MLv "TowFieldLaw" 92 mX12_ask 5 := ⟨TW_of (List.mem_of_getElem? (i := 1397) (by decide +kernel)) rfl, TW_of (List.mem_of_getElem? (i := 1398) (by decide +kernel)) rfl, TW_of (List.mem_of_getElem? (i := 1399) (by decide +kernel)) rfl, qX12_ask⟩
theorem lL_93 : MLv "TowFieldLaw" 93 mX11_askIs 2 := ⟨TW_of (List.mem_of_getElem? (i := 641) (by decide +kernel)) rfl, TW_of (List.mem_of_getElem? (i := 642) (by decide +kernel)) rfl, TW_of (List.mem_of_getElem? (i := 643) (by decide +kernel)) rfl, qX11_askIs⟩
theorem lL_96 : MLv "TowFieldLaw" 96 mX12_askIs 2 := ⟨TW_of (List.mem_of_getElem? (i := 1401) (by decide +kernel)) rfl, TW_of (List.mem_of_getElem? (i := 1402) (by decide +kernel)) rfl, TW_of (List.mem_of_getElem? (i := 1403) (by decide +kernel)) rfl, qX12_askIs⟩
theorem lL_97 : MLv "TowFieldLaw" 97 mX11_as 2 := ⟨TW_of (List.mem_of_getElem? (i := 654) (by decide +kernel)) rfl, TW_of (List.mem_of_getElem? (i := 655) (by decide +kernel)) rfl, TW_of (List.mem_of_getElem? (i := 656) (by decide +kernel)) rfl, qX11_as⟩
theorem lL_100 : MLv "TowFieldLaw" 100 mX12_as 2 := ⟨TW_of (List.mem_of_getElem? (i := 1405) (by decide +kernel)) rfl, TW_of (List.mem_of_getElem? (i := 1406) (by decide +kernel)) rfl, TW_of (List.mem_of_getElem? (i := 1407) (by decide +kernel)) rfl, qX12_as⟩
theorem lL_101 : MLv "TowFieldLaw" 101 mX11_back 1 := ⟨TW_of (List.mem_of_getElem? (i := 660) (by decide +kernel)) rfl, TW_of (List.mem_of_getElem? (i := 661) (by decide +kernel)) rfl, TW_of (List.mem_of_getElem? (i := 662) (by decide +kernel)) rfl, qX11_back⟩
theorem lL_104 : MLv "TowFieldLaw" 104 mX12_back 1 := ⟨TW_of (List.mem_of_getElem? (i := 1416) (by decide +kernel)) rfl, TW_of (List.mem_of_getElem? (i := 1417) (by decide +kernel)) rfl, TW_of (List.mem_of_getElem? (i := 1418) (by decide +kernel)) rfl, qX12_back⟩
theorem lL_105 : MLv "TowFieldLaw" 105 mX11_why 1 := ⟨TW_of (List.mem_of_getElem? (i := 664) (by decide +kernel)) rfl, TW_of (List.mem_of_getElem? (i := 665) (by decide +kernel)) rfl, TW_of (List.mem_of_getElem? (i := 666) (by decide +kernel)) rfl, qX11_why⟩
theorem lL_108 : MLv "TowFieldLaw" 108 mX12_why 1 := ⟨TW_of (List.mem_of_getElem? (i := 1420) (by decide +kernel)) rfl, TW_of (List.mem_of_getElem? (i := 1421) (by decide +kernel)) rfl, TW_of (List.mem_of_getElem? (i := 1422) (by decide +kernel)) rfl, qX12_why⟩
theorem lL_109 : MLv "TowFieldLaw" 109 mX11_clear 2 := ⟨TW_of (List.mem_of_getElem? (i := 742) (by decide +kernel)) rfl, TW_of (List.mem_of_getElem? (i := 743) (by decide +kernel)) rfl, TW_of (List.mem_of_getElem? (i := 744) (by decide +kernel)) rfl, qX11_clear⟩
theorem lL_112 : MLv "TowFieldLaw" 112 mX12_clear 2 := ⟨TW_of (List.mem_of_getElem? (i := 1470) (by decide +kernel)) rfl, TW_of (List.mem_of_getElem? (i := 1471) (by decide +kernel)) rfl, TW_of (List.mem_of_getElem? (i := 1472) (by decide +kernel)) rfl, qX12_clear⟩
theorem lL_113 : MLv "TowFieldLaw" 113 mX11_next 0 := ⟨TW_of (List.mem_of_getElem? (i := 747) (by decide +kernel)) rfl, TW_of (List.mem_of_getElem? (i := 748) (by decide +kernel)) rfl, TW_of (List.mem_of_getElem? (i := 749) (by decide +kernel)) rfl, qX11_next⟩
theorem lL_116 : MLv "TowFieldLaw" 116 mX12_next 0 := ⟨TW_of (List.mem_of_getElem? (i := 1474) (by decide +kernel)) rfl, TW_of (List.mem_of_getElem? (i := 1475) (by decide +kernel)) rfl, TW_of (List.mem_of_getElem? (i := 1476) (by decide +kernel)) rfl, qX12_next⟩
theorem lL_117 : MLv "TowFieldLaw" 117 mX11_feed 2 := ⟨TW_of (List.mem_of_getElem? (i := 777) (by decide +kernel)) rfl, TW_of (List.mem_of_getElem? (i := 778) (by decide +kernel)) rfl, TW_of (List.mem_of_getElem? (i := 779) (by decide +kernel)) rfl, qX11_feed⟩
theorem lL_120 : MLv "TowFieldLaw" 120 mX12_feed 2 := ⟨TW_of (List.mem_of_getElem? (i := 1546) (by decide +kernel)) rfl, TW_of (List.mem_of_getElem? (i := 1547) (by decide +kernel)) rfl, TW_of (List.mem_of_getElem? (i := 1548) (by decide +kernel)) rfl, qX12_feed⟩
theorem lL_121 : MLv "TowFieldLaw" 121 mX11_wipe 0 := ⟨TW_of (List.mem_of_getElem? (i := 785) (by decide +kernel)) rfl, TW_of (List.mem_of_getElem? (i := 786) (by decide +kernel)) rfl, TW_of (List.mem_of_getElem? (i := 787) (by decide +kernel)) rfl, qX11_wipe⟩
theorem lL_124 : MLv "TowFieldLaw" 124 mX12_wipe 0 := ⟨TW_of (List.mem_of_getElem? (i := 1550) (by decide +kernel)) rfl, TW_of (List.mem_of_getElem? (i := 1551) (by decide +kernel)) rfl, TW_of (List.mem_of_getElem? (i := 1552) (by decide +kernel)) rfl, qX12_wipe⟩
theorem lL_125 : MLv "TowFieldLaw" 125 mX11_text 1 := ⟨TW_of (List.mem_of_getElem? (i := 789) (by decide +kernel)) rfl, TW_of (List.mem_of_getElem? (i := 790) (by decide +kernel)) rfl, TW_of (List.mem_of_getElem? (i := 791) (by decide +kernel)) rfl, qX11_text⟩
theorem lL_128 : MLv "TowFieldLaw" 128 mX12_text 1 := ⟨TW_of (List.mem_of_getElem? (i := 1554) (by decide +kernel)) rfl, TW_of (List.mem_of_getElem? (i := 1555) (by decide +kernel)) rfl, TW_of (List.mem_of_getElem? (i := 1556) (by decide +kernel)) rfl, qX12_text⟩
theorem lL_129 : MLv "TowFieldLaw" 129 mX11_force 1 := ⟨TW_of (List.mem_of_getElem? (i := 972) (by decide +kernel)) rfl, TW_of (List.mem_of_getElem? (i := 973) (by decide +kernel)) rfl, TW_of (List.mem_of_getElem? (i := 974) (by decide +kernel)) rfl, qX11_force⟩
theorem lL_132 : MLv "TowFieldLaw" 132 mX12_force 1 := ⟨TW_of (List.mem_of_getElem? (i := 1608) (by decide +kernel)) rfl, TW_of (List.mem_of_getElem? (i := 1609) (by decide +kernel)) rfl, TW_of (List.mem_of_getElem? (i := 1610) (by decide +kernel)) rfl, qX12_force⟩
theorem lL_133 : MLv "TowFieldLaw" 133 mX11_says 4 := ⟨TW_of (List.mem_of_getElem? (i := 977) (by decide +kernel)) rfl, TW_of (List.mem_of_getElem? (i := 978) (by decide +kernel)) rfl, TW_of (List.mem_of_getElem? (i := 979) (by decide +kernel)) rfl, qX11_says⟩
theorem lL_136 : MLv "TowFieldLaw" 136 mX12_says 4 := ⟨TW_of (List.mem_of_getElem? (i := 1613) (by decide +kernel)) rfl, TW_of (List.mem_of_getElem? (i := 1614) (by decide +kernel)) rfl, TW_of (List.mem_of_getElem? (i := 1615) (by decide +kernel)) rfl, qX12_says⟩
theorem lL_137 : MLv "TowFieldLaw" 137 mX11_run 1 := ⟨TW_of (List.mem_of_getElem? (i := 982) (by decide +kernel)) rfl, TW_of (List.mem_of_getElem? (i := 983) (by decide +kernel)) rfl, TW_of (List.mem_of_getElem? (i := 984) (by decide +kernel)) rfl, qX11_run⟩
theorem lL_140 : MLv "TowFieldLaw" 140 mX12_run 1 := ⟨TW_of (List.mem_of_getElem? (i := 1494) (by decide +kernel)) rfl, TW_of (List.mem_of_getElem? (i := 1495) (by decide +kernel)) rfl, TW_of (List.mem_of_getElem? (i := 1496) (by decide +kernel)) rfl, qX12_run⟩
theorem lL_141 : MLv "TowFieldLaw" 141 mX11_ahead 2 := ⟨TW_of (List.mem_of_getElem? (i := 1053) (by decide +kernel)) rfl, TW_of (List.mem_of_getElem? (i := 1054) (by decide +kernel)) rfl, TW_of (List.mem_of_getElem? (i := 1055) (by decide +kernel)) rfl, qX11_ahead⟩
theorem lL_144 : MLv "TowFieldLaw" 144 mX12_ahead 2 := ⟨TW_of (List.mem_of_getElem? (i := 1527) (by decide +kernel)) rfl, TW_of (List.mem_of_getElem? (i := 1528) (by decide +kernel)) rfl, TW_of (List.mem_of_getElem? (i := 1529) (by decide +kernel)) rfl, qX12_ahead⟩
theorem lL_145 : MLv "TowFieldLaw" 145 mX11_late 1 := ⟨TW_of (List.mem_of_getElem? (i := 1096) (by decide +kernel)) rfl, TW_of (List.mem_of_getElem? (i := 1097) (by decide +kernel)) rfl, TW_of (List.mem_of_getElem? (i := 1098) (by decide +kernel)) rfl, qX11_late⟩
theorem lL_148 : MLv "TowFieldLaw" 148 mX12_late 1 := ⟨TW_of (List.mem_of_getElem? (i := 1542) (by decide +kernel)) rfl, TW_of (List.mem_of_getElem? (i := 1543) (by decide +kernel)) rfl, TW_of (List.mem_of_getElem? (i := 1544) (by decide +kernel)) rfl, qX12_late⟩
theorem lL_149 : MLv "TowFieldLaw" 149 mX11_check 1 := ⟨TW_of (List.mem_of_getElem? (i := 1100) (by decide +kernel)) rfl, TW_of (List.mem_of_getElem? (i := 1101) (by decide +kernel)) rfl, TW_of (List.mem_of_getElem? (i := 1102) (by decide +kernel)) rfl, qX11_check⟩
theorem lL_152 : MLv "TowFieldLaw" 152 mX12_check 1 := ⟨TW_of (List.mem_of_getElem? (i := 1626) (by decide +kernel)) rfl, TW_of (List.mem_of_getElem? (i := 1627) (by decide +kernel)) rfl, TW_of (List.mem_of_getElem? (i := 1628) (by decide +kernel)) rfl, qX12_check⟩
theorem lL_153 : MLv "TowFieldLaw" 153 mX11_share 2 := ⟨TW_of (List.mem_of_getElem? (i := 1110) (by decide +kernel)) rfl, TW_of (List.mem_of_getElem? (i := 1111) (by decide +kernel)) rfl, TW_of (List.mem_of_getElem? (i := 1112) (by decide +kernel)) rfl, qX11_share⟩
theorem lL_156 : MLv "TowFieldLaw" 156 mX12_share 2 := ⟨TW_of (List.mem_of_getElem? (i := 1617) (by decide +kernel)) rfl, TW_of (List.mem_of_getElem? (i := 1618) (by decide +kernel)) rfl, TW_of (List.mem_of_getElem? (i := 1619) (by decide +kernel)) rfl, qX12_share⟩
theorem lL_157 : MLv "TowFieldLaw" 157 mX11_pay 2 := ⟨TW_of (List.mem_of_getElem? (i := 1124) (by decide +kernel)) rfl, TW_of (List.mem_of_getElem? (i := 1125) (by decide +kernel)) rfl, TW_of (List.mem_of_getElem? (i := 1126) (by decide +kernel)) rfl, qX11_pay⟩
theorem lL_160 : MLv "TowFieldLaw" 160 mX12_pay 2 := ⟨TW_of (List.mem_of_getElem? (i := 1621) (by decide +kernel)) rfl, TW_of (List.mem_of_getElem? (i := 1622) (by decide +kernel)) rfl, TW_of (List.mem_of_getElem? (i := 1623) (by decide +kernel)) rfl, qX12_pay⟩
theorem lL_161 : MLv "TowFieldLaw" 161 mX11_sheet 3 := ⟨TW_of (List.mem_of_getElem? (i := 1129) (by decide +kernel)) rfl, TW_of (List.mem_of_getElem? (i := 1130) (by decide +kernel)) rfl, TW_of (List.mem_of_getElem? (i := 1131) (by decide +kernel)) rfl, qX11_sheet⟩
theorem lL_164 : MLv "TowFieldLaw" 164 mX12_sheet 3 := ⟨TW_of (List.mem_of_getElem? (i := 1634) (by decide +kernel)) rfl, TW_of (List.mem_of_getElem? (i := 1635) (by decide +kernel)) rfl, TW_of (List.mem_of_getElem? (i := 1636) (by decide +kernel)) rfl, qX12_sheet⟩
theorem lL_165 : MLv "TowFieldLaw" 165 mX11_write 3 := ⟨TW_of (List.mem_of_getElem? (i := 1141) (by decide +kernel)) rfl, TW_of (List.mem_of_getElem? (i := 1142) (by decide +kernel)) rfl, TW_of (List.mem_of_getElem? (i := 1143) (by decide +kernel)) rfl, qX11_write⟩
theorem lL_168 : MLv "TowFieldLaw" 168 mX12_write 3 := ⟨TW_of (List.mem_of_getElem? (i := 1639) (by decide +kernel)) rfl, TW_of (List.mem_of_getElem? (i := 1640) (by decide +kernel)) rfl, TW_of (List.mem_of_getElem? (i := 1641) (by decide +kernel)) rfl, qX12_write⟩
theorem lL_169 : MLv "TowFieldLaw" 169 mX11_copy 5 := ⟨TW_of (List.mem_of_getElem? (i := 1148) (by decide +kernel)) rfl, TW_of (List.mem_of_getElem? (i := 1149) (by decide +kernel)) rfl, TW_of (List.mem_of_getElem? (i := 1150) (by decide +kernel)) rfl, qX11_copy⟩
theorem lL_172 : MLv "TowFieldLaw" 172 mX12_copy 5 := ⟨TW_of (List.mem_of_getElem? (i := 1646) (by decide +kernel)) rfl, TW_of (List.mem_of_getElem? (i := 1647) (by decide +kernel)) rfl, TW_of (List.mem_of_getElem? (i := 1648) (by decide +kernel)) rfl, qX12_copy⟩
theorem lL_173 : MLv "TowFieldLaw" 173 mX11_image 0 := ⟨TW_of (List.mem_of_getElem? (i := 1157) (by decide +kernel)) rfl, TW_of (List.mem_of_getElem? (i := 1158) (by decide +kernel)) rfl, TW_of (List.mem_of_getElem? (i := 1159) (by decide +kernel)) rfl, qX11_image⟩
theorem lL_176 : MLv "TowFieldLaw" 176 mX12_image 0 := ⟨TW_of (List.mem_of_getElem? (i := 1650) (by decide +kernel)) rfl, TW_of (List.mem_of_getElem? (i := 1651) (by decide +kernel)) rfl, TW_of (List.mem_of_getElem? (i := 1652) (by decide +kernel)) rfl, qX12_image⟩
theorem lL_177 : MLv "TowFieldLaw" 177 mX11_undo 0 := ⟨TW_of (List.mem_of_getElem? (i := 1161) (by decide +kernel)) rfl, TW_of (List.mem_of_getElem? (i := 1162) (by decide +kernel)) rfl, TW_of (List.mem_of_getElem? (i := 1163) (by decide +kernel)) rfl, qX11_undo⟩
theorem lL_180 : MLv "TowFieldLaw" 180 mX12_undo 0 := ⟨TW_of (List.mem_of_getElem? (i := 1654) (by decide +kernel)) rfl, TW_of (List.mem_of_getElem? (i := 1655) (by decide +kernel)) rfl, TW_of (List.mem_of_getElem? (i := 1656) (by decide +kernel)) rfl, qX12_undo⟩
theorem lL_181 : MLv "TowFieldLaw" 181 mX11_tear 0 := ⟨TW_of (List.mem_of_getElem? (i := 1165) (by decide +kernel)) rfl, TW_of (List.mem_of_getElem? (i := 1166) (by decide +kernel)) rfl, TW_of (List.mem_of_getElem? (i := 1167) (by decide +kernel)) rfl, qX11_tear⟩
theorem lL_184 : MLv "TowFieldLaw" 184 mX12_tear 0 := ⟨TW_of (List.mem_of_getElem? (i := 1658) (by decide +kernel)) rfl, TW_of (List.mem_of_getElem? (i := 1659) (by decide +kernel)) rfl, TW_of (List.mem_of_getElem? (i := 1660) (by decide +kernel)) rfl, qX12_tear⟩
theorem lL_185 : MLv "TowFieldLaw" 185 mX11_count 1 := ⟨TW_of (List.mem_of_getElem? (i := 1169) (by decide +kernel)) rfl, TW_of (List.mem_of_getElem? (i := 1170) (by decide +kernel)) rfl, TW_of (List.mem_of_getElem? (i := 1171) (by decide +kernel)) rfl, qX11_count⟩
theorem lL_188 : MLv "TowFieldLaw" 188 mX12_count 1 := ⟨TW_of (List.mem_of_getElem? (i := 1662) (by decide +kernel)) rfl, TW_of (List.mem_of_getElem? (i := 1663) (by decide +kernel)) rfl, TW_of (List.mem_of_getElem? (i := 1664) (by decide +kernel)) rfl, qX12_count⟩
theorem lL_189 : MLv "TowFieldLaw" 189 mX11_status 1 := ⟨TW_of (List.mem_of_getElem? (i := 1178) (by decide +kernel)) rfl, TW_of (List.mem_of_getElem? (i := 1179) (by decide +kernel)) rfl, TW_of (List.mem_of_getElem? (i := 1180) (by decide +kernel)) rfl, qX11_status⟩
theorem lL_192 : MLv "TowFieldLaw" 192 mX12_status 1 := ⟨TW_of (List.mem_of_getElem? (i := 1669) (by decide +kernel)) rfl, TW_of (List.mem_of_getElem? (i := 1670) (by decide +kernel)) rfl, TW_of (List.mem_of_getElem? (i := 1671) (by decide +kernel)) rfl, qX12_status⟩
theorem lX12_58 : MLs "TowFieldModel" 58 mX12_within 3 := ⟨TW_of (List.mem_of_getElem? (i := 1271) (by decide +kernel)) rfl, TW_of (List.mem_of_getElem? (i := 1272) (by decide +kernel)) rfl, qX12_within⟩
theorem lX12_62 : MLv "TowFieldModel" 62 mX12_finding 1 := ⟨TW_of (List.mem_of_getElem? (i := 1275) (by decide +kernel)) rfl, TW_of (List.mem_of_getElem? (i := 1277) (by decide +kernel)) rfl, TW_of (List.mem_of_getElem? (i := 32) (by decide +kernel)) rfl, qX12_finding⟩
theorem lX12_67 : MLv "TowFieldModel" 67 mX12_askOf 2 := ⟨TW_of (List.mem_of_getElem? (i := 1308) (by decide +kernel)) rfl, TW_of (List.mem_of_getElem? (i := 1310) (by decide +kernel)) rfl, TW_of (List.mem_of_getElem? (i := 36) (by decide +kernel)) rfl, qX12_askOf⟩
theorem lX12_71 : MLv "TowFieldModel" 71 mX12_is 2 := ⟨TW_of (List.mem_of_getElem? (i := 1296) (by decide +kernel)) rfl, TW_of (List.mem_of_getElem? (i := 1298) (by decide +kernel)) rfl, TW_of (List.mem_of_getElem? (i := 33) (by decide +kernel)) rfl, qX12_is⟩
theorem lX12_75 : MLv "TowFieldModel" 75 mX12_gliderOf 2 := ⟨TW_of (List.mem_of_getElem? (i := 1300) (by decide +kernel)) rfl, TW_of (List.mem_of_getElem? (i := 1302) (by decide +kernel)) rfl, TW_of (List.mem_of_getElem? (i := 34) (by decide +kernel)) rfl, qX12_gliderOf⟩
theorem lX12_78 : MLv "TowFieldModel" 78 mX12_isInRow 1 := ⟨TW_of (List.mem_of_getElem? (i := 1304) (by decide +kernel)) rfl, TW_of (List.mem_of_getElem? (i := 1306) (by decide +kernel)) rfl, TW_of (List.mem_of_getElem? (i := 35) (by decide +kernel)) rfl, qX12_isInRow⟩
theorem lX12_82 : MLv "TowFieldModel" 82 mX12_personOf 2 := ⟨TW_of (List.mem_of_getElem? (i := 1316) (by decide +kernel)) rfl, TW_of (List.mem_of_getElem? (i := 1318) (by decide +kernel)) rfl, TW_of (List.mem_of_getElem? (i := 37) (by decide +kernel)) rfl, qX12_personOf⟩
theorem lX12_85 : MLv "TowFieldModel" 85 mX12_isInAir 1 := ⟨TW_of (List.mem_of_getElem? (i := 1320) (by decide +kernel)) rfl, TW_of (List.mem_of_getElem? (i := 1322) (by decide +kernel)) rfl, TW_of (List.mem_of_getElem? (i := 38) (by decide +kernel)) rfl, qX12_isInAir⟩
theorem lX12_88 : MLv "TowFieldModel" 88 mX12_bit 3 := ⟨TW_of (List.mem_of_getElem? (i := 1328) (by decide +kernel)) rfl, TW_of (List.mem_of_getElem? (i := 1330) (by decide +kernel)) rfl, TW_of (List.mem_of_getElem? (i := 39) (by decide +kernel)) rfl, qX12_bit⟩
theorem lX12_92 : MLs "TowFieldModel" 92 mX12_ropeAt 2 := ⟨TW_of (List.mem_of_getElem? (i := 1336) (by decide +kernel)) rfl, TW_of (List.mem_of_getElem? (i := 1337) (by decide +kernel)) rfl, qX12_ropeAt⟩
theorem lX12_96 : MLv "TowFieldModel" 96 mX12_ropeIs 4 := ⟨TW_of (List.mem_of_getElem? (i := 1344) (by decide +kernel)) rfl, TW_of (List.mem_of_getElem? (i := 1346) (by decide +kernel)) rfl, TW_of (List.mem_of_getElem? (i := 40) (by decide +kernel)) rfl, qX12_ropeIs⟩
theorem lX12_100 : MLs "TowFieldModel" 100 mX12_isLane 1 := ⟨TW_of (List.mem_of_getElem? (i := 1356) (by decide +kernel)) rfl, TW_of (List.mem_of_getElem? (i := 1357) (by decide +kernel)) rfl, qX12_isLane⟩
theorem lX12_103 : MLv "TowFieldModel" 103 mX12_become 2 := ⟨TW_of (List.mem_of_getElem? (i := 1363) (by decide +kernel)) rfl, TW_of (List.mem_of_getElem? (i := 1365) (by decide +kernel)) rfl, TW_of (List.mem_of_getElem? (i := 41) (by decide +kernel)) rfl, qX12_become⟩
theorem lX12_106 : MLs "TowFieldModel" 106 mX12_boundOf 1 := ⟨TW_of (List.mem_of_getElem? (i := 1386) (by decide +kernel)) rfl, TW_of (List.mem_of_getElem? (i := 1387) (by decide +kernel)) rfl, qX12_boundOf⟩
theorem lX12_109 : MLs "TowFieldModel" 109 mX12_spanOf 2 := ⟨TW_of (List.mem_of_getElem? (i := 1393) (by decide +kernel)) rfl, TW_of (List.mem_of_getElem? (i := 1394) (by decide +kernel)) rfl, qX12_spanOf⟩
theorem lX12_112 : MLs "TowFieldModel" 112 mJ9_max_7cf53 2 := ⟨TW_of (List.mem_of_getElem? (i := 1396) (by decide +kernel)) rfl, TW_of (List.mem_of_getElem? (i := 617) (by decide +kernel)) rfl, qJ9_max_7cf53⟩
theorem lX12_117 : MLs "TowFieldModel" 117 mX12_isKind 1 := ⟨TW_of (List.mem_of_getElem? (i := 1383) (by decide +kernel)) rfl, TW_of (List.mem_of_getElem? (i := 1384) (by decide +kernel)) rfl, qX12_isKind⟩
theorem lX12_120 : MLs "TowFieldModel" 120 mX12_above 1 := ⟨TW_of (List.mem_of_getElem? (i := 1412) (by decide +kernel)) rfl, TW_of (List.mem_of_getElem? (i := 1413) (by decide +kernel)) rfl, qX12_above⟩
theorem lX12_123 : MLs "TowFieldModel" 123 mX12_isUnder 2 := ⟨TW_of (List.mem_of_getElem? (i := 1409) (by decide +kernel)) rfl, TW_of (List.mem_of_getElem? (i := 1410) (by decide +kernel)) rfl, qX12_isUnder⟩
theorem lX12_127 : MLs "TowFieldModel" 127 mX12_has 2 := ⟨TW_of (List.mem_of_getElem? (i := 1432) (by decide +kernel)) rfl, TW_of (List.mem_of_getElem? (i := 1433) (by decide +kernel)) rfl, qX12_has⟩
theorem lX12_130 : MLv "TowFieldModel" 130 mX12_winchFor 1 := ⟨TW_of (List.mem_of_getElem? (i := 1450) (by decide +kernel)) rfl, TW_of (List.mem_of_getElem? (i := 1452) (by decide +kernel)) rfl, TW_of (List.mem_of_getElem? (i := 47) (by decide +kernel)) rfl, qX12_winchFor⟩
theorem lX12_133 : MLv "TowFieldModel" 133 mX12_planeThere 0 := ⟨TW_of (List.mem_of_getElem? (i := 1454) (by decide +kernel)) rfl, TW_of (List.mem_of_getElem? (i := 1456) (by decide +kernel)) rfl, TW_of (List.mem_of_getElem? (i := 48) (by decide +kernel)) rfl, qX12_planeThere⟩
theorem lX12_137 : MLv "TowFieldModel" 137 mX12_hasPapers 2 := ⟨TW_of (List.mem_of_getElem? (i := 1428) (by decide +kernel)) rfl, TW_of (List.mem_of_getElem? (i := 1430) (by decide +kernel)) rfl, TW_of (List.mem_of_getElem? (i := 43) (by decide +kernel)) rfl, qX12_hasPapers⟩
theorem lX12_140 : MLv "TowFieldModel" 140 mX12_textOf 1 := ⟨TW_of (List.mem_of_getElem? (i := 1435) (by decide +kernel)) rfl, TW_of (List.mem_of_getElem? (i := 1437) (by decide +kernel)) rfl, TW_of (List.mem_of_getElem? (i := 44) (by decide +kernel)) rfl, qX12_textOf⟩
theorem lX12_143 : MLv "TowFieldModel" 143 mX12_worked 4 := ⟨TW_of (List.mem_of_getElem? (i := 1439) (by decide +kernel)) rfl, TW_of (List.mem_of_getElem? (i := 1441) (by decide +kernel)) rfl, TW_of (List.mem_of_getElem? (i := 45) (by decide +kernel)) rfl, qX12_worked⟩
theorem lX12_147 : MLv "TowFieldModel" 147 mX12_hasHelp 1 := ⟨TW_of (List.mem_of_getElem? (i := 1446) (by decide +kernel)) rfl, TW_of (List.mem_of_getElem? (i := 1448) (by decide +kernel)) rfl, TW_of (List.mem_of_getElem? (i := 46) (by decide +kernel)) rfl, qX12_hasHelp⟩
theorem lX12_150 : MLv "TowFieldModel" 150 mX12_laneOf 1 := ⟨TW_of (List.mem_of_getElem? (i := 1458) (by decide +kernel)) rfl, TW_of (List.mem_of_getElem? (i := 1460) (by decide +kernel)) rfl, TW_of (List.mem_of_getElem? (i := 49) (by decide +kernel)) rfl, qX12_laneOf⟩
theorem lX12_153 : MLv "TowFieldModel" 153 mX12_spanOfAsk 1 := ⟨TW_of (List.mem_of_getElem? (i := 1462) (by decide +kernel)) rfl, TW_of (List.mem_of_getElem? (i := 1464) (by decide +kernel)) rfl, TW_of (List.mem_of_getElem? (i := 50) (by decide +kernel)) rfl, qX12_spanOfAsk⟩
theorem lX12_156 : MLv "TowFieldModel" 156 mX12_isClear 2 := ⟨TW_of (List.mem_of_getElem? (i := 1466) (by decide +kernel)) rfl, TW_of (List.mem_of_getElem? (i := 1468) (by decide +kernel)) rfl, TW_of (List.mem_of_getElem? (i := 51) (by decide +kernel)) rfl, qX12_isClear⟩
theorem lX12_159 : MLv "TowFieldModel" 159 mX12_whyNot 1 := ⟨TW_of (List.mem_of_getElem? (i := 1424) (by decide +kernel)) rfl, TW_of (List.mem_of_getElem? (i := 1426) (by decide +kernel)) rfl, TW_of (List.mem_of_getElem? (i := 42) (by decide +kernel)) rfl, qX12_whyNot⟩
theorem lX12_162 : MLv "TowFieldModel" 162 mX12_dueOf 1 := ⟨TW_of (List.mem_of_getElem? (i := 1482) (by decide +kernel)) rfl, TW_of (List.mem_of_getElem? (i := 1484) (by decide +kernel)) rfl, TW_of (List.mem_of_getElem? (i := 53) (by decide +kernel)) rfl, qX12_dueOf⟩
theorem lX12_165 : MLv "TowFieldModel" 165 mX12_lands 0 := ⟨TW_of (List.mem_of_getElem? (i := 1478) (by decide +kernel)) rfl, TW_of (List.mem_of_getElem? (i := 1480) (by decide +kernel)) rfl, TW_of (List.mem_of_getElem? (i := 52) (by decide +kernel)) rfl, qX12_lands⟩
theorem lX12_168 : MLv "TowFieldModel" 168 mX12_starts 0 := ⟨TW_of (List.mem_of_getElem? (i := 1486) (by decide +kernel)) rfl, TW_of (List.mem_of_getElem? (i := 1488) (by decide +kernel)) rfl, TW_of (List.mem_of_getElem? (i := 54) (by decide +kernel)) rfl, qX12_starts⟩
theorem lX12_171 : MLv "TowFieldModel" 171 mX12_fetches 0 := ⟨TW_of (List.mem_of_getElem? (i := 1490) (by decide +kernel)) rfl, TW_of (List.mem_of_getElem? (i := 1492) (by decide +kernel)) rfl, TW_of (List.mem_of_getElem? (i := 55) (by decide +kernel)) rfl, qX12_fetches⟩
theorem lX12_174 : MLs "TowFieldModel" 174 mJ9_min_7cf53 2 := ⟨TW_of (List.mem_of_getElem? (i := 1510) (by decide +kernel)) rfl, TW_of (List.mem_of_getElem? (i := 888) (by decide +kernel)) rfl, qJ9_min_7cf53⟩
theorem lX12_177 : MLv "TowFieldModel" 177 mX12_costOf 1 := ⟨TW_of (List.mem_of_getElem? (i := 1506) (by decide +kernel)) rfl, TW_of (List.mem_of_getElem? (i := 1508) (by decide +kernel)) rfl, TW_of (List.mem_of_getElem? (i := 58) (by decide +kernel)) rfl, qX12_costOf⟩
theorem lX12_180 : MLv "TowFieldModel" 180 mX12_moves 2 := ⟨TW_of (List.mem_of_getElem? (i := 1511) (by decide +kernel)) rfl, TW_of (List.mem_of_getElem? (i := 1513) (by decide +kernel)) rfl, TW_of (List.mem_of_getElem? (i := 59) (by decide +kernel)) rfl, qX12_moves⟩
theorem lX12_184 : MLv "TowFieldModel" 184 mX12_goesDown 1 := ⟨TW_of (List.mem_of_getElem? (i := 1502) (by decide +kernel)) rfl, TW_of (List.mem_of_getElem? (i := 1504) (by decide +kernel)) rfl, TW_of (List.mem_of_getElem? (i := 57) (by decide +kernel)) rfl, qX12_goesDown⟩
theorem lX12_188 : MLv "TowFieldModel" 188 mX12_goesUp 1 := ⟨TW_of (List.mem_of_getElem? (i := 1515) (by decide +kernel)) rfl, TW_of (List.mem_of_getElem? (i := 1517) (by decide +kernel)) rfl, TW_of (List.mem_of_getElem? (i := 60) (by decide +kernel)) rfl, qX12_goesUp⟩
theorem lX12_191 : MLv "TowFieldModel" 191 mX12_isFetched 1 := ⟨TW_of (List.mem_of_getElem? (i := 1519) (by decide +kernel)) rfl, TW_of (List.mem_of_getElem? (i := 1521) (by decide +kernel)) rfl, TW_of (List.mem_of_getElem? (i := 61) (by decide +kernel)) rfl, qX12_isFetched⟩
theorem lX12_194 : MLv "TowFieldModel" 194 mX12_opens 0 := ⟨TW_of (List.mem_of_getElem? (i := 1523) (by decide +kernel)) rfl, TW_of (List.mem_of_getElem? (i := 1525) (by decide +kernel)) rfl, TW_of (List.mem_of_getElem? (i := 62) (by decide +kernel)) rfl, qX12_opens⟩
theorem lX12_197 : MLv "TowFieldModel" 197 mX12_goes 0 := ⟨TW_of (List.mem_of_getElem? (i := 1498) (by decide +kernel)) rfl, TW_of (List.mem_of_getElem? (i := 1500) (by decide +kernel)) rfl, TW_of (List.mem_of_getElem? (i := 56) (by decide +kernel)) rfl, qX12_goes⟩
theorem lX12_200 : MLs "TowFieldModel" 200 mX12_copyRow 2 := ⟨TW_of (List.mem_of_getElem? (i := 1535) (by decide +kernel)) rfl, TW_of (List.mem_of_getElem? (i := 1536) (by decide +kernel)) rfl, qX12_copyRow⟩
theorem lX12_211 : MLv "TowFieldModel" 211 mX12_asksThat 1 := ⟨TW_of (List.mem_of_getElem? (i := 1538) (by decide +kernel)) rfl, TW_of (List.mem_of_getElem? (i := 1540) (by decide +kernel)) rfl, TW_of (List.mem_of_getElem? (i := 64) (by decide +kernel)) rfl, qX12_asksThat⟩
theorem lX12_220 : MLv "TowFieldModel" 220 mX12_goBeside 1 := ⟨TW_of (List.mem_of_getElem? (i := 1531) (by decide +kernel)) rfl, TW_of (List.mem_of_getElem? (i := 1533) (by decide +kernel)) rfl, TW_of (List.mem_of_getElem? (i := 63) (by decide +kernel)) rfl, qX12_goBeside⟩
theorem lX12_235 : MLv "TowFieldModel" 235 mX12_isByte 3 := ⟨TW_of (List.mem_of_getElem? (i := 1562) (by decide +kernel)) rfl, TW_of (List.mem_of_getElem? (i := 1564) (by decide +kernel)) rfl, TW_of (List.mem_of_getElem? (i := 66) (by decide +kernel)) rfl, qX12_isByte⟩
theorem lX12_242 : MLv "TowFieldModel" 242 mX12_nextToken 0 := ⟨TW_of (List.mem_of_getElem? (i := 1558) (by decide +kernel)) rfl, TW_of (List.mem_of_getElem? (i := 1560) (by decide +kernel)) rfl, TW_of (List.mem_of_getElem? (i := 65) (by decide +kernel)) rfl, qX12_nextToken⟩
theorem lX12_245 : MLv "TowFieldModel" 245 mJ0_length_8abf5 0 := ⟨TW_of (List.mem_of_getElem? (i := 1606) (by decide +kernel)) rfl, TW_of (List.mem_of_getElem? (i := 816) (by decide +kernel)) rfl, TW_of (List.mem_of_getElem? (i := 817) (by decide +kernel)) rfl, qJ0_length_8abf5⟩
theorem lX12_248 : MLv "TowFieldModel" 248 mJ0_charAt_5068e 1 := ⟨TW_of (List.mem_of_getElem? (i := 1607) (by decide +kernel)) rfl, TW_of (List.mem_of_getElem? (i := 826) (by decide +kernel)) rfl, TW_of (List.mem_of_getElem? (i := 827) (by decide +kernel)) rfl, qJ0_charAt_5068e⟩
theorem lX12_255 : MLv "TowFieldModel" 255 mX12_both 0 := ⟨TW_of (List.mem_of_getElem? (i := 1570) (by decide +kernel)) rfl, TW_of (List.mem_of_getElem? (i := 1572) (by decide +kernel)) rfl, TW_of (List.mem_of_getElem? (i := 68) (by decide +kernel)) rfl, qX12_both⟩
theorem lX12_258 : MLv "TowFieldModel" 258 mX12_isSign 1 := ⟨TW_of (List.mem_of_getElem? (i := 1578) (by decide +kernel)) rfl, TW_of (List.mem_of_getElem? (i := 1580) (by decide +kernel)) rfl, TW_of (List.mem_of_getElem? (i := 70) (by decide +kernel)) rfl, qX12_isSign⟩
theorem lX12_261 : MLv "TowFieldModel" 261 mX12_need 1 := ⟨TW_of (List.mem_of_getElem? (i := 1582) (by decide +kernel)) rfl, TW_of (List.mem_of_getElem? (i := 1584) (by decide +kernel)) rfl, TW_of (List.mem_of_getElem? (i := 71) (by decide +kernel)) rfl, qX12_need⟩
theorem lX12_265 : MLv "TowFieldModel" 265 mX12_emit 1 := ⟨TW_of (List.mem_of_getElem? (i := 1586) (by decide +kernel)) rfl, TW_of (List.mem_of_getElem? (i := 1588) (by decide +kernel)) rfl, TW_of (List.mem_of_getElem? (i := 72) (by decide +kernel)) rfl, qX12_emit⟩
theorem lX12_268 : MLv "TowFieldModel" 268 mX12_not 0 := ⟨TW_of (List.mem_of_getElem? (i := 1574) (by decide +kernel)) rfl, TW_of (List.mem_of_getElem? (i := 1576) (by decide +kernel)) rfl, TW_of (List.mem_of_getElem? (i := 69) (by decide +kernel)) rfl, qX12_not⟩
theorem lX12_274 : MLv "TowFieldModel" 274 mX12_sum 0 := ⟨TW_of (List.mem_of_getElem? (i := 1590) (by decide +kernel)) rfl, TW_of (List.mem_of_getElem? (i := 1592) (by decide +kernel)) rfl, TW_of (List.mem_of_getElem? (i := 73) (by decide +kernel)) rfl, qX12_sum⟩
theorem lX12_277 : MLv "TowFieldModel" 277 mX12_product 0 := ⟨TW_of (List.mem_of_getElem? (i := 1594) (by decide +kernel)) rfl, TW_of (List.mem_of_getElem? (i := 1596) (by decide +kernel)) rfl, TW_of (List.mem_of_getElem? (i := 74) (by decide +kernel)) rfl, qX12_product⟩
theorem lX12_280 : MLv "TowFieldModel" 280 mX12_part 0 := ⟨TW_of (List.mem_of_getElem? (i := 1598) (by decide +kernel)) rfl, TW_of (List.mem_of_getElem? (i := 1600) (by decide +kernel)) rfl, TW_of (List.mem_of_getElem? (i := 75) (by decide +kernel)) rfl, qX12_part⟩
theorem lX12_283 : MLv "TowFieldModel" 283 mX12_isWord 1 := ⟨TW_of (List.mem_of_getElem? (i := 1602) (by decide +kernel)) rfl, TW_of (List.mem_of_getElem? (i := 1604) (by decide +kernel)) rfl, TW_of (List.mem_of_getElem? (i := 76) (by decide +kernel)) rfl, qX12_isWord⟩
theorem lX12_287 : MLv "TowFieldModel" 287 mX12_either 0 := ⟨TW_of (List.mem_of_getElem? (i := 1566) (by decide +kernel)) rfl, TW_of (List.mem_of_getElem? (i := 1568) (by decide +kernel)) rfl, TW_of (List.mem_of_getElem? (i := 67) (by decide +kernel)) rfl, qX12_either⟩
theorem lX12_291 : MLs "TowFieldModel" 291 mX12_done 3 := ⟨TW_of (List.mem_of_getElem? (i := 1443) (by decide +kernel)) rfl, TW_of (List.mem_of_getElem? (i := 1444) (by decide +kernel)) rfl, qX12_done⟩
theorem lX12_296 : MLs "TowFieldModel" 296 mX12_isSheet 1 := ⟨TW_of (List.mem_of_getElem? (i := 1630) (by decide +kernel)) rfl, TW_of (List.mem_of_getElem? (i := 1631) (by decide +kernel)) rfl, qX12_isSheet⟩
theorem lX12_301 : MLs "TowFieldModel" 301 mX12_cut 2 := ⟨TW_of (List.mem_of_getElem? (i := 1643) (by decide +kernel)) rfl, TW_of (List.mem_of_getElem? (i := 1644) (by decide +kernel)) rfl, qX12_cut⟩
theorem lX12_307 : MLs "TowFieldModel" 307 mX12_bits 1 := ⟨TW_of (List.mem_of_getElem? (i := 1666) (by decide +kernel)) rfl, TW_of (List.mem_of_getElem? (i := 1667) (by decide +kernel)) rfl, qX12_bits⟩
theorem lJ0_335 : MLv "java/lang/String" 335 mJ0_coder_7d493 0 := ⟨TW_of (List.mem_of_getElem? (i := 819) (by decide +kernel)) rfl, TW_of (List.mem_of_getElem? (i := 820) (by decide +kernel)) rfl, TW_of (List.mem_of_getElem? (i := 821) (by decide +kernel)) rfl, qJ0_coder_7d493⟩
theorem lJ0_492 : MLv "java/lang/String" 492 mJ0_isLatin1_aae02 0 := ⟨TW_of (List.mem_of_getElem? (i := 829) (by decide +kernel)) rfl, TW_of (List.mem_of_getElem? (i := 830) (by decide +kernel)) rfl, TW_of (List.mem_of_getElem? (i := 831) (by decide +kernel)) rfl, qJ0_isLatin1_aae02⟩
theorem lJ0_495 : MLs "java/lang/String" 495 mJ1_charAt_3b067 2 := ⟨TW_of (List.mem_of_getElem? (i := 833) (by decide +kernel)) rfl, TW_of (List.mem_of_getElem? (i := 834) (by decide +kernel)) rfl, qJ1_charAt_3b067⟩
theorem lJ0_498 : MLs "java/lang/String" 498 mJ2_charAt_3b067 2 := ⟨TW_of (List.mem_of_getElem? (i := 844) (by decide +kernel)) rfl, TW_of (List.mem_of_getElem? (i := 845) (by decide +kernel)) rfl, qJ2_charAt_3b067⟩
theorem lJ0_505 : MLv "java/lang/String" 505 mJ0_length_8abf5 0 := ⟨TW_of (List.mem_of_getElem? (i := 879) (by decide +kernel)) rfl, TW_of (List.mem_of_getElem? (i := 816) (by decide +kernel)) rfl, TW_of (List.mem_of_getElem? (i := 817) (by decide +kernel)) rfl, qJ0_length_8abf5⟩
theorem lJ0_633 : MLv "java/lang/String" 633 mJ0_indexOf_7cf53 2 := ⟨TW_of (List.mem_of_getElem? (i := 875) (by decide +kernel)) rfl, TW_of (List.mem_of_getElem? (i := 876) (by decide +kernel)) rfl, TW_of (List.mem_of_getElem? (i := 877) (by decide +kernel)) rfl, qJ0_indexOf_7cf53⟩
theorem lJ0_637 : MLs "java/lang/String" 637 mJ1_indexOf_4cfef 4 := ⟨TW_of (List.mem_of_getElem? (i := 880) (by decide +kernel)) rfl, TW_of (List.mem_of_getElem? (i := 881) (by decide +kernel)) rfl, qJ1_indexOf_4cfef⟩
theorem lJ0_640 : MLs "java/lang/String" 640 mJ2_indexOf_4cfef 4 := ⟨TW_of (List.mem_of_getElem? (i := 893) (by decide +kernel)) rfl, TW_of (List.mem_of_getElem? (i := 894) (by decide +kernel)) rfl, qJ2_indexOf_4cfef⟩
theorem lJ0_1059 : MLs "java/lang/String" 1059 mJ3_checkIndex_8e157 3 := ⟨TW_of (List.mem_of_getElem? (i := 841) (by decide +kernel)) rfl, TW_of (List.mem_of_getElem? (i := 842) (by decide +kernel)) rfl, qJ3_checkIndex_8e157⟩
theorem lJ0_1062 : MLs "java/lang/String" 1062 mJ3_checkFromToIndex_8c36e 4 := ⟨TW_of (List.mem_of_getElem? (i := 908) (by decide +kernel)) rfl, TW_of (List.mem_of_getElem? (i := 909) (by decide +kernel)) rfl, qJ3_checkFromToIndex_8c36e⟩
theorem lJ1_9 : MLs "java/lang/StringLatin1" 9 mJ0_checkIndex_df160 2 := ⟨TW_of (List.mem_of_getElem? (i := 836) (by decide +kernel)) rfl, TW_of (List.mem_of_getElem? (i := 837) (by decide +kernel)) rfl, qJ0_checkIndex_df160⟩
theorem lJ1_38 : MLs "java/lang/StringLatin1" 38 mJ9_min_7cf53 2 := ⟨TW_of (List.mem_of_getElem? (i := 887) (by decide +kernel)) rfl, TW_of (List.mem_of_getElem? (i := 888) (by decide +kernel)) rfl, qJ9_min_7cf53⟩
theorem lJ1_88 : MLs "java/lang/StringLatin1" 88 mJ1_canEncode_9a6ad 1 := ⟨TW_of (List.mem_of_getElem? (i := 883) (by decide +kernel)) rfl, TW_of (List.mem_of_getElem? (i := 884) (by decide +kernel)) rfl, qJ1_canEncode_9a6ad⟩
theorem lJ1_92 : MLs "java/lang/StringLatin1" 92 mJ9_max_7cf53 2 := ⟨TW_of (List.mem_of_getElem? (i := 886) (by decide +kernel)) rfl, TW_of (List.mem_of_getElem? (i := 617) (by decide +kernel)) rfl, qJ9_max_7cf53⟩
theorem lJ1_95 : MLs "java/lang/StringLatin1" 95 mJ1_indexOfChar_4cfef 4 := ⟨TW_of (List.mem_of_getElem? (i := 890) (by decide +kernel)) rfl, TW_of (List.mem_of_getElem? (i := 891) (by decide +kernel)) rfl, qJ1_indexOfChar_4cfef⟩
theorem lJ2_48 : MLs "java/lang/StringUTF16" 48 mJ2_length_9d52b 1 := ⟨TW_of (List.mem_of_getElem? (i := 850) (by decide +kernel)) rfl, TW_of (List.mem_of_getElem? (i := 851) (by decide +kernel)) rfl, qJ2_length_9d52b⟩
theorem lJ2_67 : MLs "java/lang/StringUTF16" 67 mJ2_checkIndex_2214a 2 := ⟨TW_of (List.mem_of_getElem? (i := 847) (by decide +kernel)) rfl, TW_of (List.mem_of_getElem? (i := 848) (by decide +kernel)) rfl, qJ2_checkIndex_2214a⟩
theorem lJ2_71 : MLs "java/lang/StringUTF16" 71 mJ2_getChar_3b067 2 := ⟨TW_of (List.mem_of_getElem? (i := 854) (by decide +kernel)) rfl, TW_of (List.mem_of_getElem? (i := 855) (by decide +kernel)) rfl, qJ2_getChar_3b067⟩
theorem lJ2_96 : MLs "java/lang/StringUTF16" 96 mJ2_checkBoundsBeginEnd_d044e 3 := ⟨TW_of (List.mem_of_getElem? (i := 902) (by decide +kernel)) rfl, TW_of (List.mem_of_getElem? (i := 903) (by decide +kernel)) rfl, qJ2_checkBoundsBeginEnd_d044e⟩
theorem lJ2_157 : MLs "java/lang/StringUTF16" 157 mJ11_highSurrogate_5068e 1 := ⟨TW_of (List.mem_of_getElem? (i := 920) (by decide +kernel)) rfl, TW_of (List.mem_of_getElem? (i := 921) (by decide +kernel)) rfl, qJ11_highSurrogate_5068e⟩
theorem lJ2_161 : MLs "java/lang/StringUTF16" 161 mJ11_lowSurrogate_5068e 1 := ⟨TW_of (List.mem_of_getElem? (i := 924) (by decide +kernel)) rfl, TW_of (List.mem_of_getElem? (i := 925) (by decide +kernel)) rfl, qJ11_lowSurrogate_5068e⟩
theorem lJ2_164 : MLs "java/lang/StringUTF16" 164 mJ11_isValidCodePoint_9a6ad 1 := ⟨TW_of (List.mem_of_getElem? (i := 917) (by decide +kernel)) rfl, TW_of (List.mem_of_getElem? (i := 918) (by decide +kernel)) rfl, qJ11_isValidCodePoint_9a6ad⟩
theorem lJ2_183 : MLs "java/lang/StringUTF16" 183 mJ9_min_7cf53 2 := ⟨TW_of (List.mem_of_getElem? (i := 897) (by decide +kernel)) rfl, TW_of (List.mem_of_getElem? (i := 888) (by decide +kernel)) rfl, qJ9_min_7cf53⟩
theorem lJ2_224 : MLs "java/lang/StringUTF16" 224 mJ9_max_7cf53 2 := ⟨TW_of (List.mem_of_getElem? (i := 896) (by decide +kernel)) rfl, TW_of (List.mem_of_getElem? (i := 617) (by decide +kernel)) rfl, qJ9_max_7cf53⟩
theorem lJ2_228 : MLs "java/lang/StringUTF16" 228 mJ2_indexOfChar_4cfef 4 := ⟨TW_of (List.mem_of_getElem? (i := 899) (by decide +kernel)) rfl, TW_of (List.mem_of_getElem? (i := 900) (by decide +kernel)) rfl, qJ2_indexOfChar_4cfef⟩
theorem lJ2_232 : MLs "java/lang/StringUTF16" 232 mJ2_indexOfSupplementary_4cfef 4 := ⟨TW_of (List.mem_of_getElem? (i := 914) (by decide +kernel)) rfl, TW_of (List.mem_of_getElem? (i := 915) (by decide +kernel)) rfl, qJ2_indexOfSupplementary_4cfef⟩
theorem lJ2_241 : MLs "java/lang/StringUTF16" 241 mJ0_checkBoundsBeginEnd_23922 3 := ⟨TW_of (List.mem_of_getElem? (i := 905) (by decide +kernel)) rfl, TW_of (List.mem_of_getElem? (i := 906) (by decide +kernel)) rfl, qJ0_checkBoundsBeginEnd_23922⟩
theorem lJ2_244 : MLs "java/lang/StringUTF16" 244 mJ2_indexOfCharUnsafe_4cfef 4 := ⟨TW_of (List.mem_of_getElem? (i := 911) (by decide +kernel)) rfl, TW_of (List.mem_of_getElem? (i := 912) (by decide +kernel)) rfl, qJ2_indexOfCharUnsafe_4cfef⟩
theorem lJ2_414 : MLs "java/lang/StringUTF16" 414 mJ0_checkIndex_df160 2 := ⟨TW_of (List.mem_of_getElem? (i := 853) (by decide +kernel)) rfl, TW_of (List.mem_of_getElem? (i := 837) (by decide +kernel)) rfl, qJ0_checkIndex_df160⟩
