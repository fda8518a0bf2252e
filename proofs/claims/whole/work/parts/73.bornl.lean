/-! ===== the links of constructors ===== -/
theorem oiX0_init : MOI mX0_init 3 := ⟨(tb_of 182 (by decide +kernel) rfl), (tb_of 52 (by decide +kernel) rfl), (tb_of 183 (by decide +kernel) rfl), by decide, by decide, by decide +kernel, rfl, rfl⟩
theorem obX0 : OBJ RX0 3 := ⟨(tb_of 184 (by decide +kernel) rfl), (tb_of 65 (by decide +kernel) rfl), (tb_of 66 (by decide +kernel) rfl)⟩
theorem oiX1_init : MOI mX1_init 2 := ⟨(tb_of 225 (by decide +kernel) rfl), (tb_of 54 (by decide +kernel) rfl), (tb_of 226 (by decide +kernel) rfl), by decide, by decide, by decide +kernel, rfl, rfl⟩
theorem obX1 : OBJ RX1 3 := ⟨(tb_of 227 (by decide +kernel) rfl), (tb_of 65 (by decide +kernel) rfl), (tb_of 66 (by decide +kernel) rfl)⟩
theorem oiX2_init : MOI mX2_init 0 := ⟨(tb_of 70 (by decide +kernel) rfl), (tb_of 47 (by decide +kernel) rfl), (tb_of 71 (by decide +kernel) rfl), by decide, by decide, by decide +kernel, rfl, rfl⟩
theorem obX2 : OBJ RX2 3 := ⟨(tb_of 72 (by decide +kernel) rfl), (tb_of 65 (by decide +kernel) rfl), (tb_of 66 (by decide +kernel) rfl)⟩
theorem oiX3_init : MOI mX3_init 2 := ⟨(tb_of 148 (by decide +kernel) rfl), (tb_of 50 (by decide +kernel) rfl), (tb_of 149 (by decide +kernel) rfl), by decide, by decide, by decide +kernel, rfl, rfl⟩
theorem obX3 : OBJ RX3 3 := ⟨(tb_of 150 (by decide +kernel) rfl), (tb_of 65 (by decide +kernel) rfl), (tb_of 66 (by decide +kernel) rfl)⟩
theorem oiX4_init : MOI mX4_init 2 := ⟨(tb_of 161 (by decide +kernel) rfl), (tb_of 51 (by decide +kernel) rfl), (tb_of 162 (by decide +kernel) rfl), by decide, by decide, by decide +kernel, rfl, rfl⟩
theorem obX4 : OBJ RX4 3 := ⟨(tb_of 163 (by decide +kernel) rfl), (tb_of 65 (by decide +kernel) rfl), (tb_of 66 (by decide +kernel) rfl)⟩
theorem oiX5_init : MOI mX5_init 2 := ⟨(tb_of 252 (by decide +kernel) rfl), (tb_of 55 (by decide +kernel) rfl), (tb_of 253 (by decide +kernel) rfl), by decide, by decide, by decide +kernel, rfl, rfl⟩
theorem obX5 : OBJ RX5 3 := ⟨(tb_of 254 (by decide +kernel) rfl), (tb_of 65 (by decide +kernel) rfl), (tb_of 66 (by decide +kernel) rfl)⟩
theorem oiX6_init : MOI mX6_init 3 := ⟨(tb_of 270 (by decide +kernel) rfl), (tb_of 56 (by decide +kernel) rfl), (tb_of 271 (by decide +kernel) rfl), by decide, by decide, by decide +kernel, rfl, rfl⟩
theorem obX6 : OBJ RX6 3 := ⟨(tb_of 272 (by decide +kernel) rfl), (tb_of 65 (by decide +kernel) rfl), (tb_of 66 (by decide +kernel) rfl)⟩
theorem oiX7_init : MOI mX7_init 1 := ⟨(tb_of 76 (by decide +kernel) rfl), (tb_of 48 (by decide +kernel) rfl), (tb_of 77 (by decide +kernel) rfl), by decide, by decide, by decide +kernel, rfl, rfl⟩
theorem obX7 : OBJ RX7 1 := ⟨(tb_of 78 (by decide +kernel) rfl), (tb_of 65 (by decide +kernel) rfl), (tb_of 66 (by decide +kernel) rfl)⟩
theorem oiX8_init : MOI mX8_init 0 := ⟨(tb_of 188 (by decide +kernel) rfl), (tb_of 53 (by decide +kernel) rfl), (tb_of 189 (by decide +kernel) rfl), by decide, by decide, by decide +kernel, rfl, rfl⟩
theorem obX8 : OBJ RX8 3 := ⟨(tb_of 190 (by decide +kernel) rfl), (tb_of 65 (by decide +kernel) rfl), (tb_of 66 (by decide +kernel) rfl)⟩
theorem oiX9_init : MOI mX9_init 0 := ⟨(tb_of 115 (by decide +kernel) rfl), (tb_of 49 (by decide +kernel) rfl), (tb_of 116 (by decide +kernel) rfl), by decide, by decide, by decide +kernel, rfl, rfl⟩
theorem obX9 : OBJ RX9 3 := ⟨(tb_of 117 (by decide +kernel) rfl), (tb_of 65 (by decide +kernel) rfl), (tb_of 66 (by decide +kernel) rfl)⟩
theorem oiX10_init : MOI mX10_init 0 := ⟨(tb_of 62 (by decide +kernel) rfl), (tb_of 46 (by decide +kernel) rfl), (tb_of 63 (by decide +kernel) rfl), by decide, by decide, by decide +kernel, rfl, rfl⟩
theorem obX10 : OBJ RX10 3 := ⟨(tb_of 64 (by decide +kernel) rfl), (tb_of 65 (by decide +kernel) rfl), (tb_of 66 (by decide +kernel) rfl)⟩
theorem oiX11_init : MOI mX11_init 0 := ⟨(tb_of 796 (by decide +kernel) rfl), (tb_of 57 (by decide +kernel) rfl), (tb_of 797 (by decide +kernel) rfl), by decide, by decide, by decide +kernel, rfl, rfl⟩
theorem obX11 : OBJ RX11 1 := ⟨(tb_of 798 (by decide +kernel) rfl), (tb_of 65 (by decide +kernel) rfl), (tb_of 66 (by decide +kernel) rfl)⟩
theorem nwX10_9 : NWC RX10 9 2 9 [true, true, true, true, true, true, false, false, false] := ⟨RX2, TX2, tyX2, rfl, uw_X2, tyX2_ok, (tb_of 67 (by decide +kernel) rfl), (tb_of 68 (by decide +kernel) rfl), (tb_of 47 (by decide +kernel) rfl), fun j hj => by rcases (show j = 0 ∨ j = 1 ∨ j = 2 ∨ j = 3 ∨ j = 4 ∨ j = 5 ∨ j = 6 ∨ j = 7 ∨ j = 8 by omega) with rfl | rfl | rfl | rfl | rfl | rfl | rfl | rfl | rfl <;> rfl⟩
theorem nwX10_16 : NWC RX10 16 9 8 [true, true, true, true, true, true, false, false] := ⟨RX9, TX9, tyX9, rfl, uw_X9, tyX9_ok, (tb_of 112 (by decide +kernel) rfl), (tb_of 113 (by decide +kernel) rfl), (tb_of 49 (by decide +kernel) rfl), fun j hj => by rcases (show j = 0 ∨ j = 1 ∨ j = 2 ∨ j = 3 ∨ j = 4 ∨ j = 5 ∨ j = 6 ∨ j = 7 by omega) with rfl | rfl | rfl | rfl | rfl | rfl | rfl | rfl <;> rfl⟩
theorem nwX10_23 : NWC RX10 23 3 2 [true, true] := ⟨RX3, TX3, tyX3, rfl, uw_X3, tyX3_ok, (tb_of 145 (by decide +kernel) rfl), (tb_of 146 (by decide +kernel) rfl), (tb_of 50 (by decide +kernel) rfl), fun j hj => by rcases (show j = 0 ∨ j = 1 by omega) with rfl | rfl <;> rfl⟩
theorem nwX10_32 : NWC RX10 32 4 4 [true, true, true, true] := ⟨RX4, TX4, tyX4, rfl, uw_X4, tyX4_ok, (tb_of 158 (by decide +kernel) rfl), (tb_of 159 (by decide +kernel) rfl), (tb_of 51 (by decide +kernel) rfl), fun j hj => by rcases (show j = 0 ∨ j = 1 ∨ j = 2 ∨ j = 3 by omega) with rfl | rfl | rfl | rfl <;> rfl⟩
theorem nwX10_39 : NWC RX10 39 0 7 [true, true, true, true, true, false, false] := ⟨RX0, TX0, tyX0, rfl, uw_X0, tyX0_ok, (tb_of 179 (by decide +kernel) rfl), (tb_of 180 (by decide +kernel) rfl), (tb_of 52 (by decide +kernel) rfl), fun j hj => by rcases (show j = 0 ∨ j = 1 ∨ j = 2 ∨ j = 3 ∨ j = 4 ∨ j = 5 ∨ j = 6 by omega) with rfl | rfl | rfl | rfl | rfl | rfl | rfl <;> rfl⟩
theorem nwX10_48 : NWC RX10 48 1 6 [true, true, true, true, false, false] := ⟨RX1, TX1, tyX1, rfl, uw_X1, tyX1_ok, (tb_of 222 (by decide +kernel) rfl), (tb_of 223 (by decide +kernel) rfl), (tb_of 54 (by decide +kernel) rfl), fun j hj => by rcases (show j = 0 ∨ j = 1 ∨ j = 2 ∨ j = 3 ∨ j = 4 ∨ j = 5 by omega) with rfl | rfl | rfl | rfl | rfl | rfl <;> rfl⟩
theorem nwX10_57 : NWC RX10 57 5 3 [true, true, true] := ⟨RX5, TX5, tyX5, rfl, uw_X5, tyX5_ok, (tb_of 249 (by decide +kernel) rfl), (tb_of 250 (by decide +kernel) rfl), (tb_of 55 (by decide +kernel) rfl), fun j hj => by rcases (show j = 0 ∨ j = 1 ∨ j = 2 by omega) with rfl | rfl | rfl <;> rfl⟩
theorem nwX10_64 : NWC RX10 64 6 11 [true, true, true, true, true, true, true, true, true, false, false] := ⟨RX6, TX6, tyX6, rfl, uw_X6, tyX6_ok, (tb_of 267 (by decide +kernel) rfl), (tb_of 268 (by decide +kernel) rfl), (tb_of 56 (by decide +kernel) rfl), fun j hj => by rcases (show j = 0 ∨ j = 1 ∨ j = 2 ∨ j = 3 ∨ j = 4 ∨ j = 5 ∨ j = 6 ∨ j = 7 ∨ j = 8 ∨ j = 9 ∨ j = 10 by omega) with rfl | rfl | rfl | rfl | rfl | rfl | rfl | rfl | rfl | rfl | rfl <;> rfl⟩
theorem nwX10_71 : NWC RX10 71 8 2 [true, false] := ⟨RX8, TX8, tyX8, rfl, uw_X8, tyX8_ok, (tb_of 311 (by decide +kernel) rfl), (tb_of 186 (by decide +kernel) rfl), (tb_of 53 (by decide +kernel) rfl), fun j hj => by rcases (show j = 0 ∨ j = 1 by omega) with rfl | rfl <;> rfl⟩
theorem nwX0_9 : NWC RX0 9 8 2 [true, false] := ⟨RX8, TX8, tyX8, rfl, uw_X8, tyX8_ok, (tb_of 185 (by decide +kernel) rfl), (tb_of 186 (by decide +kernel) rfl), (tb_of 53 (by decide +kernel) rfl), fun j hj => by rcases (show j = 0 ∨ j = 1 by omega) with rfl | rfl <;> rfl⟩
theorem nwX1_9 : NWC RX1 9 8 2 [true, false] := ⟨RX8, TX8, tyX8, rfl, uw_X8, tyX8_ok, (tb_of 228 (by decide +kernel) rfl), (tb_of 186 (by decide +kernel) rfl), (tb_of 53 (by decide +kernel) rfl), fun j hj => by rcases (show j = 0 ∨ j = 1 by omega) with rfl | rfl <;> rfl⟩
theorem nwX2_9 : NWC RX2 9 7 1 [true] := ⟨RX7, TX7, tyX7, rfl, uw_X7, tyX7_ok, (tb_of 73 (by decide +kernel) rfl), (tb_of 74 (by decide +kernel) rfl), (tb_of 48 (by decide +kernel) rfl), fun j hj => by rcases (show j = 0 by omega) with rfl <;> rfl⟩
theorem nwX4_9 : NWC RX4 9 7 1 [true] := ⟨RX7, TX7, tyX7, rfl, uw_X7, tyX7_ok, (tb_of 164 (by decide +kernel) rfl), (tb_of 74 (by decide +kernel) rfl), (tb_of 48 (by decide +kernel) rfl), fun j hj => by rcases (show j = 0 by omega) with rfl <;> rfl⟩
theorem nwX5_9 : NWC RX5 9 8 2 [true, false] := ⟨RX8, TX8, tyX8, rfl, uw_X8, tyX8_ok, (tb_of 255 (by decide +kernel) rfl), (tb_of 186 (by decide +kernel) rfl), (tb_of 53 (by decide +kernel) rfl), fun j hj => by rcases (show j = 0 ∨ j = 1 by omega) with rfl | rfl <;> rfl⟩
theorem nwX6_9 : NWC RX6 9 8 2 [true, false] := ⟨RX8, TX8, tyX8, rfl, uw_X8, tyX8_ok, (tb_of 273 (by decide +kernel) rfl), (tb_of 186 (by decide +kernel) rfl), (tb_of 53 (by decide +kernel) rfl), fun j hj => by rcases (show j = 0 ∨ j = 1 by omega) with rfl | rfl <;> rfl⟩
theorem nwX6_24 : NWC RX6 24 7 1 [true] := ⟨RX7, TX7, tyX7, rfl, uw_X7, tyX7_ok, (tb_of 275 (by decide +kernel) rfl), (tb_of 74 (by decide +kernel) rfl), (tb_of 48 (by decide +kernel) rfl), fun j hj => by rcases (show j = 0 by omega) with rfl <;> rfl⟩
theorem nwX8_9 : NWC RX8 9 7 1 [true] := ⟨RX7, TX7, tyX7, rfl, uw_X7, tyX7_ok, (tb_of 191 (by decide +kernel) rfl), (tb_of 74 (by decide +kernel) rfl), (tb_of 48 (by decide +kernel) rfl), fun j hj => by rcases (show j = 0 by omega) with rfl <;> rfl⟩
theorem nwX9_9 : NWC RX9 9 7 1 [true] := ⟨RX7, TX7, tyX7, rfl, uw_X7, tyX7_ok, (tb_of 118 (by decide +kernel) rfl), (tb_of 74 (by decide +kernel) rfl), (tb_of 48 (by decide +kernel) rfl), fun j hj => by rcases (show j = 0 by omega) with rfl <;> rfl⟩
theorem nwL_7 : NWC "ShopsOnFloorLaw" 7 10 10 [true, true, true, true, true, true, true, true, true, true] := ⟨RX10, TX10, tyX10, rfl, uw_X10, tyX10_ok, (tb_of 59 (by decide +kernel) rfl), (tb_of 60 (by decide +kernel) rfl), (tb_of 46 (by decide +kernel) rfl), fun j hj => by rcases (show j = 0 ∨ j = 1 ∨ j = 2 ∨ j = 3 ∨ j = 4 ∨ j = 5 ∨ j = 6 ∨ j = 7 ∨ j = 8 ∨ j = 9 by omega) with rfl | rfl | rfl | rfl | rfl | rfl | rfl | rfl | rfl | rfl <;> rfl⟩
theorem nwL_10 : NWC "ShopsOnFloorLaw" 10 11 30 [true, true, false, true, false, false, true, true, true, false, true, true, true, true, true, true, true, true, true, false, false, true, true, false, false, true, false, true, true, true] := ⟨RX11, TX11, tyX11, rfl, uw_X11, tyX11_ok, (tb_of 793 (by decide +kernel) rfl), (tb_of 794 (by decide +kernel) rfl), (tb_of 57 (by decide +kernel) rfl), fun j hj => by rcases (show j = 0 ∨ j = 1 ∨ j = 2 ∨ j = 3 ∨ j = 4 ∨ j = 5 ∨ j = 6 ∨ j = 7 ∨ j = 8 ∨ j = 9 ∨ j = 10 ∨ j = 11 ∨ j = 12 ∨ j = 13 ∨ j = 14 ∨ j = 15 ∨ j = 16 ∨ j = 17 ∨ j = 18 ∨ j = 19 ∨ j = 20 ∨ j = 21 ∨ j = 22 ∨ j = 23 ∨ j = 24 ∨ j = 25 ∨ j = 26 ∨ j = 27 ∨ j = 28 ∨ j = 29 by omega) with rfl | rfl | rfl | rfl | rfl | rfl | rfl | rfl | rfl | rfl | rfl | rfl | rfl | rfl | rfl | rfl | rfl | rfl | rfl | rfl | rfl | rfl | rfl | rfl | rfl | rfl | rfl | rfl | rfl | rfl <;> rfl⟩
theorem frX10_12 : FPR RX10 12 10 0 := ⟨RX10, TX10, 10, tyX10, rfl, by decide, rfl, rfl, (tb_of 313 (by decide +kernel) rfl), uw_X10, tyX10_ok, nmX10, rfl, fun _ => rfl, fun _ => rfl⟩
theorem frX10_19 : FPR RX10 19 10 1 := ⟨RX10, TX10, 10, tyX10, rfl, by decide, rfl, rfl, (tb_of 314 (by decide +kernel) rfl), uw_X10, tyX10_ok, nmX10, rfl, fun _ => rfl, fun _ => rfl⟩
theorem frX10_28 : FPR RX10 28 10 2 := ⟨RX10, TX10, 10, tyX10, rfl, by decide, rfl, rfl, (tb_of 315 (by decide +kernel) rfl), uw_X10, tyX10_ok, nmX10, rfl, fun _ => rfl, fun _ => rfl⟩
theorem frX10_35 : FPR RX10 35 10 3 := ⟨RX10, TX10, 10, tyX10, rfl, by decide, rfl, rfl, (tb_of 316 (by decide +kernel) rfl), uw_X10, tyX10_ok, nmX10, rfl, fun _ => rfl, fun _ => rfl⟩
theorem frX10_44 : FPR RX10 44 10 4 := ⟨RX10, TX10, 10, tyX10, rfl, by decide, rfl, rfl, (tb_of 317 (by decide +kernel) rfl), uw_X10, tyX10_ok, nmX10, rfl, fun _ => rfl, fun _ => rfl⟩
theorem frX10_53 : FPR RX10 53 10 5 := ⟨RX10, TX10, 10, tyX10, rfl, by decide, rfl, rfl, (tb_of 318 (by decide +kernel) rfl), uw_X10, tyX10_ok, nmX10, rfl, fun _ => rfl, fun _ => rfl⟩
theorem frX10_60 : FPR RX10 60 10 6 := ⟨RX10, TX10, 10, tyX10, rfl, by decide, rfl, rfl, (tb_of 319 (by decide +kernel) rfl), uw_X10, tyX10_ok, nmX10, rfl, fun _ => rfl, fun _ => rfl⟩
theorem frX10_67 : FPR RX10 67 10 7 := ⟨RX10, TX10, 10, tyX10, rfl, by decide, rfl, rfl, (tb_of 320 (by decide +kernel) rfl), uw_X10, tyX10_ok, nmX10, rfl, fun _ => rfl, fun _ => rfl⟩
theorem frX10_74 : FPR RX10 74 10 8 := ⟨RX10, TX10, 10, tyX10, rfl, by decide, rfl, rfl, (tb_of 321 (by decide +kernel) rfl), uw_X10, tyX10_ok, nmX10, rfl, fun _ => rfl, fun _ => rfl⟩
theorem frX10_78 : FPR RX10 78 10 9 := ⟨RX10, TX10, 10, tyX10, rfl, by decide, rfl, rfl, (tb_of 322 (by decide +kernel) rfl), uw_X10, tyX10_ok, nmX10, rfl, fun _ => rfl, fun _ => rfl⟩
theorem frX0_12 : FPR RX0 12 0 3 := ⟨RX0, TX0, 7, tyX0, rfl, by decide, rfl, rfl, (tb_of 203 (by decide +kernel) rfl), uw_X0, tyX0_ok, nmX0, rfl, fun _ => rfl, fun _ => rfl⟩
theorem frX0_18 : FPR RX0 18 0 4 := ⟨RX0, TX0, 7, tyX0, rfl, by decide, rfl, rfl, (tb_of 204 (by decide +kernel) rfl), uw_X0, tyX0_ok, nmX0, rfl, fun _ => rfl, fun _ => rfl⟩
theorem frX0_28 : FPR RX0 28 0 0 := ⟨RX0, TX0, 7, tyX0, rfl, by decide, rfl, rfl, (tb_of 200 (by decide +kernel) rfl), uw_X0, tyX0_ok, nmX0, rfl, fun _ => rfl, fun _ => rfl⟩
theorem frX0_32 : FPR RX0 32 0 1 := ⟨RX0, TX0, 7, tyX0, rfl, by decide, rfl, rfl, (tb_of 201 (by decide +kernel) rfl), uw_X0, tyX0_ok, nmX0, rfl, fun _ => rfl, fun _ => rfl⟩
theorem frX0_36 : FPR RX0 36 0 2 := ⟨RX0, TX0, 7, tyX0, rfl, by decide, rfl, rfl, (tb_of 202 (by decide +kernel) rfl), uw_X0, tyX0_ok, nmX0, rfl, fun _ => rfl, fun _ => rfl⟩
theorem frX1_12 : FPR RX1 12 1 2 := ⟨RX1, TX1, 6, tyX1, rfl, by decide, rfl, rfl, (tb_of 232 (by decide +kernel) rfl), uw_X1, tyX1_ok, nmX1, rfl, fun _ => rfl, fun _ => rfl⟩
theorem frX1_18 : FPR RX1 18 1 3 := ⟨RX1, TX1, 6, tyX1, rfl, by decide, rfl, rfl, (tb_of 233 (by decide +kernel) rfl), uw_X1, tyX1_ok, nmX1, rfl, fun _ => rfl, fun _ => rfl⟩
theorem frX1_29 : FPR RX1 29 1 0 := ⟨RX1, TX1, 6, tyX1, rfl, by decide, rfl, rfl, (tb_of 230 (by decide +kernel) rfl), uw_X1, tyX1_ok, nmX1, rfl, fun _ => rfl, fun _ => rfl⟩
theorem frX1_33 : FPR RX1 33 1 1 := ⟨RX1, TX1, 6, tyX1, rfl, by decide, rfl, rfl, (tb_of 231 (by decide +kernel) rfl), uw_X1, tyX1_ok, nmX1, rfl, fun _ => rfl, fun _ => rfl⟩
theorem frX2_14 : FPR RX2 14 2 0 := ⟨RX2, TX2, 9, tyX2, rfl, by decide, rfl, rfl, (tb_of 84 (by decide +kernel) rfl), uw_X2, tyX2_ok, nmX2, rfl, fun _ => rfl, fun _ => rfl⟩
theorem frX2_20 : FPR RX2 20 2 1 := ⟨RX2, TX2, 9, tyX2, rfl, by decide, rfl, rfl, (tb_of 85 (by decide +kernel) rfl), uw_X2, tyX2_ok, nmX2, rfl, fun _ => rfl, fun _ => rfl⟩
theorem frX2_23 : FPR RX2 23 2 2 := ⟨RX2, TX2, 9, tyX2, rfl, by decide, rfl, rfl, (tb_of 86 (by decide +kernel) rfl), uw_X2, tyX2_ok, nmX2, rfl, fun _ => rfl, fun _ => rfl⟩
theorem frX2_26 : FPR RX2 26 2 3 := ⟨RX2, TX2, 9, tyX2, rfl, by decide, rfl, rfl, (tb_of 87 (by decide +kernel) rfl), uw_X2, tyX2_ok, nmX2, rfl, fun _ => rfl, fun _ => rfl⟩
theorem frX2_29 : FPR RX2 29 2 4 := ⟨RX2, TX2, 9, tyX2, rfl, by decide, rfl, rfl, (tb_of 88 (by decide +kernel) rfl), uw_X2, tyX2_ok, nmX2, rfl, fun _ => rfl, fun _ => rfl⟩
theorem frX2_32 : FPR RX2 32 2 5 := ⟨RX2, TX2, 9, tyX2, rfl, by decide, rfl, rfl, (tb_of 89 (by decide +kernel) rfl), uw_X2, tyX2_ok, nmX2, rfl, fun _ => rfl, fun _ => rfl⟩
theorem frX3_9 : FPR RX3 9 3 0 := ⟨RX3, TX3, 2, tyX3, rfl, by decide, rfl, rfl, (tb_of 151 (by decide +kernel) rfl), uw_X3, tyX3_ok, nmX3, rfl, fun _ => rfl, fun _ => rfl⟩
theorem frX3_15 : FPR RX3 15 3 1 := ⟨RX3, TX3, 2, tyX3, rfl, by decide, rfl, rfl, (tb_of 152 (by decide +kernel) rfl), uw_X3, tyX3_ok, nmX3, rfl, fun _ => rfl, fun _ => rfl⟩
theorem frX4_14 : FPR RX4 14 4 2 := ⟨RX4, TX4, 4, tyX4, rfl, by decide, rfl, rfl, (tb_of 168 (by decide +kernel) rfl), uw_X4, tyX4_ok, nmX4, rfl, fun _ => rfl, fun _ => rfl⟩
theorem frX4_20 : FPR RX4 20 4 3 := ⟨RX4, TX4, 4, tyX4, rfl, by decide, rfl, rfl, (tb_of 169 (by decide +kernel) rfl), uw_X4, tyX4_ok, nmX4, rfl, fun _ => rfl, fun _ => rfl⟩
theorem frX4_23 : FPR RX4 23 4 0 := ⟨RX4, TX4, 4, tyX4, rfl, by decide, rfl, rfl, (tb_of 166 (by decide +kernel) rfl), uw_X4, tyX4_ok, nmX4, rfl, fun _ => rfl, fun _ => rfl⟩
theorem frX4_27 : FPR RX4 27 4 1 := ⟨RX4, TX4, 4, tyX4, rfl, by decide, rfl, rfl, (tb_of 167 (by decide +kernel) rfl), uw_X4, tyX4_ok, nmX4, rfl, fun _ => rfl, fun _ => rfl⟩
theorem frX5_12 : FPR RX5 12 5 2 := ⟨RX5, TX5, 3, tyX5, rfl, by decide, rfl, rfl, (tb_of 259 (by decide +kernel) rfl), uw_X5, tyX5_ok, nmX5, rfl, fun _ => rfl, fun _ => rfl⟩
theorem frX5_18 : FPR RX5 18 5 0 := ⟨RX5, TX5, 3, tyX5, rfl, by decide, rfl, rfl, (tb_of 257 (by decide +kernel) rfl), uw_X5, tyX5_ok, nmX5, rfl, fun _ => rfl, fun _ => rfl⟩
theorem frX5_22 : FPR RX5 22 5 1 := ⟨RX5, TX5, 3, tyX5, rfl, by decide, rfl, rfl, (tb_of 258 (by decide +kernel) rfl), uw_X5, tyX5_ok, nmX5, rfl, fun _ => rfl, fun _ => rfl⟩
theorem frX6_12 : FPR RX6 12 6 3 := ⟨RX6, TX6, 11, tyX6, rfl, by decide, rfl, rfl, (tb_of 280 (by decide +kernel) rfl), uw_X6, tyX6_ok, nmX6, rfl, fun _ => rfl, fun _ => rfl⟩
theorem frX6_18 : FPR RX6 18 6 4 := ⟨RX6, TX6, 11, tyX6, rfl, by decide, rfl, rfl, (tb_of 281 (by decide +kernel) rfl), uw_X6, tyX6_ok, nmX6, rfl, fun _ => rfl, fun _ => rfl⟩
theorem frX6_21 : FPR RX6 21 6 5 := ⟨RX6, TX6, 11, tyX6, rfl, by decide, rfl, rfl, (tb_of 282 (by decide +kernel) rfl), uw_X6, tyX6_ok, nmX6, rfl, fun _ => rfl, fun _ => rfl⟩
theorem frX6_29 : FPR RX6 29 6 6 := ⟨RX6, TX6, 11, tyX6, rfl, by decide, rfl, rfl, (tb_of 283 (by decide +kernel) rfl), uw_X6, tyX6_ok, nmX6, rfl, fun _ => rfl, fun _ => rfl⟩
theorem frX6_33 : FPR RX6 33 6 7 := ⟨RX6, TX6, 11, tyX6, rfl, by decide, rfl, rfl, (tb_of 284 (by decide +kernel) rfl), uw_X6, tyX6_ok, nmX6, rfl, fun _ => rfl, fun _ => rfl⟩
theorem frX6_36 : FPR RX6 36 6 8 := ⟨RX6, TX6, 11, tyX6, rfl, by decide, rfl, rfl, (tb_of 285 (by decide +kernel) rfl), uw_X6, tyX6_ok, nmX6, rfl, fun _ => rfl, fun _ => rfl⟩
theorem frX6_46 : FPR RX6 46 6 0 := ⟨RX6, TX6, 11, tyX6, rfl, by decide, rfl, rfl, (tb_of 277 (by decide +kernel) rfl), uw_X6, tyX6_ok, nmX6, rfl, fun _ => rfl, fun _ => rfl⟩
theorem frX6_50 : FPR RX6 50 6 1 := ⟨RX6, TX6, 11, tyX6, rfl, by decide, rfl, rfl, (tb_of 278 (by decide +kernel) rfl), uw_X6, tyX6_ok, nmX6, rfl, fun _ => rfl, fun _ => rfl⟩
theorem frX6_54 : FPR RX6 54 6 2 := ⟨RX6, TX6, 11, tyX6, rfl, by decide, rfl, rfl, (tb_of 279 (by decide +kernel) rfl), uw_X6, tyX6_ok, nmX6, rfl, fun _ => rfl, fun _ => rfl⟩
theorem frX7_7 : FPR RX7 7 7 0 := ⟨RX7, TX7, 1, tyX7, rfl, by decide, rfl, rfl, (tb_of 79 (by decide +kernel) rfl), uw_X7, tyX7_ok, nmX7, rfl, fun _ => rfl, fun _ => rfl⟩
theorem frX8_14 : FPR RX8 14 8 0 := ⟨RX8, TX8, 2, tyX8, rfl, by decide, rfl, rfl, (tb_of 193 (by decide +kernel) rfl), uw_X8, tyX8_ok, nmX8, rfl, fun _ => rfl, fun _ => rfl⟩
theorem frX9_14 : FPR RX9 14 9 0 := ⟨RX9, TX9, 8, tyX9, rfl, by decide, rfl, rfl, (tb_of 120 (by decide +kernel) rfl), uw_X9, tyX9_ok, nmX9, rfl, fun _ => rfl, fun _ => rfl⟩
theorem frX9_20 : FPR RX9 20 9 1 := ⟨RX9, TX9, 8, tyX9, rfl, by decide, rfl, rfl, (tb_of 121 (by decide +kernel) rfl), uw_X9, tyX9_ok, nmX9, rfl, fun _ => rfl, fun _ => rfl⟩
theorem frX9_23 : FPR RX9 23 9 2 := ⟨RX9, TX9, 8, tyX9, rfl, by decide, rfl, rfl, (tb_of 122 (by decide +kernel) rfl), uw_X9, tyX9_ok, nmX9, rfl, fun _ => rfl, fun _ => rfl⟩
theorem frX9_26 : FPR RX9 26 9 3 := ⟨RX9, TX9, 8, tyX9, rfl, by decide, rfl, rfl, (tb_of 123 (by decide +kernel) rfl), uw_X9, tyX9_ok, nmX9, rfl, fun _ => rfl, fun _ => rfl⟩
theorem frX9_29 : FPR RX9 29 9 4 := ⟨RX9, TX9, 8, tyX9, rfl, by decide, rfl, rfl, (tb_of 124 (by decide +kernel) rfl), uw_X9, tyX9_ok, nmX9, rfl, fun _ => rfl, fun _ => rfl⟩
theorem frX9_32 : FPR RX9 32 9 5 := ⟨RX9, TX9, 8, tyX9, rfl, by decide, rfl, rfl, (tb_of 125 (by decide +kernel) rfl), uw_X9, tyX9_ok, nmX9, rfl, fun _ => rfl, fun _ => rfl⟩
theorem frX11_7 : FPR RX11 7 11 0 := ⟨RX11, TX11, 30, tyX11, rfl, by decide, rfl, rfl, (tb_of 799 (by decide +kernel) rfl), uw_X11, tyX11_ok, nmX11, rfl, fun _ => rfl, fun _ => rfl⟩
theorem frX11_13 : FPR RX11 13 11 1 := ⟨RX11, TX11, 30, tyX11, rfl, by decide, rfl, rfl, (tb_of 800 (by decide +kernel) rfl), uw_X11, tyX11_ok, nmX11, rfl, fun _ => rfl, fun _ => rfl⟩
theorem frX11_17 : FPR RX11 17 11 3 := ⟨RX11, TX11, 30, tyX11, rfl, by decide, rfl, rfl, (tb_of 802 (by decide +kernel) rfl), uw_X11, tyX11_ok, nmX11, rfl, fun _ => rfl, fun _ => rfl⟩
theorem frX11_24 : FPR RX11 24 11 6 := ⟨RX11, TX11, 30, tyX11, rfl, by decide, rfl, rfl, (tb_of 805 (by decide +kernel) rfl), uw_X11, tyX11_ok, nmX11, rfl, fun _ => rfl, fun _ => rfl⟩
theorem frX11_27 : FPR RX11 27 11 7 := ⟨RX11, TX11, 30, tyX11, rfl, by decide, rfl, rfl, (tb_of 806 (by decide +kernel) rfl), uw_X11, tyX11_ok, nmX11, rfl, fun _ => rfl, fun _ => rfl⟩
theorem frX11_30 : FPR RX11 30 11 8 := ⟨RX11, TX11, 30, tyX11, rfl, by decide, rfl, rfl, (tb_of 807 (by decide +kernel) rfl), uw_X11, tyX11_ok, nmX11, rfl, fun _ => rfl, fun _ => rfl⟩
theorem frX11_33 : FPR RX11 33 11 10 := ⟨RX11, TX11, 30, tyX11, rfl, by decide, rfl, rfl, (tb_of 809 (by decide +kernel) rfl), uw_X11, tyX11_ok, nmX11, rfl, fun _ => rfl, fun _ => rfl⟩
theorem frX11_36 : FPR RX11 36 11 11 := ⟨RX11, TX11, 30, tyX11, rfl, by decide, rfl, rfl, (tb_of 810 (by decide +kernel) rfl), uw_X11, tyX11_ok, nmX11, rfl, fun _ => rfl, fun _ => rfl⟩
theorem frX11_39 : FPR RX11 39 11 12 := ⟨RX11, TX11, 30, tyX11, rfl, by decide, rfl, rfl, (tb_of 811 (by decide +kernel) rfl), uw_X11, tyX11_ok, nmX11, rfl, fun _ => rfl, fun _ => rfl⟩
theorem frX11_42 : FPR RX11 42 11 13 := ⟨RX11, TX11, 30, tyX11, rfl, by decide, rfl, rfl, (tb_of 812 (by decide +kernel) rfl), uw_X11, tyX11_ok, nmX11, rfl, fun _ => rfl, fun _ => rfl⟩
theorem frX11_45 : FPR RX11 45 11 14 := ⟨RX11, TX11, 30, tyX11, rfl, by decide, rfl, rfl, (tb_of 813 (by decide +kernel) rfl), uw_X11, tyX11_ok, nmX11, rfl, fun _ => rfl, fun _ => rfl⟩
theorem frX11_48 : FPR RX11 48 11 15 := ⟨RX11, TX11, 30, tyX11, rfl, by decide, rfl, rfl, (tb_of 814 (by decide +kernel) rfl), uw_X11, tyX11_ok, nmX11, rfl, fun _ => rfl, fun _ => rfl⟩
theorem frX11_51 : FPR RX11 51 11 16 := ⟨RX11, TX11, 30, tyX11, rfl, by decide, rfl, rfl, (tb_of 815 (by decide +kernel) rfl), uw_X11, tyX11_ok, nmX11, rfl, fun _ => rfl, fun _ => rfl⟩
theorem frX11_54 : FPR RX11 54 11 17 := ⟨RX11, TX11, 30, tyX11, rfl, by decide, rfl, rfl, (tb_of 816 (by decide +kernel) rfl), uw_X11, tyX11_ok, nmX11, rfl, fun _ => rfl, fun _ => rfl⟩
theorem frX11_57 : FPR RX11 57 11 18 := ⟨RX11, TX11, 30, tyX11, rfl, by decide, rfl, rfl, (tb_of 817 (by decide +kernel) rfl), uw_X11, tyX11_ok, nmX11, rfl, fun _ => rfl, fun _ => rfl⟩
theorem frX11_60 : FPR RX11 60 11 21 := ⟨RX11, TX11, 30, tyX11, rfl, by decide, rfl, rfl, (tb_of 820 (by decide +kernel) rfl), uw_X11, tyX11_ok, nmX11, rfl, fun _ => rfl, fun _ => rfl⟩
theorem frX11_63 : FPR RX11 63 11 22 := ⟨RX11, TX11, 30, tyX11, rfl, by decide, rfl, rfl, (tb_of 821 (by decide +kernel) rfl), uw_X11, tyX11_ok, nmX11, rfl, fun _ => rfl, fun _ => rfl⟩
theorem frX11_66 : FPR RX11 66 11 25 := ⟨RX11, TX11, 30, tyX11, rfl, by decide, rfl, rfl, (tb_of 824 (by decide +kernel) rfl), uw_X11, tyX11_ok, nmX11, rfl, fun _ => rfl, fun _ => rfl⟩
theorem frX11_69 : FPR RX11 69 11 27 := ⟨RX11, TX11, 30, tyX11, rfl, by decide, rfl, rfl, (tb_of 826 (by decide +kernel) rfl), uw_X11, tyX11_ok, nmX11, rfl, fun _ => rfl, fun _ => rfl⟩
theorem frX11_72 : FPR RX11 72 11 28 := ⟨RX11, TX11, 30, tyX11, rfl, by decide, rfl, rfl, (tb_of 827 (by decide +kernel) rfl), uw_X11, tyX11_ok, nmX11, rfl, fun _ => rfl, fun _ => rfl⟩
theorem frX11_75 : FPR RX11 75 11 29 := ⟨RX11, TX11, 30, tyX11, rfl, by decide, rfl, rfl, (tb_of 828 (by decide +kernel) rfl), uw_X11, tyX11_ok, nmX11, rfl, fun _ => rfl, fun _ => rfl⟩
theorem miX10_25 : Cond.methodLink RX10 25 yX3_init ∈ TB := tb_of 147 (by decide +kernel) rfl
theorem miX10_34 : Cond.methodLink RX10 34 yX4_init ∈ TB := tb_of 160 (by decide +kernel) rfl
theorem miX10_41 : Cond.methodLink RX10 41 yX0_init ∈ TB := tb_of 181 (by decide +kernel) rfl
theorem miX10_50 : Cond.methodLink RX10 50 yX1_init ∈ TB := tb_of 224 (by decide +kernel) rfl
theorem miX10_59 : Cond.methodLink RX10 59 yX5_init ∈ TB := tb_of 251 (by decide +kernel) rfl
theorem miX10_66 : Cond.methodLink RX10 66 yX6_init ∈ TB := tb_of 269 (by decide +kernel) rfl
theorem miX2_11 : Cond.methodLink RX2 11 yX7_init ∈ TB := tb_of 75 (by decide +kernel) rfl
theorem miX4_11 : Cond.methodLink RX4 11 yX7_init ∈ TB := tb_of 165 (by decide +kernel) rfl
theorem miX6_26 : Cond.methodLink RX6 26 yX7_init ∈ TB := tb_of 276 (by decide +kernel) rfl
theorem miX8_11 : Cond.methodLink RX8 11 yX7_init ∈ TB := tb_of 192 (by decide +kernel) rfl
theorem miX9_11 : Cond.methodLink RX9 11 yX7_init ∈ TB := tb_of 119 (by decide +kernel) rfl
theorem miL_9 : Cond.methodLink "ShopsOnFloorLaw" 9 yX10_init ∈ TB := tb_of 61 (by decide +kernel) rfl
theorem miL_12 : Cond.methodLink "ShopsOnFloorLaw" 12 yX11_init ∈ TB := tb_of 795 (by decide +kernel) rfl
theorem ar_i : Cond.arrayClass .int ∈ TB := tb_of 83 (by decide +kernel) rfl
theorem ar_z : Cond.arrayClass .boolean ∈ TB := tb_of 890 (by decide +kernel) rfl
