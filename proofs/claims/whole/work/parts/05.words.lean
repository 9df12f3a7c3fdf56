theorem cf_X0 : CF 0 RX0 TX0 13 tyX0 := ⟨rfl, by decide +kernel, by decide +kernel, tyX0_ok, nmX0⟩
theorem cf_X1 : CF 1 RX1 TX1 2 tyX1 := ⟨rfl, by decide +kernel, by decide +kernel, tyX1_ok, nmX1⟩
theorem cf_X2 : CF 2 RX2 TX2 2 tyX2 := ⟨rfl, by decide +kernel, by decide +kernel, tyX2_ok, nmX2⟩
theorem cf_X3 : CF 3 RX3 TX3 4 tyX3 := ⟨rfl, by decide +kernel, by decide +kernel, tyX3_ok, nmX3⟩
theorem cf_X4 : CF 4 RX4 TX4 1 tyX4 := ⟨rfl, by decide +kernel, by decide +kernel, tyX4_ok, nmX4⟩
theorem cf_X5 : CF 5 RX5 TX5 7 tyX5 := ⟨rfl, by decide +kernel, by decide +kernel, tyX5_ok, nmX5⟩
theorem cf_X6 : CF 6 RX6 TX6 9 tyX6 := ⟨rfl, by decide +kernel, by decide +kernel, tyX6_ok, nmX6⟩
theorem cf_X7 : CF 7 RX7 TX7 6 tyX7 := ⟨rfl, by decide +kernel, by decide +kernel, tyX7_ok, nmX7⟩
theorem cf_X8 : CF 8 RX8 TX8 4 tyX8 := ⟨rfl, by decide +kernel, by decide +kernel, tyX8_ok, nmX8⟩
theorem cf_X9 : CF 9 RX9 TX9 3 tyX9 := ⟨rfl, by decide +kernel, by decide +kernel, tyX9_ok, nmX9⟩
theorem cf_X10 : CF 10 RX10 TX10 13 tyX10 := ⟨rfl, by decide +kernel, by decide +kernel, tyX10_ok, nmX10⟩
theorem cf_X11 : CF 11 RX11 TX11 59 tyX11 := ⟨rfl, by decide +kernel, by decide +kernel, tyX11_ok, nmX11⟩
theorem lk_L_88 : LK RL 88 yX10_init := Or.inl (List.mem_of_getElem? (i := 141) (by decide +kernel))
theorem lk_X10_9 : LK RX10 9 yX5_init := Or.inr ⟨"TearsPost", List.mem_of_getElem? (i := 149) (by decide +kernel)⟩
theorem lk_X5_11 : LK RX5 11 yX7_init := Or.inr ⟨"TearsPost", List.mem_of_getElem? (i := 155) (by decide +kernel)⟩
theorem fl_X7_9 : FL RX7 9 TX7 0 := Or.inl (List.mem_of_getElem? (i := 159) (by decide +kernel))
theorem fl_X7_15 : FL RX7 15 TX7 1 := Or.inl (List.mem_of_getElem? (i := 160) (by decide +kernel))
theorem fl_X10_91 : FL RX10 91 TX7 1 := Or.inr ⟨"TearsPost", List.mem_of_getElem? (i := 161) (by decide +kernel)⟩
theorem fl_X7_19 : FL RX7 19 TX7 2 := Or.inl (List.mem_of_getElem? (i := 162) (by decide +kernel))
theorem fl_X7_22 : FL RX7 22 TX7 3 := Or.inl (List.mem_of_getElem? (i := 163) (by decide +kernel))
theorem fl_X5_70 : FL RX5 70 TX7 3 := Or.inr ⟨"TearsPost", List.mem_of_getElem? (i := 164) (by decide +kernel)⟩
theorem fl_X7_25 : FL RX7 25 TX7 4 := Or.inl (List.mem_of_getElem? (i := 165) (by decide +kernel))
theorem fl_X5_62 : FL RX5 62 TX7 4 := Or.inr ⟨"TearsPost", List.mem_of_getElem? (i := 166) (by decide +kernel)⟩
theorem fl_X7_28 : FL RX7 28 TX7 5 := Or.inl (List.mem_of_getElem? (i := 167) (by decide +kernel))
theorem fl_X5_73 : FL RX5 73 TX7 5 := Or.inr ⟨"TearsPost", List.mem_of_getElem? (i := 168) (by decide +kernel)⟩
theorem lk_X5_20 : LK RX5 20 yX0_init := Or.inr ⟨"TearsPost", List.mem_of_getElem? (i := 185) (by decide +kernel)⟩
theorem lk_X0_36 : LK RX0 36 yX0_empty := Or.inl (List.mem_of_getElem? (i := 189) (by decide +kernel))
theorem lk_X0_55 : LK RX0 55 yJ7_fill_53178 := Or.inl (List.mem_of_getElem? (i := 193) (by decide +kernel))
theorem fl_X0_39 : FL RX0 39 TX0 0 := Or.inl (List.mem_of_getElem? (i := 196) (by decide +kernel))
theorem fl_X10_128 : FL RX10 128 TX0 0 := Or.inr ⟨"TearsPost", List.mem_of_getElem? (i := 197) (by decide +kernel)⟩
theorem fl_X5_102 : FL RX5 102 TX0 0 := Or.inr ⟨"TearsPost", List.mem_of_getElem? (i := 198) (by decide +kernel)⟩
theorem fl_X0_43 : FL RX0 43 TX0 1 := Or.inl (List.mem_of_getElem? (i := 199) (by decide +kernel))
theorem fl_X4_26 : FL RX4 26 TX0 1 := Or.inr ⟨"TearsPost", List.mem_of_getElem? (i := 200) (by decide +kernel)⟩
theorem fl_X10_131 : FL RX10 131 TX0 1 := Or.inr ⟨"TearsPost", List.mem_of_getElem? (i := 201) (by decide +kernel)⟩
theorem fl_X5_105 : FL RX5 105 TX0 1 := Or.inr ⟨"TearsPost", List.mem_of_getElem? (i := 202) (by decide +kernel)⟩
theorem fl_X0_46 : FL RX0 46 TX0 2 := Or.inl (List.mem_of_getElem? (i := 203) (by decide +kernel))
theorem fl_X10_134 : FL RX10 134 TX0 2 := Or.inr ⟨"TearsPost", List.mem_of_getElem? (i := 204) (by decide +kernel)⟩
theorem fl_X5_128 : FL RX5 128 TX0 2 := Or.inr ⟨"TearsPost", List.mem_of_getElem? (i := 205) (by decide +kernel)⟩
theorem fl_X0_49 : FL RX0 49 TX0 3 := Or.inl (List.mem_of_getElem? (i := 206) (by decide +kernel))
theorem fl_X10_137 : FL RX10 137 TX0 3 := Or.inr ⟨"TearsPost", List.mem_of_getElem? (i := 207) (by decide +kernel)⟩
theorem fl_X5_137 : FL RX5 137 TX0 3 := Or.inr ⟨"TearsPost", List.mem_of_getElem? (i := 208) (by decide +kernel)⟩
theorem fl_X0_52 : FL RX0 52 TX0 4 := Or.inl (List.mem_of_getElem? (i := 209) (by decide +kernel))
theorem fl_X5_134 : FL RX5 134 TX0 4 := Or.inr ⟨"TearsPost", List.mem_of_getElem? (i := 210) (by decide +kernel)⟩
theorem fl_X0_9 : FL RX0 9 TX0 5 := Or.inl (List.mem_of_getElem? (i := 211) (by decide +kernel))
theorem fl_X6_40 : FL RX6 40 TX0 5 := Or.inr ⟨"TearsPost", List.mem_of_getElem? (i := 212) (by decide +kernel)⟩
theorem fl_X5_111 : FL RX5 111 TX0 5 := Or.inr ⟨"TearsPost", List.mem_of_getElem? (i := 213) (by decide +kernel)⟩
theorem fl_X0_15 : FL RX0 15 TX0 6 := Or.inl (List.mem_of_getElem? (i := 214) (by decide +kernel))
theorem fl_X4_36 : FL RX4 36 TX0 6 := Or.inr ⟨"TearsPost", List.mem_of_getElem? (i := 215) (by decide +kernel)⟩
theorem fl_X10_169 : FL RX10 169 TX0 6 := Or.inr ⟨"TearsPost", List.mem_of_getElem? (i := 216) (by decide +kernel)⟩
theorem fl_X5_118 : FL RX5 118 TX0 6 := Or.inr ⟨"TearsPost", List.mem_of_getElem? (i := 217) (by decide +kernel)⟩
theorem fl_X0_18 : FL RX0 18 TX0 7 := Or.inl (List.mem_of_getElem? (i := 218) (by decide +kernel))
theorem fl_X10_172 : FL RX10 172 TX0 7 := Or.inr ⟨"TearsPost", List.mem_of_getElem? (i := 219) (by decide +kernel)⟩
theorem fl_X5_121 : FL RX5 121 TX0 7 := Or.inr ⟨"TearsPost", List.mem_of_getElem? (i := 220) (by decide +kernel)⟩
theorem fl_X0_21 : FL RX0 21 TX0 8 := Or.inl (List.mem_of_getElem? (i := 221) (by decide +kernel))
theorem fl_X0_24 : FL RX0 24 TX0 9 := Or.inl (List.mem_of_getElem? (i := 222) (by decide +kernel))
theorem fl_X5_131 : FL RX5 131 TX0 9 := Or.inr ⟨"TearsPost", List.mem_of_getElem? (i := 223) (by decide +kernel)⟩
theorem fl_X0_27 : FL RX0 27 TX0 10 := Or.inl (List.mem_of_getElem? (i := 224) (by decide +kernel))
theorem fl_X5_140 : FL RX5 140 TX0 10 := Or.inr ⟨"TearsPost", List.mem_of_getElem? (i := 225) (by decide +kernel)⟩
theorem fl_X0_30 : FL RX0 30 TX0 11 := Or.inl (List.mem_of_getElem? (i := 226) (by decide +kernel))
theorem fl_X0_33 : FL RX0 33 TX0 12 := Or.inl (List.mem_of_getElem? (i := 227) (by decide +kernel))
theorem fl_X5_12 : FL RX5 12 TX5 0 := Or.inl (List.mem_of_getElem? (i := 255) (by decide +kernel))
theorem fl_X10_87 : FL RX10 87 TX5 0 := Or.inr ⟨"TearsPost", List.mem_of_getElem? (i := 256) (by decide +kernel)⟩
theorem fl_X5_21 : FL RX5 21 TX5 1 := Or.inl (List.mem_of_getElem? (i := 257) (by decide +kernel))
theorem fl_X10_118 : FL RX10 118 TX5 1 := Or.inr ⟨"TearsPost", List.mem_of_getElem? (i := 258) (by decide +kernel)⟩
theorem fl_X5_25 : FL RX5 25 TX5 2 := Or.inl (List.mem_of_getElem? (i := 259) (by decide +kernel))
theorem fl_X5_29 : FL RX5 29 TX5 3 := Or.inl (List.mem_of_getElem? (i := 260) (by decide +kernel))
theorem fl_X5_32 : FL RX5 32 TX5 4 := Or.inl (List.mem_of_getElem? (i := 261) (by decide +kernel))
theorem fl_X5_35 : FL RX5 35 TX5 5 := Or.inl (List.mem_of_getElem? (i := 262) (by decide +kernel))
theorem fl_X5_38 : FL RX5 38 TX5 6 := Or.inl (List.mem_of_getElem? (i := 263) (by decide +kernel))
theorem lk_X10_18 : LK RX10 18 yX6_init := Or.inr ⟨"TearsPost", List.mem_of_getElem? (i := 281) (by decide +kernel)⟩
theorem fl_X6_9 : FL RX6 9 TX6 0 := Or.inl (List.mem_of_getElem? (i := 285) (by decide +kernel))
theorem fl_X3_34 : FL RX3 34 TX6 0 := Or.inr ⟨"TearsPost", List.mem_of_getElem? (i := 286) (by decide +kernel)⟩
theorem fl_X2_29 : FL RX2 29 TX6 0 := Or.inr ⟨"TearsPost", List.mem_of_getElem? (i := 287) (by decide +kernel)⟩
theorem fl_X10_140 : FL RX10 140 TX6 0 := Or.inr ⟨"TearsPost", List.mem_of_getElem? (i := 288) (by decide +kernel)⟩
theorem fl_X6_15 : FL RX6 15 TX6 1 := Or.inl (List.mem_of_getElem? (i := 289) (by decide +kernel))
theorem fl_X10_143 : FL RX10 143 TX6 1 := Or.inr ⟨"TearsPost", List.mem_of_getElem? (i := 290) (by decide +kernel)⟩
theorem fl_X6_18 : FL RX6 18 TX6 2 := Or.inl (List.mem_of_getElem? (i := 291) (by decide +kernel))
theorem fl_X3_25 : FL RX3 25 TX6 2 := Or.inr ⟨"TearsPost", List.mem_of_getElem? (i := 292) (by decide +kernel)⟩
theorem fl_X10_146 : FL RX10 146 TX6 2 := Or.inr ⟨"TearsPost", List.mem_of_getElem? (i := 293) (by decide +kernel)⟩
theorem fl_X6_21 : FL RX6 21 TX6 3 := Or.inl (List.mem_of_getElem? (i := 294) (by decide +kernel))
theorem fl_X6_25 : FL RX6 25 TX6 4 := Or.inl (List.mem_of_getElem? (i := 295) (by decide +kernel))
theorem fl_X9_21 : FL RX9 21 TX6 4 := Or.inr ⟨"TearsPost", List.mem_of_getElem? (i := 296) (by decide +kernel)⟩
theorem fl_X10_232 : FL RX10 232 TX6 4 := Or.inr ⟨"TearsPost", List.mem_of_getElem? (i := 297) (by decide +kernel)⟩
theorem fl_X6_28 : FL RX6 28 TX6 5 := Or.inl (List.mem_of_getElem? (i := 298) (by decide +kernel))
theorem fl_X9_31 : FL RX9 31 TX6 5 := Or.inr ⟨"TearsPost", List.mem_of_getElem? (i := 299) (by decide +kernel)⟩
theorem fl_X10_235 : FL RX10 235 TX6 5 := Or.inr ⟨"TearsPost", List.mem_of_getElem? (i := 300) (by decide +kernel)⟩
theorem fl_X6_31 : FL RX6 31 TX6 6 := Or.inl (List.mem_of_getElem? (i := 301) (by decide +kernel))
theorem fl_X3_53 : FL RX3 53 TX6 6 := Or.inr ⟨"TearsPost", List.mem_of_getElem? (i := 302) (by decide +kernel)⟩
theorem fl_X10_278 : FL RX10 278 TX6 6 := Or.inr ⟨"TearsPost", List.mem_of_getElem? (i := 303) (by decide +kernel)⟩
theorem fl_X6_34 : FL RX6 34 TX6 7 := Or.inl (List.mem_of_getElem? (i := 304) (by decide +kernel))
theorem fl_X10_166 : FL RX10 166 TX6 7 := Or.inr ⟨"TearsPost", List.mem_of_getElem? (i := 305) (by decide +kernel)⟩
theorem fl_X6_37 : FL RX6 37 TX6 8 := Or.inl (List.mem_of_getElem? (i := 306) (by decide +kernel))
theorem fl_X10_156 : FL RX10 156 TX6 8 := Or.inr ⟨"TearsPost", List.mem_of_getElem? (i := 307) (by decide +kernel)⟩
theorem lk_X10_28 : LK RX10 28 yX2_init := Or.inr ⟨"TearsPost", List.mem_of_getElem? (i := 329) (by decide +kernel)⟩
theorem fl_X2_9 : FL RX2 9 TX2 0 := Or.inl (List.mem_of_getElem? (i := 333) (by decide +kernel))
theorem fl_X10_332 : FL RX10 332 TX2 0 := Or.inr ⟨"TearsPost", List.mem_of_getElem? (i := 334) (by decide +kernel)⟩
theorem fl_X2_15 : FL RX2 15 TX2 1 := Or.inl (List.mem_of_getElem? (i := 335) (by decide +kernel))
theorem lk_X10_35 : LK RX10 35 yX9_init := Or.inr ⟨"TearsPost", List.mem_of_getElem? (i := 343) (by decide +kernel)⟩
theorem fl_X9_9 : FL RX9 9 TX9 0 := Or.inl (List.mem_of_getElem? (i := 347) (by decide +kernel))
theorem fl_X10_238 : FL RX10 238 TX9 0 := Or.inr ⟨"TearsPost", List.mem_of_getElem? (i := 348) (by decide +kernel)⟩
theorem fl_X9_15 : FL RX9 15 TX9 1 := Or.inl (List.mem_of_getElem? (i := 349) (by decide +kernel))
theorem fl_X10_241 : FL RX10 241 TX9 1 := Or.inr ⟨"TearsPost", List.mem_of_getElem? (i := 350) (by decide +kernel)⟩
theorem fl_X9_18 : FL RX9 18 TX9 2 := Or.inl (List.mem_of_getElem? (i := 351) (by decide +kernel))
theorem fl_X10_244 : FL RX10 244 TX9 2 := Or.inr ⟨"TearsPost", List.mem_of_getElem? (i := 352) (by decide +kernel)⟩
theorem lk_X10_42 : LK RX10 42 yX8_init := Or.inr ⟨"TearsPost", List.mem_of_getElem? (i := 362) (by decide +kernel)⟩
theorem fl_X8_9 : FL RX8 9 TX8 0 := Or.inl (List.mem_of_getElem? (i := 366) (by decide +kernel))
theorem fl_X10_125 : FL RX10 125 TX8 0 := Or.inr ⟨"TearsPost", List.mem_of_getElem? (i := 367) (by decide +kernel)⟩
theorem fl_X8_15 : FL RX8 15 TX8 1 := Or.inl (List.mem_of_getElem? (i := 368) (by decide +kernel))
theorem fl_X10_255 : FL RX10 255 TX8 1 := Or.inr ⟨"TearsPost", List.mem_of_getElem? (i := 369) (by decide +kernel)⟩
theorem fl_X8_19 : FL RX8 19 TX8 2 := Or.inl (List.mem_of_getElem? (i := 370) (by decide +kernel))
theorem fl_X8_22 : FL RX8 22 TX8 3 := Or.inl (List.mem_of_getElem? (i := 371) (by decide +kernel))
theorem lk_X10_49 : LK RX10 49 yX1_init := Or.inr ⟨"TearsPost", List.mem_of_getElem? (i := 383) (by decide +kernel)⟩
theorem fl_X1_9 : FL RX1 9 TX1 0 := Or.inl (List.mem_of_getElem? (i := 387) (by decide +kernel))
theorem fl_X10_266 : FL RX10 266 TX1 0 := Or.inr ⟨"TearsPost", List.mem_of_getElem? (i := 388) (by decide +kernel)⟩
theorem fl_X1_15 : FL RX1 15 TX1 1 := Or.inl (List.mem_of_getElem? (i := 389) (by decide +kernel))
theorem lk_X10_56 : LK RX10 56 yX3_init := Or.inr ⟨"TearsPost", List.mem_of_getElem? (i := 397) (by decide +kernel)⟩
theorem fl_X3_11 : FL RX3 11 TX3 0 := Or.inl (List.mem_of_getElem? (i := 401) (by decide +kernel))
theorem fl_X10_284 : FL RX10 284 TX3 0 := Or.inr ⟨"TearsPost", List.mem_of_getElem? (i := 402) (by decide +kernel)⟩
theorem fl_X3_15 : FL RX3 15 TX3 1 := Or.inl (List.mem_of_getElem? (i := 403) (by decide +kernel))
theorem fl_X10_287 : FL RX10 287 TX3 1 := Or.inr ⟨"TearsPost", List.mem_of_getElem? (i := 404) (by decide +kernel)⟩
theorem fl_X3_18 : FL RX3 18 TX3 2 := Or.inl (List.mem_of_getElem? (i := 405) (by decide +kernel))
theorem fl_X10_290 : FL RX10 290 TX3 2 := Or.inr ⟨"TearsPost", List.mem_of_getElem? (i := 406) (by decide +kernel)⟩
theorem fl_X3_21 : FL RX3 21 TX3 3 := Or.inl (List.mem_of_getElem? (i := 407) (by decide +kernel))
theorem lk_X10_63 : LK RX10 63 yX4_init := Or.inr ⟨"TearsPost", List.mem_of_getElem? (i := 419) (by decide +kernel)⟩
theorem fl_X4_9 : FL RX4 9 TX4 0 := Or.inl (List.mem_of_getElem? (i := 423) (by decide +kernel))
theorem lk_X10_74 : LK RX10 74 yX0_init := Or.inr ⟨"TearsPost", List.mem_of_getElem? (i := 428) (by decide +kernel)⟩
theorem fl_X10_10 : FL RX10 10 TX10 0 := Or.inl (List.mem_of_getElem? (i := 429) (by decide +kernel))
theorem fl_X10_19 : FL RX10 19 TX10 1 := Or.inl (List.mem_of_getElem? (i := 430) (by decide +kernel))
theorem fl_X10_23 : FL RX10 23 TX10 2 := Or.inl (List.mem_of_getElem? (i := 431) (by decide +kernel))
theorem fl_X10_29 : FL RX10 29 TX10 3 := Or.inl (List.mem_of_getElem? (i := 432) (by decide +kernel))
theorem fl_X10_36 : FL RX10 36 TX10 4 := Or.inl (List.mem_of_getElem? (i := 433) (by decide +kernel))
theorem fl_X10_43 : FL RX10 43 TX10 5 := Or.inl (List.mem_of_getElem? (i := 434) (by decide +kernel))
theorem fl_X10_50 : FL RX10 50 TX10 6 := Or.inl (List.mem_of_getElem? (i := 435) (by decide +kernel))
theorem fl_X10_57 : FL RX10 57 TX10 7 := Or.inl (List.mem_of_getElem? (i := 436) (by decide +kernel))
theorem fl_X10_64 : FL RX10 64 TX10 8 := Or.inl (List.mem_of_getElem? (i := 437) (by decide +kernel))
theorem fl_X10_68 : FL RX10 68 TX10 9 := Or.inl (List.mem_of_getElem? (i := 438) (by decide +kernel))
theorem fl_X10_75 : FL RX10 75 TX10 10 := Or.inl (List.mem_of_getElem? (i := 439) (by decide +kernel))
theorem fl_X10_79 : FL RX10 79 TX10 11 := Or.inl (List.mem_of_getElem? (i := 440) (by decide +kernel))
theorem fl_X10_83 : FL RX10 83 TX10 12 := Or.inl (List.mem_of_getElem? (i := 441) (by decide +kernel))
theorem lk_L_92 : LK RL 92 yX10_feed := Or.inl (List.mem_of_getElem? (i := 469) (by decide +kernel))
theorem lk_X10_96 : LK RX10 96 yX7_tapeNumber := Or.inr ⟨"TearsPost", List.mem_of_getElem? (i := 473) (by decide +kernel)⟩
theorem lk_X7_31 : LK RX7 31 yX10_put := Or.inr ⟨"TearsPost", List.mem_of_getElem? (i := 477) (by decide +kernel)⟩
theorem lk_L_106 : LK RL 106 yX10_fault := Or.inl (List.mem_of_getElem? (i := 480) (by decide +kernel))
theorem lk_L_158 : LK RL 158 yX10_clear := Or.inl (List.mem_of_getElem? (i := 484) (by decide +kernel))
theorem lk_L_184 : LK RL 184 yX10_image := Or.inl (List.mem_of_getElem? (i := 488) (by decide +kernel))
theorem lk_X10_320 : LK RX10 320 yX6_copyFrom := Or.inr ⟨"TearsPost", List.mem_of_getElem? (i := 492) (by decide +kernel)⟩
theorem lk_X6_43 : LK RX6 43 yX10_copyRow := Or.inr ⟨"TearsPost", List.mem_of_getElem? (i := 496) (by decide +kernel)⟩
theorem lk_X10_339 : LK RX10 339 yJ9_min_7cf53 := Or.inl (List.mem_of_getElem? (i := 499) (by decide +kernel))
theorem lk_L_188 : LK RL 188 yX10_restore := Or.inl (List.mem_of_getElem? (i := 505) (by decide +kernel))
theorem lk_L_96 : LK RL 96 yL_city := Or.inl (List.mem_of_getElem? (i := 509) (by decide +kernel))
theorem lk_L_7 : LK RL 7 yX10_city := Or.inl (List.mem_of_getElem? (i := 513) (by decide +kernel))
theorem lk_X10_107 : LK RX10 107 yX5_readCity := Or.inr ⟨"TearsPost", List.mem_of_getElem? (i := 584) (by decide +kernel)⟩
theorem lk_X5_41 : LK RX5 41 yX7_split := Or.inr ⟨"TearsPost", List.mem_of_getElem? (i := 588) (by decide +kernel)⟩
theorem lk_X7_35 : LK RX7 35 yX7_endOf := Or.inl (List.mem_of_getElem? (i := 592) (by decide +kernel))
theorem lk_X7_39 : LK RX7 39 yX10_at := Or.inr ⟨"TearsPost", List.mem_of_getElem? (i := 596) (by decide +kernel)⟩
theorem lk_X7_57 : LK RX7 57 yX7_isLetter := Or.inl (List.mem_of_getElem? (i := 599) (by decide +kernel))
theorem lk_X7_60 : LK RX7 60 yX7_isDigit := Or.inl (List.mem_of_getElem? (i := 602) (by decide +kernel))
theorem lk_X7_43 : LK RX7 43 yX7_isBlank := Or.inl (List.mem_of_getElem? (i := 605) (by decide +kernel))
theorem lk_X7_47 : LK RX7 47 yX7_kindOf := Or.inl (List.mem_of_getElem? (i := 608) (by decide +kernel))
theorem lk_X7_63 : LK RX7 63 yX7_kindOfSign := Or.inl (List.mem_of_getElem? (i := 612) (by decide +kernel))
theorem lk_X7_67 : LK RX7 67 yX7_kindOfValue := Or.inl (List.mem_of_getElem? (i := 615) (by decide +kernel))
theorem lk_X7_75 : LK RX7 75 yX7_isWord := Or.inl (List.mem_of_getElem? (i := 620) (by decide +kernel))
theorem lk_X7_107 : LK RX7 107 yJ0_length_8abf5 := Or.inl (List.mem_of_getElem? (i := 624) (by decide +kernel))
theorem lk_X7_113 : LK RX7 113 yJ0_charAt_5068e := Or.inl (List.mem_of_getElem? (i := 634) (by decide +kernel))
theorem lk_X7_70 : LK RX7 70 yX7_kindOfWord := Or.inl (List.mem_of_getElem? (i := 678) (by decide +kernel))
theorem lk_X7_50 : LK RX7 50 yX7_numberOf := Or.inl (List.mem_of_getElem? (i := 690) (by decide +kernel))
theorem lk_X7_53 : LK RX7 53 yX7_add := Or.inl (List.mem_of_getElem? (i := 694) (by decide +kernel))
theorem lk_X5_45 : LK RX5 45 yX0_empty := Or.inr ⟨"TearsPost", List.mem_of_getElem? (i := 698) (by decide +kernel)⟩
theorem lk_X5_48 : LK RX5 48 yX5_goTo := Or.inl (List.mem_of_getElem? (i := 699) (by decide +kernel))
theorem lk_X5_66 : LK RX5 66 yX10_at := Or.inr ⟨"TearsPost", List.mem_of_getElem? (i := 703) (by decide +kernel)⟩
theorem lk_X5_51 : LK RX5 51 yX5_readClause := Or.inl (List.mem_of_getElem? (i := 704) (by decide +kernel))
theorem lk_X5_76 : LK RX5 76 yX5_readHouses := Or.inl (List.mem_of_getElem? (i := 708) (by decide +kernel))
theorem lk_X5_99 : LK RX5 99 yX5_takeNumber := Or.inl (List.mem_of_getElem? (i := 712) (by decide +kernel))
theorem lk_X5_80 : LK RX5 80 yX5_refuse := Or.inl (List.mem_of_getElem? (i := 716) (by decide +kernel))
theorem lk_X5_83 : LK RX5 83 yX5_readPerson := Or.inl (List.mem_of_getElem? (i := 720) (by decide +kernel))
theorem lk_X5_108 : LK RX5 108 yX5_takeHouse := Or.inl (List.mem_of_getElem? (i := 724) (by decide +kernel))
theorem lk_X5_114 : LK RX5 114 yX10_put := Or.inr ⟨"TearsPost", List.mem_of_getElem? (i := 728) (by decide +kernel)⟩
theorem lk_X5_86 : LK RX5 86 yX5_readWalk := Or.inl (List.mem_of_getElem? (i := 729) (by decide +kernel))
theorem lk_X5_124 : LK RX5 124 yX0_setWalk := Or.inr ⟨"TearsPost", List.mem_of_getElem? (i := 733) (by decide +kernel)⟩
theorem lk_X0_65 : LK RX0 65 yX10_put := Or.inr ⟨"TearsPost", List.mem_of_getElem? (i := 737) (by decide +kernel)⟩
theorem lk_X5_89 : LK RX5 89 yX5_beginRule := Or.inl (List.mem_of_getElem? (i := 738) (by decide +kernel))
theorem lk_X5_92 : LK RX5 92 yX5_readLevel := Or.inl (List.mem_of_getElem? (i := 742) (by decide +kernel))
theorem lk_X5_143 : LK RX5 143 yX5_readPart := Or.inl (List.mem_of_getElem? (i := 746) (by decide +kernel))
theorem lk_X5_59 : LK RX5 59 yX0_addCode := Or.inr ⟨"TearsPost", List.mem_of_getElem? (i := 750) (by decide +kernel)⟩
theorem lk_X5_152 : LK RX5 152 yX5_isWord := Or.inl (List.mem_of_getElem? (i := 754) (by decide +kernel))
theorem lk_X5_55 : LK RX5 55 yX5_take := Or.inl (List.mem_of_getElem? (i := 758) (by decide +kernel))
theorem lk_X5_146 : LK RX5 146 yX5_readTest := Or.inl (List.mem_of_getElem? (i := 762) (by decide +kernel))
theorem lk_X5_149 : LK RX5 149 yX5_joins := Or.inl (List.mem_of_getElem? (i := 766) (by decide +kernel))
theorem lk_X5_96 : LK RX5 96 yX5_beginAsk := Or.inl (List.mem_of_getElem? (i := 770) (by decide +kernel))
theorem lk_X10_111 : LK RX10 111 yX5_place := Or.inr ⟨"TearsPost", List.mem_of_getElem? (i := 774) (by decide +kernel)⟩
theorem lk_X10_115 : LK RX10 115 yX6_countRefused := Or.inr ⟨"TearsPost", List.mem_of_getElem? (i := 778) (by decide +kernel)⟩
theorem lk_X6_47 : LK RX6 47 yX10_at := Or.inr ⟨"TearsPost", List.mem_of_getElem? (i := 782) (by decide +kernel)⟩
theorem lk_X6_51 : LK RX6 51 yX10_put := Or.inr ⟨"TearsPost", List.mem_of_getElem? (i := 783) (by decide +kernel)⟩
theorem lk_X10_121 : LK RX10 121 yX6_startAnew := Or.inr ⟨"TearsPost", List.mem_of_getElem? (i := 784) (by decide +kernel)⟩
theorem lk_L_110 : LK RL 110 yL_count := Or.inl (List.mem_of_getElem? (i := 788) (by decide +kernel))
theorem lk_L_15 : LK RL 15 yX10_count := Or.inl (List.mem_of_getElem? (i := 792) (by decide +kernel))
theorem lk_X10_149 : LK RX10 149 yX6_nowHour := Or.inr ⟨"TearsPost", List.mem_of_getElem? (i := 796) (by decide +kernel)⟩
theorem lk_X6_55 : LK RX6 55 yX6_tearsNumber := Or.inl (List.mem_of_getElem? (i := 800) (by decide +kernel))
theorem lk_X10_152 : LK RX10 152 yX10_needWhat := Or.inl (List.mem_of_getElem? (i := 804) (by decide +kernel))
theorem lk_X10_159 : LK RX10 159 yX10_at := Or.inl (List.mem_of_getElem? (i := 823) (by decide +kernel))
theorem lk_L_113 : LK RL 113 yL_person := Or.inl (List.mem_of_getElem? (i := 824) (by decide +kernel))
theorem lk_L_20 : LK RL 20 yX10_person := Or.inl (List.mem_of_getElem? (i := 827) (by decide +kernel))
theorem lk_X10_163 : LK RX10 163 yX10_needPerson := Or.inl (List.mem_of_getElem? (i := 831) (by decide +kernel))
theorem lk_L_117 : LK RL 117 yL_walk := Or.inl (List.mem_of_getElem? (i := 836) (by decide +kernel))
theorem lk_L_24 : LK RL 24 yX10_walk := Or.inl (List.mem_of_getElem? (i := 839) (by decide +kernel))
theorem lk_X10_175 : LK RX10 175 yX10_needHouse := Or.inl (List.mem_of_getElem? (i := 843) (by decide +kernel))
theorem lk_X10_178 : LK RX10 178 yX0_walkBetween := Or.inr ⟨"TearsPost", List.mem_of_getElem? (i := 848) (by decide +kernel)⟩
theorem lk_X0_61 : LK RX0 61 yX10_at := Or.inr ⟨"TearsPost", List.mem_of_getElem? (i := 852) (by decide +kernel)⟩
theorem lk_L_120 : LK RL 120 yL_move := Or.inl (List.mem_of_getElem? (i := 853) (by decide +kernel))
theorem lk_L_27 : LK RL 27 yX10_move := Or.inl (List.mem_of_getElem? (i := 856) (by decide +kernel))
theorem lk_X10_182 : LK RX10 182 yX10_put := Or.inl (List.mem_of_getElem? (i := 860) (by decide +kernel))
theorem lk_L_124 : LK RL 124 yL_weep := Or.inl (List.mem_of_getElem? (i := 861) (by decide +kernel))
theorem lk_L_31 : LK RL 31 yX10_weep := Or.inl (List.mem_of_getElem? (i := 864) (by decide +kernel))
theorem lk_X10_186 : LK RX10 186 yX6_tearsOn := Or.inr ⟨"TearsPost", List.mem_of_getElem? (i := 868) (by decide +kernel)⟩
theorem lk_X6_59 : LK RX6 59 yX6_dayOf := Or.inl (List.mem_of_getElem? (i := 872) (by decide +kernel))
theorem lk_X10_189 : LK RX10 189 yX10_setValues := Or.inl (List.mem_of_getElem? (i := 876) (by decide +kernel))
theorem lk_X10_193 : LK RX10 193 yX0_rulesHold := Or.inr ⟨"TearsPost", List.mem_of_getElem? (i := 880) (by decide +kernel)⟩
theorem lk_X0_69 : LK RX0 69 yX0_exprValue := Or.inl (List.mem_of_getElem? (i := 884) (by decide +kernel))
theorem lk_X0_73 : LK RX0 73 yX0_join := Or.inl (List.mem_of_getElem? (i := 888) (by decide +kernel))
theorem lk_X10_197 : LK RX10 197 yX6_tell := Or.inr ⟨"TearsPost", List.mem_of_getElem? (i := 891) (by decide +kernel)⟩
theorem lk_L_128 : LK RL 128 yL_tears := Or.inl (List.mem_of_getElem? (i := 895) (by decide +kernel))
theorem lk_L_35 : LK RL 35 yX10_tears := Or.inl (List.mem_of_getElem? (i := 898) (by decide +kernel))
theorem lk_X10_206 : LK RX10 206 yX6_tearsNumber := Or.inr ⟨"TearsPost", List.mem_of_getElem? (i := 903) (by decide +kernel)⟩
theorem lk_L_131 : LK RL 131 yL_name := Or.inl (List.mem_of_getElem? (i := 904) (by decide +kernel))
theorem lk_L_38 : LK RL 38 yX10_name := Or.inl (List.mem_of_getElem? (i := 907) (by decide +kernel))
theorem lk_X10_209 : LK RX10 209 yX10_needHour := Or.inl (List.mem_of_getElem? (i := 911) (by decide +kernel))
theorem lk_X10_212 : LK RX10 212 yX2_callAt := Or.inr ⟨"TearsPost", List.mem_of_getElem? (i := 915) (by decide +kernel)⟩
theorem lk_X2_19 : LK RX2 19 yJ7_fill_53178 := Or.inl (List.mem_of_getElem? (i := 919) (by decide +kernel))
theorem lk_X2_25 : LK RX2 25 yX2_callOn := Or.inl (List.mem_of_getElem? (i := 920) (by decide +kernel))
theorem lk_X2_34 : LK RX2 34 yX6_tearsNumber := Or.inr ⟨"TearsPost", List.mem_of_getElem? (i := 924) (by decide +kernel)⟩
theorem lk_X2_38 : LK RX2 38 yX10_put := Or.inr ⟨"TearsPost", List.mem_of_getElem? (i := 925) (by decide +kernel)⟩
theorem lk_X10_216 : LK RX10 216 yX2_nameOf := Or.inr ⟨"TearsPost", List.mem_of_getElem? (i := 926) (by decide +kernel)⟩
theorem lk_X2_42 : LK RX2 42 yX10_at := Or.inr ⟨"TearsPost", List.mem_of_getElem? (i := 930) (by decide +kernel)⟩
theorem lk_L_134 : LK RL 134 yL_houses := Or.inl (List.mem_of_getElem? (i := 931) (by decide +kernel))
theorem lk_L_41 : LK RL 41 yX10_houses := Or.inl (List.mem_of_getElem? (i := 934) (by decide +kernel))
theorem lk_X10_220 : LK RX10 220 yX2_housesOf := Or.inr ⟨"TearsPost", List.mem_of_getElem? (i := 938) (by decide +kernel)⟩
theorem lk_X2_46 : LK RX2 46 yX2_nameOf := Or.inl (List.mem_of_getElem? (i := 942) (by decide +kernel))
theorem lk_L_137 : LK RL 137 yL_letter := Or.inl (List.mem_of_getElem? (i := 943) (by decide +kernel))
theorem lk_L_44 : LK RL 44 yX10_letter := Or.inl (List.mem_of_getElem? (i := 946) (by decide +kernel))
theorem lk_X10_223 : LK RX10 223 yX6_writeLetter := Or.inr ⟨"TearsPost", List.mem_of_getElem? (i := 950) (by decide +kernel)⟩
theorem lk_L_140 : LK RL 140 yL_post := Or.inl (List.mem_of_getElem? (i := 954) (by decide +kernel))
theorem lk_L_47 : LK RL 47 yX10_post := Or.inl (List.mem_of_getElem? (i := 957) (by decide +kernel))
theorem lk_X10_228 : LK RX10 228 yX9_follow := Or.inr ⟨"TearsPost", List.mem_of_getElem? (i := 962) (by decide +kernel)⟩
theorem lk_X9_27 : LK RX9 27 yX10_at := Or.inr ⟨"TearsPost", List.mem_of_getElem? (i := 966) (by decide +kernel)⟩
theorem lk_X9_34 : LK RX9 34 yX2_callAt := Or.inr ⟨"TearsPost", List.mem_of_getElem? (i := 967) (by decide +kernel)⟩
theorem lk_X9_40 : LK RX9 40 yX2_housesOf := Or.inr ⟨"TearsPost", List.mem_of_getElem? (i := 968) (by decide +kernel)⟩
theorem lk_X9_44 : LK RX9 44 yX9_meantBy := Or.inl (List.mem_of_getElem? (i := 969) (by decide +kernel))
theorem lk_X9_51 : LK RX9 51 yJ6_bitCount_0f7a4 := Or.inl (List.mem_of_getElem? (i := 972) (by decide +kernel))
theorem lk_X9_56 : LK RX9 56 yX2_leastOf := Or.inr ⟨"TearsPost", List.mem_of_getElem? (i := 978) (by decide +kernel)⟩
theorem lk_X9_48 : LK RX9 48 yX2_callOn := Or.inr ⟨"TearsPost", List.mem_of_getElem? (i := 981) (by decide +kernel)⟩
theorem lk_L_143 : LK RL 143 yL_round := Or.inl (List.mem_of_getElem? (i := 982) (by decide +kernel))
theorem lk_L_50 : LK RL 50 yX10_round := Or.inl (List.mem_of_getElem? (i := 985) (by decide +kernel))
theorem lk_X10_249 : LK RX10 249 yX8_plan := Or.inr ⟨"TearsPost", List.mem_of_getElem? (i := 990) (by decide +kernel)⟩
theorem lk_X8_25 : LK RX8 25 yX10_put := Or.inr ⟨"TearsPost", List.mem_of_getElem? (i := 994) (by decide +kernel)⟩
theorem lk_X8_29 : LK RX8 29 yX8_leastFrom := Or.inl (List.mem_of_getElem? (i := 995) (by decide +kernel))
theorem lk_X8_37 : LK RX8 37 yX10_at := Or.inr ⟨"TearsPost", List.mem_of_getElem? (i := 999) (by decide +kernel)⟩
theorem lk_X8_41 : LK RX8 41 yX0_walkBetween := Or.inr ⟨"TearsPost", List.mem_of_getElem? (i := 1000) (by decide +kernel)⟩
theorem lk_X8_48 : LK RX8 48 yX8_leastBy := Or.inl (List.mem_of_getElem? (i := 1002) (by decide +kernel))
theorem lk_X8_52 : LK RX8 52 yJ9_min_7cf53 := Or.inl (List.mem_of_getElem? (i := 1006) (by decide +kernel))
theorem lk_X8_33 : LK RX8 33 yX8_trace := Or.inl (List.mem_of_getElem? (i := 1007) (by decide +kernel))
theorem lk_X8_57 : LK RX8 57 yX8_isBest := Or.inl (List.mem_of_getElem? (i := 1011) (by decide +kernel))
theorem lk_L_146 : LK RL 146 yL_rounded := Or.inl (List.mem_of_getElem? (i := 1015) (by decide +kernel))
theorem lk_L_53 : LK RL 53 yX10_rounded := Or.inl (List.mem_of_getElem? (i := 1018) (by decide +kernel))
theorem lk_L_149 : LK RL 149 yL_holds := Or.inl (List.mem_of_getElem? (i := 1023) (by decide +kernel))
theorem lk_L_56 : LK RL 56 yX10_holds := Or.inl (List.mem_of_getElem? (i := 1026) (by decide +kernel))
theorem lk_X10_260 : LK RX10 260 yX10_holdsNow := Or.inl (List.mem_of_getElem? (i := 1031) (by decide +kernel))
theorem lk_X10_335 : LK RX10 335 yX0_askHolds := Or.inr ⟨"TearsPost", List.mem_of_getElem? (i := 1035) (by decide +kernel)⟩
theorem lk_L_152 : LK RL 152 yL_stranger := Or.inl (List.mem_of_getElem? (i := 1039) (by decide +kernel))
theorem lk_L_60 : LK RL 60 yX10_stranger := Or.inl (List.mem_of_getElem? (i := 1042) (by decide +kernel))
theorem lk_X10_269 : LK RX10 269 yX10_housesOfAsk := Or.inl (List.mem_of_getElem? (i := 1047) (by decide +kernel))
theorem lk_X10_272 : LK RX10 272 yX1_fewestOf := Or.inr ⟨"TearsPost", List.mem_of_getElem? (i := 1051) (by decide +kernel)⟩
theorem lk_X1_18 : LK RX1 18 yX1_fewestAmong := Or.inl (List.mem_of_getElem? (i := 1055) (by decide +kernel))
theorem lk_X1_30 : LK RX1 30 yJ6_bitCount_0f7a4 := Or.inl (List.mem_of_getElem? (i := 1059) (by decide +kernel))
theorem lk_X1_36 : LK RX1 36 yX1_fewestBy := Or.inl (List.mem_of_getElem? (i := 1060) (by decide +kernel))
theorem lk_X1_26 : LK RX1 26 yX10_at := Or.inr ⟨"TearsPost", List.mem_of_getElem? (i := 1064) (by decide +kernel)⟩
theorem lk_X1_44 : LK RX1 44 yJ9_max_7cf53 := Or.inl (List.mem_of_getElem? (i := 1065) (by decide +kernel))
theorem lk_X1_39 : LK RX1 39 yJ9_min_7cf53 := Or.inl (List.mem_of_getElem? (i := 1068) (by decide +kernel))
theorem lk_X1_22 : LK RX1 22 yX10_put := Or.inr ⟨"TearsPost", List.mem_of_getElem? (i := 1069) (by decide +kernel)⟩
theorem lk_X10_275 : LK RX10 275 yX1_firstOf := Or.inr ⟨"TearsPost", List.mem_of_getElem? (i := 1070) (by decide +kernel)⟩
theorem lk_L_155 : LK RL 155 yL_write := Or.inl (List.mem_of_getElem? (i := 1074) (by decide +kernel))
theorem lk_L_63 : LK RL 63 yX10_write := Or.inl (List.mem_of_getElem? (i := 1077) (by decide +kernel))
theorem lk_L_162 : LK RL 162 yL_register := Or.inl (List.mem_of_getElem? (i := 1081) (by decide +kernel))
theorem lk_L_66 : LK RL 66 yX10_register := Or.inl (List.mem_of_getElem? (i := 1084) (by decide +kernel))
theorem lk_X10_281 : LK RX10 281 yX3_compare := Or.inr ⟨"TearsPost", List.mem_of_getElem? (i := 1088) (by decide +kernel)⟩
theorem lk_X3_30 : LK RX3 30 yX10_put := Or.inr ⟨"TearsPost", List.mem_of_getElem? (i := 1092) (by decide +kernel)⟩
theorem lk_X3_37 : LK RX3 37 yX6_dayOf := Or.inr ⟨"TearsPost", List.mem_of_getElem? (i := 1093) (by decide +kernel)⟩
theorem lk_X3_41 : LK RX3 41 yX6_tearsNumber := Or.inr ⟨"TearsPost", List.mem_of_getElem? (i := 1094) (by decide +kernel)⟩
theorem lk_X3_45 : LK RX3 45 yX3_addTrueOne := Or.inl (List.mem_of_getElem? (i := 1095) (by decide +kernel))
theorem lk_X3_49 : LK RX3 49 yX10_at := Or.inr ⟨"TearsPost", List.mem_of_getElem? (i := 1099) (by decide +kernel)⟩
theorem lk_X3_56 : LK RX3 56 yJ9_min_7cf53 := Or.inl (List.mem_of_getElem? (i := 1100) (by decide +kernel))
theorem lk_L_165 : LK RL 165 yL_will := Or.inl (List.mem_of_getElem? (i := 1101) (by decide +kernel))
theorem lk_L_69 : LK RL 69 yX10_will := Or.inl (List.mem_of_getElem? (i := 1104) (by decide +kernel))
theorem lk_X10_295 : LK RX10 295 yX6_hoursCalled := Or.inr ⟨"TearsPost", List.mem_of_getElem? (i := 1109) (by decide +kernel)⟩
theorem lk_X6_63 : LK RX6 63 yJ9_max_7cf53 := Or.inl (List.mem_of_getElem? (i := 1113) (by decide +kernel))
theorem lk_L_169 : LK RL 169 yL_last := Or.inl (List.mem_of_getElem? (i := 1114) (by decide +kernel))
theorem lk_L_73 : LK RL 73 yX10_last := Or.inl (List.mem_of_getElem? (i := 1117) (by decide +kernel))
theorem lk_X10_299 : LK RX10 299 yX4_lastOf := Or.inr ⟨"TearsPost", List.mem_of_getElem? (i := 1121) (by decide +kernel)⟩
theorem lk_X4_15 : LK RX4 15 yJ7_fill_53178 := Or.inl (List.mem_of_getElem? (i := 1125) (by decide +kernel))
theorem lk_X4_22 : LK RX4 22 yX10_put := Or.inr ⟨"TearsPost", List.mem_of_getElem? (i := 1127) (by decide +kernel)⟩
theorem lk_X4_32 : LK RX4 32 yX10_at := Or.inr ⟨"TearsPost", List.mem_of_getElem? (i := 1128) (by decide +kernel)⟩
theorem lk_X4_39 : LK RX4 39 yX4_addOther := Or.inl (List.mem_of_getElem? (i := 1129) (by decide +kernel))
theorem lk_L_172 : LK RL 172 yL_nobody := Or.inl (List.mem_of_getElem? (i := 1133) (by decide +kernel))
theorem lk_L_76 : LK RL 76 yX10_nobody := Or.inl (List.mem_of_getElem? (i := 1136) (by decide +kernel))
theorem lk_X10_303 : LK RX10 303 yX4_nobodyOf := Or.inr ⟨"TearsPost", List.mem_of_getElem? (i := 1140) (by decide +kernel)⟩
theorem lk_L_175 : LK RL 175 yL_behind := Or.inl (List.mem_of_getElem? (i := 1144) (by decide +kernel))
theorem lk_L_79 : LK RL 79 yX10_behind := Or.inl (List.mem_of_getElem? (i := 1147) (by decide +kernel))
theorem lk_L_178 : LK RL 178 yL_dry := Or.inl (List.mem_of_getElem? (i := 1153) (by decide +kernel))
theorem lk_L_82 : LK RL 82 yX10_dry := Or.inl (List.mem_of_getElem? (i := 1156) (by decide +kernel))
theorem lk_X10_312 : LK RX10 312 yX6_weptBehind := Or.inr ⟨"TearsPost", List.mem_of_getElem? (i := 1161) (by decide +kernel)⟩
theorem lk_L_181 : LK RL 181 yL_mourner := Or.inl (List.mem_of_getElem? (i := 1165) (by decide +kernel))
theorem lk_L_85 : LK RL 85 yX10_mourner := Or.inl (List.mem_of_getElem? (i := 1168) (by decide +kernel))
theorem lk_X10_315 : LK RX10 315 yJ6_bitCount_0f7a4 := Or.inl (List.mem_of_getElem? (i := 1172) (by decide +kernel))
theorem lk_L_91 : LK RL 91 yX11_init := Or.inl (List.mem_of_getElem? (i := 1175) (by decide +kernel))
theorem lk_X11_156 : LK RX11 156 yX11_clearWalks := Or.inl (List.mem_of_getElem? (i := 1192) (by decide +kernel))
theorem fl_X11_19 : FL RX11 19 TX11 0 := Or.inl (List.mem_of_getElem? (i := 1196) (by decide +kernel))
theorem fl_X11_37 : FL RX11 37 TX11 1 := Or.inl (List.mem_of_getElem? (i := 1197) (by decide +kernel))
theorem fl_X11_160 : FL RX11 160 TX11 2 := Or.inl (List.mem_of_getElem? (i := 1198) (by decide +kernel))
theorem fl_X11_40 : FL RX11 40 TX11 3 := Or.inl (List.mem_of_getElem? (i := 1199) (by decide +kernel))
theorem fl_X11_44 : FL RX11 44 TX11 4 := Or.inl (List.mem_of_getElem? (i := 1200) (by decide +kernel))
theorem fl_X11_47 : FL RX11 47 TX11 5 := Or.inl (List.mem_of_getElem? (i := 1201) (by decide +kernel))
theorem fl_X11_50 : FL RX11 50 TX11 6 := Or.inl (List.mem_of_getElem? (i := 1202) (by decide +kernel))
theorem fl_X11_53 : FL RX11 53 TX11 7 := Or.inl (List.mem_of_getElem? (i := 1203) (by decide +kernel))
theorem fl_X11_57 : FL RX11 57 TX11 8 := Or.inl (List.mem_of_getElem? (i := 1204) (by decide +kernel))
theorem fl_X11_60 : FL RX11 60 TX11 9 := Or.inl (List.mem_of_getElem? (i := 1205) (by decide +kernel))
theorem fl_X11_63 : FL RX11 63 TX11 10 := Or.inl (List.mem_of_getElem? (i := 1206) (by decide +kernel))
theorem fl_X11_66 : FL RX11 66 TX11 11 := Or.inl (List.mem_of_getElem? (i := 1207) (by decide +kernel))
theorem fl_X11_296 : FL RX11 296 TX11 12 := Or.inl (List.mem_of_getElem? (i := 1208) (by decide +kernel))
theorem fl_X11_69 : FL RX11 69 TX11 13 := Or.inl (List.mem_of_getElem? (i := 1209) (by decide +kernel))
theorem fl_X11_72 : FL RX11 72 TX11 14 := Or.inl (List.mem_of_getElem? (i := 1210) (by decide +kernel))
theorem fl_X11_75 : FL RX11 75 TX11 15 := Or.inl (List.mem_of_getElem? (i := 1211) (by decide +kernel))
theorem fl_X11_78 : FL RX11 78 TX11 16 := Or.inl (List.mem_of_getElem? (i := 1212) (by decide +kernel))
theorem fl_X11_80 : FL RX11 80 TX11 17 := Or.inl (List.mem_of_getElem? (i := 1213) (by decide +kernel))
theorem fl_X11_83 : FL RX11 83 TX11 18 := Or.inl (List.mem_of_getElem? (i := 1214) (by decide +kernel))
theorem fl_X11_299 : FL RX11 299 TX11 19 := Or.inl (List.mem_of_getElem? (i := 1215) (by decide +kernel))
theorem fl_X11_302 : FL RX11 302 TX11 20 := Or.inl (List.mem_of_getElem? (i := 1216) (by decide +kernel))
theorem fl_X11_86 : FL RX11 86 TX11 21 := Or.inl (List.mem_of_getElem? (i := 1217) (by decide +kernel))
theorem fl_X11_89 : FL RX11 89 TX11 22 := Or.inl (List.mem_of_getElem? (i := 1218) (by decide +kernel))
theorem fl_X11_92 : FL RX11 92 TX11 23 := Or.inl (List.mem_of_getElem? (i := 1219) (by decide +kernel))
theorem fl_X11_95 : FL RX11 95 TX11 24 := Or.inl (List.mem_of_getElem? (i := 1220) (by decide +kernel))
theorem fl_X11_167 : FL RX11 167 TX11 25 := Or.inl (List.mem_of_getElem? (i := 1221) (by decide +kernel))
theorem fl_X11_173 : FL RX11 173 TX11 26 := Or.inl (List.mem_of_getElem? (i := 1222) (by decide +kernel))
theorem fl_X11_170 : FL RX11 170 TX11 27 := Or.inl (List.mem_of_getElem? (i := 1223) (by decide +kernel))
theorem fl_X11_183 : FL RX11 183 TX11 28 := Or.inl (List.mem_of_getElem? (i := 1224) (by decide +kernel))
theorem fl_X11_193 : FL RX11 193 TX11 29 := Or.inl (List.mem_of_getElem? (i := 1225) (by decide +kernel))
theorem fl_X11_180 : FL RX11 180 TX11 30 := Or.inl (List.mem_of_getElem? (i := 1226) (by decide +kernel))
theorem fl_X11_206 : FL RX11 206 TX11 31 := Or.inl (List.mem_of_getElem? (i := 1227) (by decide +kernel))
theorem fl_X11_209 : FL RX11 209 TX11 32 := Or.inl (List.mem_of_getElem? (i := 1228) (by decide +kernel))
theorem fl_X11_212 : FL RX11 212 TX11 33 := Or.inl (List.mem_of_getElem? (i := 1229) (by decide +kernel))
theorem fl_X11_98 : FL RX11 98 TX11 34 := Or.inl (List.mem_of_getElem? (i := 1230) (by decide +kernel))
theorem fl_X11_236 : FL RX11 236 TX11 35 := Or.inl (List.mem_of_getElem? (i := 1231) (by decide +kernel))
theorem fl_X11_102 : FL RX11 102 TX11 36 := Or.inl (List.mem_of_getElem? (i := 1232) (by decide +kernel))
theorem fl_X11_105 : FL RX11 105 TX11 37 := Or.inl (List.mem_of_getElem? (i := 1233) (by decide +kernel))
theorem fl_X11_353 : FL RX11 353 TX11 38 := Or.inl (List.mem_of_getElem? (i := 1234) (by decide +kernel))
theorem fl_X11_356 : FL RX11 356 TX11 39 := Or.inl (List.mem_of_getElem? (i := 1235) (by decide +kernel))
theorem fl_X11_108 : FL RX11 108 TX11 40 := Or.inl (List.mem_of_getElem? (i := 1236) (by decide +kernel))
theorem fl_X11_111 : FL RX11 111 TX11 41 := Or.inl (List.mem_of_getElem? (i := 1237) (by decide +kernel))
theorem fl_X11_114 : FL RX11 114 TX11 42 := Or.inl (List.mem_of_getElem? (i := 1238) (by decide +kernel))
theorem fl_X11_365 : FL RX11 365 TX11 43 := Or.inl (List.mem_of_getElem? (i := 1239) (by decide +kernel))
theorem fl_X11_372 : FL RX11 372 TX11 44 := Or.inl (List.mem_of_getElem? (i := 1240) (by decide +kernel))
theorem fl_X11_117 : FL RX11 117 TX11 45 := Or.inl (List.mem_of_getElem? (i := 1241) (by decide +kernel))
theorem fl_X11_120 : FL RX11 120 TX11 46 := Or.inl (List.mem_of_getElem? (i := 1242) (by decide +kernel))
theorem fl_X11_123 : FL RX11 123 TX11 47 := Or.inl (List.mem_of_getElem? (i := 1243) (by decide +kernel))
theorem fl_X11_126 : FL RX11 126 TX11 48 := Or.inl (List.mem_of_getElem? (i := 1244) (by decide +kernel))
theorem fl_X11_129 : FL RX11 129 TX11 49 := Or.inl (List.mem_of_getElem? (i := 1245) (by decide +kernel))
theorem fl_X11_132 : FL RX11 132 TX11 50 := Or.inl (List.mem_of_getElem? (i := 1246) (by decide +kernel))
theorem fl_X11_305 : FL RX11 305 TX11 51 := Or.inl (List.mem_of_getElem? (i := 1247) (by decide +kernel))
theorem fl_X11_135 : FL RX11 135 TX11 52 := Or.inl (List.mem_of_getElem? (i := 1248) (by decide +kernel))
theorem fl_X11_138 : FL RX11 138 TX11 53 := Or.inl (List.mem_of_getElem? (i := 1249) (by decide +kernel))
theorem fl_X11_141 : FL RX11 141 TX11 54 := Or.inl (List.mem_of_getElem? (i := 1250) (by decide +kernel))
theorem fl_X11_144 : FL RX11 144 TX11 55 := Or.inl (List.mem_of_getElem? (i := 1251) (by decide +kernel))
theorem fl_X11_147 : FL RX11 147 TX11 56 := Or.inl (List.mem_of_getElem? (i := 1252) (by decide +kernel))
theorem fl_X11_150 : FL RX11 150 TX11 57 := Or.inl (List.mem_of_getElem? (i := 1253) (by decide +kernel))
theorem fl_X11_153 : FL RX11 153 TX11 58 := Or.inl (List.mem_of_getElem? (i := 1254) (by decide +kernel))
theorem lk_L_102 : LK RL 102 yX11_thrown := Or.inl (List.mem_of_getElem? (i := 1375) (by decide +kernel))
theorem lk_L_95 : LK RL 95 yX11_feed := Or.inl (List.mem_of_getElem? (i := 1379) (by decide +kernel))
theorem lk_L_101 : LK RL 101 yX11_city := Or.inl (List.mem_of_getElem? (i := 1383) (by decide +kernel))
theorem lk_X11_286 : LK RX11 286 yX11_fail := Or.inl (List.mem_of_getElem? (i := 1387) (by decide +kernel))
theorem lk_X11_233 : LK RX11 233 yX11_stepOn := Or.inl (List.mem_of_getElem? (i := 1391) (by decide +kernel))
theorem lk_X11_176 : LK RX11 176 yX11_byteAt := Or.inl (List.mem_of_getElem? (i := 1395) (by decide +kernel))
theorem lk_X11_186 : LK RX11 186 yX11_isLetter := Or.inl (List.mem_of_getElem? (i := 1399) (by decide +kernel))
theorem lk_X11_190 : LK RX11 190 yX11_isDigit := Or.inl (List.mem_of_getElem? (i := 1402) (by decide +kernel))
theorem lk_X11_197 : LK RX11 197 yJ9_min_7cf53 := Or.inl (List.mem_of_getElem? (i := 1406) (by decide +kernel))
theorem lk_X11_203 : LK RX11 203 yX11_isMark := Or.inl (List.mem_of_getElem? (i := 1407) (by decide +kernel))
theorem lk_X11_289 : LK RX11 289 yX11_readClause := Or.inl (List.mem_of_getElem? (i := 1410) (by decide +kernel))
theorem lk_X11_245 : LK RX11 245 yX11_which := Or.inl (List.mem_of_getElem? (i := 1414) (by decide +kernel))
theorem lk_X11_223 : LK RX11 223 yX11_is := Or.inl (List.mem_of_getElem? (i := 1418) (by decide +kernel))
theorem lk_X11_215 : LK RX11 215 yJ0_length_8abf5 := Or.inl (List.mem_of_getElem? (i := 1422) (by decide +kernel))
theorem lk_X11_219 : LK RX11 219 yJ0_charAt_5068e := Or.inl (List.mem_of_getElem? (i := 1423) (by decide +kernel))
theorem lk_X11_230 : LK RX11 230 yX11_wrong := Or.inl (List.mem_of_getElem? (i := 1424) (by decide +kernel))
theorem lk_X11_239 : LK RX11 239 yX11_readNumber := Or.inl (List.mem_of_getElem? (i := 1428) (by decide +kernel))
theorem lk_X11_280 : LK RX11 280 yX11_readPerson := Or.inl (List.mem_of_getElem? (i := 1432) (by decide +kernel))
theorem lk_X11_276 : LK RX11 276 yX11_readHouse := Or.inl (List.mem_of_getElem? (i := 1436) (by decide +kernel))
theorem lk_X11_283 : LK RX11 283 yX11_readWalk := Or.inl (List.mem_of_getElem? (i := 1441) (by decide +kernel))
theorem lk_X11_252 : LK RX11 252 yX11_readExpression := Or.inl (List.mem_of_getElem? (i := 1445) (by decide +kernel))
theorem lk_X11_227 : LK RX11 227 yX11_isMarked := Or.inl (List.mem_of_getElem? (i := 1449) (by decide +kernel))
theorem lk_X11_271 : LK RX11 271 yX11_readAnd := Or.inl (List.mem_of_getElem? (i := 1453) (by decide +kernel))
theorem lk_X11_266 : LK RX11 266 yX11_readNot := Or.inl (List.mem_of_getElem? (i := 1457) (by decide +kernel))
theorem lk_X11_263 : LK RX11 263 yX11_readSum := Or.inl (List.mem_of_getElem? (i := 1462) (by decide +kernel))
theorem lk_X11_258 : LK RX11 258 yX11_readProduct := Or.inl (List.mem_of_getElem? (i := 1466) (by decide +kernel))
theorem lk_X11_255 : LK RX11 255 yX11_readPart := Or.inl (List.mem_of_getElem? (i := 1470) (by decide +kernel))
theorem lk_X11_242 : LK RX11 242 yX11_lay := Or.inl (List.mem_of_getElem? (i := 1474) (by decide +kernel))
theorem lk_X11_249 : LK RX11 249 yX11_mark := Or.inl (List.mem_of_getElem? (i := 1478) (by decide +kernel))
theorem lk_X11_293 : LK RX11 293 yX11_take := Or.inl (List.mem_of_getElem? (i := 1484) (by decide +kernel))
theorem lk_L_109 : LK RL 109 yX11_fault := Or.inl (List.mem_of_getElem? (i := 1488) (by decide +kernel))
theorem lk_L_112 : LK RL 112 yX11_count := Or.inl (List.mem_of_getElem? (i := 1492) (by decide +kernel))
theorem lk_X11_163 : LK RX11 163 yX11_isIn := Or.inl (List.mem_of_getElem? (i := 1496) (by decide +kernel))
theorem lk_X11_309 : LK RX11 309 yX11_now := Or.inl (List.mem_of_getElem? (i := 1499) (by decide +kernel))
theorem lk_L_116 : LK RL 116 yX11_person := Or.inl (List.mem_of_getElem? (i := 1503) (by decide +kernel))
theorem lk_X11_312 : LK RX11 312 yX11_isPerson := Or.inl (List.mem_of_getElem? (i := 1507) (by decide +kernel))
theorem lk_L_119 : LK RL 119 yX11_walk := Or.inl (List.mem_of_getElem? (i := 1511) (by decide +kernel))
theorem lk_X11_315 : LK RX11 315 yX11_isHouse := Or.inl (List.mem_of_getElem? (i := 1515) (by decide +kernel))
theorem lk_L_123 : LK RL 123 yX11_move := Or.inl (List.mem_of_getElem? (i := 1519) (by decide +kernel))
theorem lk_L_127 : LK RL 127 yX11_weep := Or.inl (List.mem_of_getElem? (i := 1523) (by decide +kernel))
theorem lk_X11_325 : LK RX11 325 yX11_beforeOf := Or.inl (List.mem_of_getElem? (i := 1527) (by decide +kernel))
theorem lk_X11_328 : LK RX11 328 yX11_ask := Or.inl (List.mem_of_getElem? (i := 1531) (by decide +kernel))
theorem lk_X11_331 : LK RX11 331 yX11_allRules := Or.inl (List.mem_of_getElem? (i := 1535) (by decide +kernel))
theorem lk_X11_322 : LK RX11 322 yX11_isTrue := Or.inl (List.mem_of_getElem? (i := 1539) (by decide +kernel))
theorem lk_X11_318 : LK RX11 318 yX11_reckon := Or.inl (List.mem_of_getElem? (i := 1543) (by decide +kernel))
theorem lk_L_130 : LK RL 130 yX11_tears := Or.inl (List.mem_of_getElem? (i := 1546) (by decide +kernel))
theorem lk_L_133 : LK RL 133 yX11_name := Or.inl (List.mem_of_getElem? (i := 1550) (by decide +kernel))
theorem lk_X11_338 : LK RX11 338 yX11_isHour := Or.inl (List.mem_of_getElem? (i := 1554) (by decide +kernel))
theorem lk_X11_341 : LK RX11 341 yX11_nameOf := Or.inl (List.mem_of_getElem? (i := 1557) (by decide +kernel))
theorem lk_X11_335 : LK RX11 335 yX11_calledBy := Or.inl (List.mem_of_getElem? (i := 1561) (by decide +kernel))
theorem lk_L_136 : LK RL 136 yX11_houses := Or.inl (List.mem_of_getElem? (i := 1565) (by decide +kernel))
theorem lk_X11_344 : LK RX11 344 yX11_housesOf := Or.inl (List.mem_of_getElem? (i := 1569) (by decide +kernel))
theorem lk_L_139 : LK RL 139 yX11_letter := Or.inl (List.mem_of_getElem? (i := 1573) (by decide +kernel))
theorem lk_L_142 : LK RL 142 yX11_post := Or.inl (List.mem_of_getElem? (i := 1577) (by decide +kernel))
theorem lk_X11_359 : LK RX11 359 yX11_meant := Or.inl (List.mem_of_getElem? (i := 1581) (by decide +kernel))
theorem lk_X11_347 : LK RX11 347 yX11_bitsOf := Or.inl (List.mem_of_getElem? (i := 1585) (by decide +kernel))
theorem lk_X11_350 : LK RX11 350 yX11_firstOf := Or.inl (List.mem_of_getElem? (i := 1588) (by decide +kernel))
theorem lk_X11_362 : LK RX11 362 yX11_carry := Or.inl (List.mem_of_getElem? (i := 1591) (by decide +kernel))
theorem lk_L_145 : LK RL 145 yX11_round := Or.inl (List.mem_of_getElem? (i := 1595) (by decide +kernel))
theorem lk_X11_368 : LK RX11 368 yX11_walkOn := Or.inl (List.mem_of_getElem? (i := 1599) (by decide +kernel))
theorem lk_L_148 : LK RL 148 yX11_rounded := Or.inl (List.mem_of_getElem? (i := 1603) (by decide +kernel))
theorem lk_L_151 : LK RL 151 yX11_holds := Or.inl (List.mem_of_getElem? (i := 1607) (by decide +kernel))
theorem lk_X11_375 : LK RX11 375 yX11_holdsOf := Or.inl (List.mem_of_getElem? (i := 1611) (by decide +kernel))
theorem lk_L_154 : LK RL 154 yX11_stranger := Or.inl (List.mem_of_getElem? (i := 1615) (by decide +kernel))
theorem lk_X11_388 : LK RX11 388 yX11_tellAsks := Or.inl (List.mem_of_getElem? (i := 1619) (by decide +kernel))
theorem lk_X11_382 : LK RX11 382 yX11_askBy := Or.inl (List.mem_of_getElem? (i := 1623) (by decide +kernel))
theorem lk_X11_385 : LK RX11 385 yX11_most := Or.inl (List.mem_of_getElem? (i := 1627) (by decide +kernel))
theorem lk_X11_379 : LK RX11 379 yJ9_max_7cf53 := Or.inl (List.mem_of_getElem? (i := 1630) (by decide +kernel))
theorem lk_L_157 : LK RL 157 yX11_write := Or.inl (List.mem_of_getElem? (i := 1631) (by decide +kernel))
theorem lk_L_161 : LK RL 161 yX11_clear := Or.inl (List.mem_of_getElem? (i := 1635) (by decide +kernel))
theorem lk_L_164 : LK RL 164 yX11_register := Or.inl (List.mem_of_getElem? (i := 1639) (by decide +kernel))
theorem lk_X11_391 : LK RX11 391 yX11_offer := Or.inl (List.mem_of_getElem? (i := 1643) (by decide +kernel))
theorem lk_L_168 : LK RL 168 yX11_will := Or.inl (List.mem_of_getElem? (i := 1647) (by decide +kernel))
theorem lk_X11_395 : LK RX11 395 yX11_hoursOf := Or.inl (List.mem_of_getElem? (i := 1651) (by decide +kernel))
theorem lk_L_171 : LK RL 171 yX11_last := Or.inl (List.mem_of_getElem? (i := 1655) (by decide +kernel))
theorem lk_X11_400 : LK RX11 400 yX11_lastOf := Or.inl (List.mem_of_getElem? (i := 1659) (by decide +kernel))
theorem lk_L_174 : LK RL 174 yX11_nobody := Or.inl (List.mem_of_getElem? (i := 1664) (by decide +kernel))
theorem lk_X11_403 : LK RX11 403 yX11_nobodyOf := Or.inl (List.mem_of_getElem? (i := 1668) (by decide +kernel))
theorem lk_L_177 : LK RL 177 yX11_behind := Or.inl (List.mem_of_getElem? (i := 1672) (by decide +kernel))
theorem lk_L_180 : LK RL 180 yX11_dry := Or.inl (List.mem_of_getElem? (i := 1677) (by decide +kernel))
theorem lk_L_183 : LK RL 183 yX11_mourner := Or.inl (List.mem_of_getElem? (i := 1681) (by decide +kernel))
theorem lk_X11_408 : LK RX11 408 yX11_plainNames := Or.inl (List.mem_of_getElem? (i := 1685) (by decide +kernel))
theorem lk_L_187 : LK RL 187 yX11_image := Or.inl (List.mem_of_getElem? (i := 1689) (by decide +kernel))
theorem lk_X11_411 : LK RX11 411 yX11_be := Or.inl (List.mem_of_getElem? (i := 1693) (by decide +kernel))
theorem lk_L_192 : LK RL 192 yX11_restore := Or.inl (List.mem_of_getElem? (i := 1696) (by decide +kernel))
theorem mn_X10_init : MIn yX10_init cX10_init 1 none 0 := ⟨List.mem_of_getElem? (i := 143) (by decide +kernel), List.mem_of_getElem? (i := 114) (by decide +kernel), by decide +kernel, by decide +kernel, by decide +kernel⟩
theorem mi_X10_init : MIi yX10_init := ⟨List.mem_of_getElem? (i := 142) (by decide +kernel), rfl⟩
theorem mn_X5_init : MIn yX5_init cX5_init 1 none 0 := ⟨List.mem_of_getElem? (i := 151) (by decide +kernel), List.mem_of_getElem? (i := 115) (by decide +kernel), by decide +kernel, by decide +kernel, by decide +kernel⟩
theorem mi_X5_init : MIi yX5_init := ⟨List.mem_of_getElem? (i := 150) (by decide +kernel), rfl⟩
theorem mn_X7_init : MIn yX7_init cX7_init 1 none 0 := ⟨List.mem_of_getElem? (i := 157) (by decide +kernel), List.mem_of_getElem? (i := 116) (by decide +kernel), by decide +kernel, by decide +kernel, by decide +kernel⟩
theorem mi_X7_init : MIi yX7_init := ⟨List.mem_of_getElem? (i := 156) (by decide +kernel), rfl⟩
theorem mn_X0_init : MIn yX0_init cX0_init 1 none 0 := ⟨List.mem_of_getElem? (i := 187) (by decide +kernel), List.mem_of_getElem? (i := 117) (by decide +kernel), by decide +kernel, by decide +kernel, by decide +kernel⟩
theorem mi_X0_init : MIi yX0_init := ⟨List.mem_of_getElem? (i := 186) (by decide +kernel), rfl⟩
theorem mn_X0_empty : MIn yX0_empty cX0_empty 1 none 0 := ⟨List.mem_of_getElem? (i := 192) (by decide +kernel), List.mem_of_getElem? (i := 117) (by decide +kernel), by decide +kernel, by decide +kernel, by decide +kernel⟩
theorem mv_X0_empty : MIv yX0_empty := ⟨List.mem_of_getElem? (i := 191) (by decide +kernel), List.mem_of_getElem? (i := 0) (by decide +kernel)⟩
theorem mn_J7_fill_53178 : MIn yJ7_fill_53178 cJ7_fill_53178 4 none 2 := ⟨List.mem_of_getElem? (i := 195) (by decide +kernel), List.mem_of_getElem? (i := 118) (by decide +kernel), by decide +kernel, by decide +kernel, by decide +kernel⟩
theorem ms_J7_fill_53178 : MIs yJ7_fill_53178 := List.mem_of_getElem? (i := 194) (by decide +kernel)
theorem mn_X6_init : MIn yX6_init cX6_init 1 none 0 := ⟨List.mem_of_getElem? (i := 283) (by decide +kernel), List.mem_of_getElem? (i := 119) (by decide +kernel), by decide +kernel, by decide +kernel, by decide +kernel⟩
theorem mi_X6_init : MIi yX6_init := ⟨List.mem_of_getElem? (i := 282) (by decide +kernel), rfl⟩
theorem mn_X2_init : MIn yX2_init cX2_init 1 none 0 := ⟨List.mem_of_getElem? (i := 331) (by decide +kernel), List.mem_of_getElem? (i := 120) (by decide +kernel), by decide +kernel, by decide +kernel, by decide +kernel⟩
theorem mi_X2_init : MIi yX2_init := ⟨List.mem_of_getElem? (i := 330) (by decide +kernel), rfl⟩
theorem mn_X9_init : MIn yX9_init cX9_init 1 none 0 := ⟨List.mem_of_getElem? (i := 345) (by decide +kernel), List.mem_of_getElem? (i := 121) (by decide +kernel), by decide +kernel, by decide +kernel, by decide +kernel⟩
theorem mi_X9_init : MIi yX9_init := ⟨List.mem_of_getElem? (i := 344) (by decide +kernel), rfl⟩
theorem mn_X8_init : MIn yX8_init cX8_init 1 none 0 := ⟨List.mem_of_getElem? (i := 364) (by decide +kernel), List.mem_of_getElem? (i := 122) (by decide +kernel), by decide +kernel, by decide +kernel, by decide +kernel⟩
theorem mi_X8_init : MIi yX8_init := ⟨List.mem_of_getElem? (i := 363) (by decide +kernel), rfl⟩
theorem mn_X1_init : MIn yX1_init cX1_init 1 none 0 := ⟨List.mem_of_getElem? (i := 385) (by decide +kernel), List.mem_of_getElem? (i := 123) (by decide +kernel), by decide +kernel, by decide +kernel, by decide +kernel⟩
theorem mi_X1_init : MIi yX1_init := ⟨List.mem_of_getElem? (i := 384) (by decide +kernel), rfl⟩
theorem mn_X3_init : MIn yX3_init cX3_init 1 none 0 := ⟨List.mem_of_getElem? (i := 399) (by decide +kernel), List.mem_of_getElem? (i := 124) (by decide +kernel), by decide +kernel, by decide +kernel, by decide +kernel⟩
theorem mi_X3_init : MIi yX3_init := ⟨List.mem_of_getElem? (i := 398) (by decide +kernel), rfl⟩
theorem mn_X4_init : MIn yX4_init cX4_init 1 none 0 := ⟨List.mem_of_getElem? (i := 421) (by decide +kernel), List.mem_of_getElem? (i := 125) (by decide +kernel), by decide +kernel, by decide +kernel, by decide +kernel⟩
theorem mi_X4_init : MIi yX4_init := ⟨List.mem_of_getElem? (i := 420) (by decide +kernel), rfl⟩
theorem mn_X10_feed : MIn yX10_feed cX10_feed 6 (some .int) 5 := ⟨List.mem_of_getElem? (i := 472) (by decide +kernel), List.mem_of_getElem? (i := 114) (by decide +kernel), by decide +kernel, by decide +kernel, by decide +kernel⟩
theorem mv_X10_feed : MIv yX10_feed := ⟨List.mem_of_getElem? (i := 470) (by decide +kernel), List.mem_of_getElem? (i := 471) (by decide +kernel)⟩
theorem mn_X7_tapeNumber : MIn yX7_tapeNumber cX7_tapeNumber 3 none 1 := ⟨List.mem_of_getElem? (i := 476) (by decide +kernel), List.mem_of_getElem? (i := 116) (by decide +kernel), by decide +kernel, by decide +kernel, by decide +kernel⟩
theorem mv_X7_tapeNumber : MIv yX7_tapeNumber := ⟨List.mem_of_getElem? (i := 475) (by decide +kernel), List.mem_of_getElem? (i := 1) (by decide +kernel)⟩
theorem mn_X10_put : MIn yX10_put cX10_put 3 none 3 := ⟨List.mem_of_getElem? (i := 479) (by decide +kernel), List.mem_of_getElem? (i := 114) (by decide +kernel), by decide +kernel, by decide +kernel, by decide +kernel⟩
theorem ms_X10_put : MIs yX10_put := List.mem_of_getElem? (i := 478) (by decide +kernel)
theorem mn_X10_fault : MIn yX10_fault cX10_fault 1 (some .int) 0 := ⟨List.mem_of_getElem? (i := 483) (by decide +kernel), List.mem_of_getElem? (i := 114) (by decide +kernel), by decide +kernel, by decide +kernel, by decide +kernel⟩
theorem mv_X10_fault : MIv yX10_fault := ⟨List.mem_of_getElem? (i := 481) (by decide +kernel), List.mem_of_getElem? (i := 482) (by decide +kernel)⟩
theorem mn_X10_clear : MIn yX10_clear cX10_clear 2 (some .int) 0 := ⟨List.mem_of_getElem? (i := 487) (by decide +kernel), List.mem_of_getElem? (i := 114) (by decide +kernel), by decide +kernel, by decide +kernel, by decide +kernel⟩
theorem mv_X10_clear : MIv yX10_clear := ⟨List.mem_of_getElem? (i := 485) (by decide +kernel), List.mem_of_getElem? (i := 486) (by decide +kernel)⟩
theorem mn_X10_image : MIn yX10_image cX10_image 1 none 0 := ⟨List.mem_of_getElem? (i := 491) (by decide +kernel), List.mem_of_getElem? (i := 114) (by decide +kernel), by decide +kernel, by decide +kernel, by decide +kernel⟩
theorem mv_X10_image : MIv yX10_image := ⟨List.mem_of_getElem? (i := 489) (by decide +kernel), List.mem_of_getElem? (i := 490) (by decide +kernel)⟩
theorem mn_X6_copyFrom : MIn yX6_copyFrom cX6_copyFrom 2 none 1 := ⟨List.mem_of_getElem? (i := 495) (by decide +kernel), List.mem_of_getElem? (i := 119) (by decide +kernel), by decide +kernel, by decide +kernel, by decide +kernel⟩
theorem mv_X6_copyFrom : MIv yX6_copyFrom := ⟨List.mem_of_getElem? (i := 494) (by decide +kernel), List.mem_of_getElem? (i := 2) (by decide +kernel)⟩
theorem mn_X10_copyRow : MIn yX10_copyRow cX10_copyRow 2 none 2 := ⟨List.mem_of_getElem? (i := 498) (by decide +kernel), List.mem_of_getElem? (i := 114) (by decide +kernel), by decide +kernel, by decide +kernel, by decide +kernel⟩
theorem ms_X10_copyRow : MIs yX10_copyRow := List.mem_of_getElem? (i := 497) (by decide +kernel)
theorem mn_J9_min_7cf53 : MIn yJ9_min_7cf53 cJ9_min_7cf53 2 (some .int) 2 := ⟨List.mem_of_getElem? (i := 501) (by decide +kernel), List.mem_of_getElem? (i := 135) (by decide +kernel), by decide +kernel, by decide +kernel, by decide +kernel⟩
theorem ms_J9_min_7cf53 : MIs yJ9_min_7cf53 := List.mem_of_getElem? (i := 500) (by decide +kernel)
theorem mn_X10_restore : MIn yX10_restore cX10_restore 1 (some .boolean) 0 := ⟨List.mem_of_getElem? (i := 508) (by decide +kernel), List.mem_of_getElem? (i := 114) (by decide +kernel), by decide +kernel, by decide +kernel, by decide +kernel⟩
theorem mv_X10_restore : MIv yX10_restore := ⟨List.mem_of_getElem? (i := 506) (by decide +kernel), List.mem_of_getElem? (i := 507) (by decide +kernel)⟩
theorem mn_X10_city : MIn yX10_city cX10_city 4 (some .int) 1 := ⟨List.mem_of_getElem? (i := 516) (by decide +kernel), List.mem_of_getElem? (i := 114) (by decide +kernel), by decide +kernel, by decide +kernel, by decide +kernel⟩
theorem mv_X10_city : MIv yX10_city := ⟨List.mem_of_getElem? (i := 514) (by decide +kernel), List.mem_of_getElem? (i := 515) (by decide +kernel)⟩
theorem mn_X5_readCity : MIn yX5_readCity cX5_readCity 4 (some .int) 1 := ⟨List.mem_of_getElem? (i := 587) (by decide +kernel), List.mem_of_getElem? (i := 115) (by decide +kernel), by decide +kernel, by decide +kernel, by decide +kernel⟩
theorem mv_X5_readCity : MIv yX5_readCity := ⟨List.mem_of_getElem? (i := 586) (by decide +kernel), List.mem_of_getElem? (i := 4) (by decide +kernel)⟩
theorem mn_X7_split : MIn yX7_split cX7_split 5 none 1 := ⟨List.mem_of_getElem? (i := 591) (by decide +kernel), List.mem_of_getElem? (i := 116) (by decide +kernel), by decide +kernel, by decide +kernel, by decide +kernel⟩
theorem mv_X7_split : MIv yX7_split := ⟨List.mem_of_getElem? (i := 590) (by decide +kernel), List.mem_of_getElem? (i := 5) (by decide +kernel)⟩
theorem mn_X7_endOf : MIn yX7_endOf cX7_endOf 6 (some .int) 2 := ⟨List.mem_of_getElem? (i := 595) (by decide +kernel), List.mem_of_getElem? (i := 116) (by decide +kernel), by decide +kernel, by decide +kernel, by decide +kernel⟩
theorem mv_X7_endOf : MIv yX7_endOf := ⟨List.mem_of_getElem? (i := 594) (by decide +kernel), List.mem_of_getElem? (i := 6) (by decide +kernel)⟩
theorem mn_X10_at : MIn yX10_at cX10_at 2 (some .int) 2 := ⟨List.mem_of_getElem? (i := 598) (by decide +kernel), List.mem_of_getElem? (i := 114) (by decide +kernel), by decide +kernel, by decide +kernel, by decide +kernel⟩
theorem ms_X10_at : MIs yX10_at := List.mem_of_getElem? (i := 597) (by decide +kernel)
theorem mn_X7_isLetter : MIn yX7_isLetter cX7_isLetter 1 (some .boolean) 1 := ⟨List.mem_of_getElem? (i := 601) (by decide +kernel), List.mem_of_getElem? (i := 116) (by decide +kernel), by decide +kernel, by decide +kernel, by decide +kernel⟩
theorem ms_X7_isLetter : MIs yX7_isLetter := List.mem_of_getElem? (i := 600) (by decide +kernel)
theorem mn_X7_isDigit : MIn yX7_isDigit cX7_isDigit 1 (some .boolean) 1 := ⟨List.mem_of_getElem? (i := 604) (by decide +kernel), List.mem_of_getElem? (i := 116) (by decide +kernel), by decide +kernel, by decide +kernel, by decide +kernel⟩
theorem ms_X7_isDigit : MIs yX7_isDigit := List.mem_of_getElem? (i := 603) (by decide +kernel)
theorem mn_X7_isBlank : MIn yX7_isBlank cX7_isBlank 1 (some .boolean) 1 := ⟨List.mem_of_getElem? (i := 607) (by decide +kernel), List.mem_of_getElem? (i := 116) (by decide +kernel), by decide +kernel, by decide +kernel, by decide +kernel⟩
theorem ms_X7_isBlank : MIs yX7_isBlank := List.mem_of_getElem? (i := 606) (by decide +kernel)
theorem mn_X7_kindOf : MIn yX7_kindOf cX7_kindOf 5 (some .int) 2 := ⟨List.mem_of_getElem? (i := 611) (by decide +kernel), List.mem_of_getElem? (i := 116) (by decide +kernel), by decide +kernel, by decide +kernel, by decide +kernel⟩
theorem mv_X7_kindOf : MIv yX7_kindOf := ⟨List.mem_of_getElem? (i := 610) (by decide +kernel), List.mem_of_getElem? (i := 7) (by decide +kernel)⟩
theorem mn_X7_kindOfSign : MIn yX7_kindOfSign cX7_kindOfSign 1 (some .int) 1 := ⟨List.mem_of_getElem? (i := 614) (by decide +kernel), List.mem_of_getElem? (i := 116) (by decide +kernel), by decide +kernel, by decide +kernel, by decide +kernel⟩
theorem ms_X7_kindOfSign : MIs yX7_kindOfSign := List.mem_of_getElem? (i := 613) (by decide +kernel)
theorem mn_X7_kindOfValue : MIn yX7_kindOfValue cX7_kindOfValue 3 (some .int) 2 := ⟨List.mem_of_getElem? (i := 618) (by decide +kernel), List.mem_of_getElem? (i := 116) (by decide +kernel), by decide +kernel, by decide +kernel, by decide +kernel⟩
theorem mv_X7_kindOfValue : MIv yX7_kindOfValue := ⟨List.mem_of_getElem? (i := 617) (by decide +kernel), List.mem_of_getElem? (i := 8) (by decide +kernel)⟩
theorem mn_X7_isWord : MIn yX7_isWord cX7_isWord 5 (some .boolean) 3 := ⟨List.mem_of_getElem? (i := 623) (by decide +kernel), List.mem_of_getElem? (i := 116) (by decide +kernel), by decide +kernel, by decide +kernel, by decide +kernel⟩
theorem mv_X7_isWord : MIv yX7_isWord := ⟨List.mem_of_getElem? (i := 622) (by decide +kernel), List.mem_of_getElem? (i := 9) (by decide +kernel)⟩
theorem mn_J0_length_8abf5 : MIn yJ0_length_8abf5 cJ0_length_8abf5 1 (some .int) 0 := ⟨List.mem_of_getElem? (i := 627) (by decide +kernel), List.mem_of_getElem? (i := 131) (by decide +kernel), by decide +kernel, by decide +kernel, by decide +kernel⟩
theorem mv_J0_length_8abf5 : MIv yJ0_length_8abf5 := ⟨List.mem_of_getElem? (i := 625) (by decide +kernel), List.mem_of_getElem? (i := 626) (by decide +kernel)⟩
theorem mn_J0_isLatin1_aae02 : MIn yJ0_isLatin1_aae02 cJ0_isLatin1_aae02 1 (some .boolean) 0 := ⟨List.mem_of_getElem? (i := 641) (by decide +kernel), List.mem_of_getElem? (i := 131) (by decide +kernel), by decide +kernel, by decide +kernel, by decide +kernel⟩
theorem mv_J0_isLatin1_aae02 : MIv yJ0_isLatin1_aae02 := ⟨List.mem_of_getElem? (i := 639) (by decide +kernel), List.mem_of_getElem? (i := 640) (by decide +kernel)⟩
theorem mn_J0_checkIndex_df160 : MIn yJ0_checkIndex_df160 cJ0_checkIndex_df160 2 none 2 := ⟨List.mem_of_getElem? (i := 647) (by decide +kernel), List.mem_of_getElem? (i := 131) (by decide +kernel), by decide +kernel, by decide +kernel, by decide +kernel⟩
theorem ms_J0_checkIndex_df160 : MIs yJ0_checkIndex_df160 := List.mem_of_getElem? (i := 646) (by decide +kernel)
theorem mn_J3_checkIndex_8e157 : MIn yJ3_checkIndex_8e157 cJ3_checkIndex_8e157 3 (some .int) 3 := ⟨List.mem_of_getElem? (i := 652) (by decide +kernel), List.mem_of_getElem? (i := 133) (by decide +kernel), by decide +kernel, by decide +kernel, by decide +kernel⟩
theorem ms_J3_checkIndex_8e157 : MIs yJ3_checkIndex_8e157 := List.mem_of_getElem? (i := 651) (by decide +kernel)
theorem mn_J2_checkIndex_2214a : MIn yJ2_checkIndex_2214a cJ2_checkIndex_2214a 2 none 2 := ⟨List.mem_of_getElem? (i := 658) (by decide +kernel), List.mem_of_getElem? (i := 134) (by decide +kernel), by decide +kernel, by decide +kernel, by decide +kernel⟩
theorem ms_J2_checkIndex_2214a : MIs yJ2_checkIndex_2214a := List.mem_of_getElem? (i := 657) (by decide +kernel)
theorem mn_J2_length_9d52b : MIn yJ2_length_9d52b cJ2_length_9d52b 1 (some .int) 1 := ⟨List.mem_of_getElem? (i := 661) (by decide +kernel), List.mem_of_getElem? (i := 134) (by decide +kernel), by decide +kernel, by decide +kernel, by decide +kernel⟩
theorem ms_J2_length_9d52b : MIs yJ2_length_9d52b := List.mem_of_getElem? (i := 660) (by decide +kernel)
theorem mn_X7_kindOfWord : MIn yX7_kindOfWord cX7_kindOfWord 3 (some .int) 2 := ⟨List.mem_of_getElem? (i := 681) (by decide +kernel), List.mem_of_getElem? (i := 116) (by decide +kernel), by decide +kernel, by decide +kernel, by decide +kernel⟩
theorem mv_X7_kindOfWord : MIv yX7_kindOfWord := ⟨List.mem_of_getElem? (i := 680) (by decide +kernel), List.mem_of_getElem? (i := 10) (by decide +kernel)⟩
theorem mn_X7_numberOf : MIn yX7_numberOf cX7_numberOf 5 (some .int) 2 := ⟨List.mem_of_getElem? (i := 693) (by decide +kernel), List.mem_of_getElem? (i := 116) (by decide +kernel), by decide +kernel, by decide +kernel, by decide +kernel⟩
theorem mv_X7_numberOf : MIv yX7_numberOf := ⟨List.mem_of_getElem? (i := 692) (by decide +kernel), List.mem_of_getElem? (i := 11) (by decide +kernel)⟩
theorem mn_X7_add : MIn yX7_add cX7_add 4 none 3 := ⟨List.mem_of_getElem? (i := 697) (by decide +kernel), List.mem_of_getElem? (i := 116) (by decide +kernel), by decide +kernel, by decide +kernel, by decide +kernel⟩
theorem mv_X7_add : MIv yX7_add := ⟨List.mem_of_getElem? (i := 696) (by decide +kernel), List.mem_of_getElem? (i := 12) (by decide +kernel)⟩
theorem mn_X5_goTo : MIn yX5_goTo cX5_goTo 2 none 1 := ⟨List.mem_of_getElem? (i := 702) (by decide +kernel), List.mem_of_getElem? (i := 115) (by decide +kernel), by decide +kernel, by decide +kernel, by decide +kernel⟩
theorem mv_X5_goTo : MIv yX5_goTo := ⟨List.mem_of_getElem? (i := 701) (by decide +kernel), List.mem_of_getElem? (i := 13) (by decide +kernel)⟩
theorem mn_X5_readClause : MIn yX5_readClause cX5_readClause 2 (some .boolean) 1 := ⟨List.mem_of_getElem? (i := 707) (by decide +kernel), List.mem_of_getElem? (i := 115) (by decide +kernel), by decide +kernel, by decide +kernel, by decide +kernel⟩
theorem mv_X5_readClause : MIv yX5_readClause := ⟨List.mem_of_getElem? (i := 706) (by decide +kernel), List.mem_of_getElem? (i := 14) (by decide +kernel)⟩
theorem mn_X5_readHouses : MIn yX5_readHouses cX5_readHouses 1 (some .boolean) 0 := ⟨List.mem_of_getElem? (i := 711) (by decide +kernel), List.mem_of_getElem? (i := 115) (by decide +kernel), by decide +kernel, by decide +kernel, by decide +kernel⟩
theorem mv_X5_readHouses : MIv yX5_readHouses := ⟨List.mem_of_getElem? (i := 710) (by decide +kernel), List.mem_of_getElem? (i := 15) (by decide +kernel)⟩
theorem mn_X5_takeNumber : MIn yX5_takeNumber cX5_takeNumber 3 (some .boolean) 2 := ⟨List.mem_of_getElem? (i := 715) (by decide +kernel), List.mem_of_getElem? (i := 115) (by decide +kernel), by decide +kernel, by decide +kernel, by decide +kernel⟩
theorem mv_X5_takeNumber : MIv yX5_takeNumber := ⟨List.mem_of_getElem? (i := 714) (by decide +kernel), List.mem_of_getElem? (i := 16) (by decide +kernel)⟩
theorem mn_X5_refuse : MIn yX5_refuse cX5_refuse 2 (some .boolean) 1 := ⟨List.mem_of_getElem? (i := 719) (by decide +kernel), List.mem_of_getElem? (i := 115) (by decide +kernel), by decide +kernel, by decide +kernel, by decide +kernel⟩
theorem mv_X5_refuse : MIv yX5_refuse := ⟨List.mem_of_getElem? (i := 718) (by decide +kernel), List.mem_of_getElem? (i := 17) (by decide +kernel)⟩
theorem mn_X5_readPerson : MIn yX5_readPerson cX5_readPerson 3 (some .boolean) 0 := ⟨List.mem_of_getElem? (i := 723) (by decide +kernel), List.mem_of_getElem? (i := 115) (by decide +kernel), by decide +kernel, by decide +kernel, by decide +kernel⟩
theorem mv_X5_readPerson : MIv yX5_readPerson := ⟨List.mem_of_getElem? (i := 722) (by decide +kernel), List.mem_of_getElem? (i := 18) (by decide +kernel)⟩
theorem mn_X5_takeHouse : MIn yX5_takeHouse cX5_takeHouse 2 (some .boolean) 1 := ⟨List.mem_of_getElem? (i := 727) (by decide +kernel), List.mem_of_getElem? (i := 115) (by decide +kernel), by decide +kernel, by decide +kernel, by decide +kernel⟩
theorem mv_X5_takeHouse : MIv yX5_takeHouse := ⟨List.mem_of_getElem? (i := 726) (by decide +kernel), List.mem_of_getElem? (i := 19) (by decide +kernel)⟩
theorem mn_X5_readWalk : MIn yX5_readWalk cX5_readWalk 3 (some .boolean) 0 := ⟨List.mem_of_getElem? (i := 732) (by decide +kernel), List.mem_of_getElem? (i := 115) (by decide +kernel), by decide +kernel, by decide +kernel, by decide +kernel⟩
theorem mv_X5_readWalk : MIv yX5_readWalk := ⟨List.mem_of_getElem? (i := 731) (by decide +kernel), List.mem_of_getElem? (i := 20) (by decide +kernel)⟩
theorem mn_X0_setWalk : MIn yX0_setWalk cX0_setWalk 4 none 3 := ⟨List.mem_of_getElem? (i := 736) (by decide +kernel), List.mem_of_getElem? (i := 117) (by decide +kernel), by decide +kernel, by decide +kernel, by decide +kernel⟩
theorem mv_X0_setWalk : MIv yX0_setWalk := ⟨List.mem_of_getElem? (i := 735) (by decide +kernel), List.mem_of_getElem? (i := 21) (by decide +kernel)⟩
theorem mn_X5_beginRule : MIn yX5_beginRule cX5_beginRule 1 (some .boolean) 0 := ⟨List.mem_of_getElem? (i := 741) (by decide +kernel), List.mem_of_getElem? (i := 115) (by decide +kernel), by decide +kernel, by decide +kernel, by decide +kernel⟩
theorem mv_X5_beginRule : MIv yX5_beginRule := ⟨List.mem_of_getElem? (i := 740) (by decide +kernel), List.mem_of_getElem? (i := 22) (by decide +kernel)⟩
theorem mn_X5_readLevel : MIn yX5_readLevel cX5_readLevel 5 (some .boolean) 2 := ⟨List.mem_of_getElem? (i := 745) (by decide +kernel), List.mem_of_getElem? (i := 115) (by decide +kernel), by decide +kernel, by decide +kernel, by decide +kernel⟩
theorem mv_X5_readLevel : MIv yX5_readLevel := ⟨List.mem_of_getElem? (i := 744) (by decide +kernel), List.mem_of_getElem? (i := 23) (by decide +kernel)⟩
theorem mn_X5_readPart : MIn yX5_readPart cX5_readPart 3 (some .boolean) 1 := ⟨List.mem_of_getElem? (i := 749) (by decide +kernel), List.mem_of_getElem? (i := 115) (by decide +kernel), by decide +kernel, by decide +kernel, by decide +kernel⟩
theorem mv_X5_readPart : MIv yX5_readPart := ⟨List.mem_of_getElem? (i := 748) (by decide +kernel), List.mem_of_getElem? (i := 24) (by decide +kernel)⟩
theorem mn_X0_addCode : MIn yX0_addCode cX0_addCode 2 none 1 := ⟨List.mem_of_getElem? (i := 753) (by decide +kernel), List.mem_of_getElem? (i := 117) (by decide +kernel), by decide +kernel, by decide +kernel, by decide +kernel⟩
theorem mv_X0_addCode : MIv yX0_addCode := ⟨List.mem_of_getElem? (i := 752) (by decide +kernel), List.mem_of_getElem? (i := 25) (by decide +kernel)⟩
theorem mn_X5_isWord : MIn yX5_isWord cX5_isWord 1 (some .boolean) 0 := ⟨List.mem_of_getElem? (i := 757) (by decide +kernel), List.mem_of_getElem? (i := 115) (by decide +kernel), by decide +kernel, by decide +kernel, by decide +kernel⟩
theorem mv_X5_isWord : MIv yX5_isWord := ⟨List.mem_of_getElem? (i := 756) (by decide +kernel), List.mem_of_getElem? (i := 26) (by decide +kernel)⟩
theorem mn_X5_take : MIn yX5_take cX5_take 2 (some .boolean) 1 := ⟨List.mem_of_getElem? (i := 761) (by decide +kernel), List.mem_of_getElem? (i := 115) (by decide +kernel), by decide +kernel, by decide +kernel, by decide +kernel⟩
theorem mv_X5_take : MIv yX5_take := ⟨List.mem_of_getElem? (i := 760) (by decide +kernel), List.mem_of_getElem? (i := 27) (by decide +kernel)⟩
theorem mn_X5_readTest : MIn yX5_readTest cX5_readTest 4 (some .boolean) 1 := ⟨List.mem_of_getElem? (i := 765) (by decide +kernel), List.mem_of_getElem? (i := 115) (by decide +kernel), by decide +kernel, by decide +kernel, by decide +kernel⟩
theorem mv_X5_readTest : MIv yX5_readTest := ⟨List.mem_of_getElem? (i := 764) (by decide +kernel), List.mem_of_getElem? (i := 28) (by decide +kernel)⟩
theorem mn_X5_joins : MIn yX5_joins cX5_joins 2 (some .boolean) 1 := ⟨List.mem_of_getElem? (i := 769) (by decide +kernel), List.mem_of_getElem? (i := 115) (by decide +kernel), by decide +kernel, by decide +kernel, by decide +kernel⟩
theorem mv_X5_joins : MIv yX5_joins := ⟨List.mem_of_getElem? (i := 768) (by decide +kernel), List.mem_of_getElem? (i := 29) (by decide +kernel)⟩
theorem mn_X5_beginAsk : MIn yX5_beginAsk cX5_beginAsk 1 (some .boolean) 0 := ⟨List.mem_of_getElem? (i := 773) (by decide +kernel), List.mem_of_getElem? (i := 115) (by decide +kernel), by decide +kernel, by decide +kernel, by decide +kernel⟩
theorem mv_X5_beginAsk : MIv yX5_beginAsk := ⟨List.mem_of_getElem? (i := 772) (by decide +kernel), List.mem_of_getElem? (i := 30) (by decide +kernel)⟩
theorem mn_X5_place : MIn yX5_place cX5_place 1 (some .int) 0 := ⟨List.mem_of_getElem? (i := 777) (by decide +kernel), List.mem_of_getElem? (i := 115) (by decide +kernel), by decide +kernel, by decide +kernel, by decide +kernel⟩
theorem mv_X5_place : MIv yX5_place := ⟨List.mem_of_getElem? (i := 776) (by decide +kernel), List.mem_of_getElem? (i := 31) (by decide +kernel)⟩
theorem mn_X6_countRefused : MIn yX6_countRefused cX6_countRefused 2 none 1 := ⟨List.mem_of_getElem? (i := 781) (by decide +kernel), List.mem_of_getElem? (i := 119) (by decide +kernel), by decide +kernel, by decide +kernel, by decide +kernel⟩
theorem mv_X6_countRefused : MIv yX6_countRefused := ⟨List.mem_of_getElem? (i := 780) (by decide +kernel), List.mem_of_getElem? (i := 32) (by decide +kernel)⟩
theorem mn_X6_startAnew : MIn yX6_startAnew cX6_startAnew 2 none 1 := ⟨List.mem_of_getElem? (i := 787) (by decide +kernel), List.mem_of_getElem? (i := 119) (by decide +kernel), by decide +kernel, by decide +kernel, by decide +kernel⟩
theorem mv_X6_startAnew : MIv yX6_startAnew := ⟨List.mem_of_getElem? (i := 786) (by decide +kernel), List.mem_of_getElem? (i := 33) (by decide +kernel)⟩
theorem mn_X10_count : MIn yX10_count cX10_count 2 (some .int) 1 := ⟨List.mem_of_getElem? (i := 795) (by decide +kernel), List.mem_of_getElem? (i := 114) (by decide +kernel), by decide +kernel, by decide +kernel, by decide +kernel⟩
theorem mv_X10_count : MIv yX10_count := ⟨List.mem_of_getElem? (i := 793) (by decide +kernel), List.mem_of_getElem? (i := 794) (by decide +kernel)⟩
theorem mn_X6_nowHour : MIn yX6_nowHour cX6_nowHour 1 (some .int) 0 := ⟨List.mem_of_getElem? (i := 799) (by decide +kernel), List.mem_of_getElem? (i := 119) (by decide +kernel), by decide +kernel, by decide +kernel, by decide +kernel⟩
theorem mv_X6_nowHour : MIv yX6_nowHour := ⟨List.mem_of_getElem? (i := 798) (by decide +kernel), List.mem_of_getElem? (i := 34) (by decide +kernel)⟩
theorem mn_X6_tearsNumber : MIn yX6_tearsNumber cX6_tearsNumber 3 (some .int) 2 := ⟨List.mem_of_getElem? (i := 803) (by decide +kernel), List.mem_of_getElem? (i := 119) (by decide +kernel), by decide +kernel, by decide +kernel, by decide +kernel⟩
theorem mv_X6_tearsNumber : MIv yX6_tearsNumber := ⟨List.mem_of_getElem? (i := 802) (by decide +kernel), List.mem_of_getElem? (i := 35) (by decide +kernel)⟩
theorem mn_X10_needWhat : MIn yX10_needWhat cX10_needWhat 2 none 2 := ⟨List.mem_of_getElem? (i := 806) (by decide +kernel), List.mem_of_getElem? (i := 114) (by decide +kernel), by decide +kernel, by decide +kernel, by decide +kernel⟩
theorem ms_X10_needWhat : MIs yX10_needWhat := List.mem_of_getElem? (i := 805) (by decide +kernel)
theorem mn_X10_person : MIn yX10_person cX10_person 3 (some .int) 2 := ⟨List.mem_of_getElem? (i := 830) (by decide +kernel), List.mem_of_getElem? (i := 114) (by decide +kernel), by decide +kernel, by decide +kernel, by decide +kernel⟩
theorem mv_X10_person : MIv yX10_person := ⟨List.mem_of_getElem? (i := 828) (by decide +kernel), List.mem_of_getElem? (i := 829) (by decide +kernel)⟩
theorem mn_X10_needPerson : MIn yX10_needPerson cX10_needPerson 2 none 1 := ⟨List.mem_of_getElem? (i := 834) (by decide +kernel), List.mem_of_getElem? (i := 114) (by decide +kernel), by decide +kernel, by decide +kernel, by decide +kernel⟩
theorem mv_X10_needPerson : MIv yX10_needPerson := ⟨List.mem_of_getElem? (i := 833) (by decide +kernel), List.mem_of_getElem? (i := 36) (by decide +kernel)⟩
theorem mn_X10_walk : MIn yX10_walk cX10_walk 3 (some .int) 2 := ⟨List.mem_of_getElem? (i := 842) (by decide +kernel), List.mem_of_getElem? (i := 114) (by decide +kernel), by decide +kernel, by decide +kernel, by decide +kernel⟩
theorem mv_X10_walk : MIv yX10_walk := ⟨List.mem_of_getElem? (i := 840) (by decide +kernel), List.mem_of_getElem? (i := 841) (by decide +kernel)⟩
theorem mn_X10_needHouse : MIn yX10_needHouse cX10_needHouse 2 none 1 := ⟨List.mem_of_getElem? (i := 846) (by decide +kernel), List.mem_of_getElem? (i := 114) (by decide +kernel), by decide +kernel, by decide +kernel, by decide +kernel⟩
theorem mv_X10_needHouse : MIv yX10_needHouse := ⟨List.mem_of_getElem? (i := 845) (by decide +kernel), List.mem_of_getElem? (i := 37) (by decide +kernel)⟩
theorem mn_X0_walkBetween : MIn yX0_walkBetween cX0_walkBetween 3 (some .int) 2 := ⟨List.mem_of_getElem? (i := 851) (by decide +kernel), List.mem_of_getElem? (i := 117) (by decide +kernel), by decide +kernel, by decide +kernel, by decide +kernel⟩
theorem mv_X0_walkBetween : MIv yX0_walkBetween := ⟨List.mem_of_getElem? (i := 850) (by decide +kernel), List.mem_of_getElem? (i := 38) (by decide +kernel)⟩
theorem mn_X10_move : MIn yX10_move cX10_move 3 none 2 := ⟨List.mem_of_getElem? (i := 859) (by decide +kernel), List.mem_of_getElem? (i := 114) (by decide +kernel), by decide +kernel, by decide +kernel, by decide +kernel⟩
theorem mv_X10_move : MIv yX10_move := ⟨List.mem_of_getElem? (i := 857) (by decide +kernel), List.mem_of_getElem? (i := 858) (by decide +kernel)⟩
theorem mn_X10_weep : MIn yX10_weep cX10_weep 6 (some .int) 3 := ⟨List.mem_of_getElem? (i := 867) (by decide +kernel), List.mem_of_getElem? (i := 114) (by decide +kernel), by decide +kernel, by decide +kernel, by decide +kernel⟩
theorem mv_X10_weep : MIv yX10_weep := ⟨List.mem_of_getElem? (i := 865) (by decide +kernel), List.mem_of_getElem? (i := 866) (by decide +kernel)⟩
theorem mn_X6_tearsOn : MIn yX6_tearsOn cX6_tearsOn 5 (some .int) 2 := ⟨List.mem_of_getElem? (i := 871) (by decide +kernel), List.mem_of_getElem? (i := 119) (by decide +kernel), by decide +kernel, by decide +kernel, by decide +kernel⟩
theorem mv_X6_tearsOn : MIv yX6_tearsOn := ⟨List.mem_of_getElem? (i := 870) (by decide +kernel), List.mem_of_getElem? (i := 39) (by decide +kernel)⟩
theorem mn_X6_dayOf : MIn yX6_dayOf cX6_dayOf 2 (some .int) 1 := ⟨List.mem_of_getElem? (i := 875) (by decide +kernel), List.mem_of_getElem? (i := 119) (by decide +kernel), by decide +kernel, by decide +kernel, by decide +kernel⟩
theorem mv_X6_dayOf : MIv yX6_dayOf := ⟨List.mem_of_getElem? (i := 874) (by decide +kernel), List.mem_of_getElem? (i := 40) (by decide +kernel)⟩
theorem mn_X10_setValues : MIn yX10_setValues cX10_setValues 7 none 6 := ⟨List.mem_of_getElem? (i := 879) (by decide +kernel), List.mem_of_getElem? (i := 114) (by decide +kernel), by decide +kernel, by decide +kernel, by decide +kernel⟩
theorem mv_X10_setValues : MIv yX10_setValues := ⟨List.mem_of_getElem? (i := 878) (by decide +kernel), List.mem_of_getElem? (i := 41) (by decide +kernel)⟩
theorem mn_X0_rulesHold : MIn yX0_rulesHold cX0_rulesHold 3 (some .boolean) 1 := ⟨List.mem_of_getElem? (i := 883) (by decide +kernel), List.mem_of_getElem? (i := 117) (by decide +kernel), by decide +kernel, by decide +kernel, by decide +kernel⟩
theorem mv_X0_rulesHold : MIv yX0_rulesHold := ⟨List.mem_of_getElem? (i := 882) (by decide +kernel), List.mem_of_getElem? (i := 42) (by decide +kernel)⟩
theorem mn_X0_exprValue : MIn yX0_exprValue cX0_exprValue 6 (some .int) 2 := ⟨List.mem_of_getElem? (i := 887) (by decide +kernel), List.mem_of_getElem? (i := 117) (by decide +kernel), by decide +kernel, by decide +kernel, by decide +kernel⟩
theorem mv_X0_exprValue : MIv yX0_exprValue := ⟨List.mem_of_getElem? (i := 886) (by decide +kernel), List.mem_of_getElem? (i := 43) (by decide +kernel)⟩
theorem mn_X0_join : MIn yX0_join cX0_join 3 (some .int) 3 := ⟨List.mem_of_getElem? (i := 890) (by decide +kernel), List.mem_of_getElem? (i := 117) (by decide +kernel), by decide +kernel, by decide +kernel, by decide +kernel⟩
theorem ms_X0_join : MIs yX0_join := List.mem_of_getElem? (i := 889) (by decide +kernel)
theorem mn_X6_tell : MIn yX6_tell cX6_tell 5 none 3 := ⟨List.mem_of_getElem? (i := 894) (by decide +kernel), List.mem_of_getElem? (i := 119) (by decide +kernel), by decide +kernel, by decide +kernel, by decide +kernel⟩
theorem mv_X6_tell : MIv yX6_tell := ⟨List.mem_of_getElem? (i := 893) (by decide +kernel), List.mem_of_getElem? (i := 44) (by decide +kernel)⟩
theorem mn_X10_tears : MIn yX10_tears cX10_tears 3 (some .int) 2 := ⟨List.mem_of_getElem? (i := 901) (by decide +kernel), List.mem_of_getElem? (i := 114) (by decide +kernel), by decide +kernel, by decide +kernel, by decide +kernel⟩
theorem mv_X10_tears : MIv yX10_tears := ⟨List.mem_of_getElem? (i := 899) (by decide +kernel), List.mem_of_getElem? (i := 900) (by decide +kernel)⟩
theorem mn_X10_name : MIn yX10_name cX10_name 3 (some .int) 2 := ⟨List.mem_of_getElem? (i := 910) (by decide +kernel), List.mem_of_getElem? (i := 114) (by decide +kernel), by decide +kernel, by decide +kernel, by decide +kernel⟩
theorem mv_X10_name : MIv yX10_name := ⟨List.mem_of_getElem? (i := 908) (by decide +kernel), List.mem_of_getElem? (i := 909) (by decide +kernel)⟩
theorem mn_X10_needHour : MIn yX10_needHour cX10_needHour 1 none 1 := ⟨List.mem_of_getElem? (i := 913) (by decide +kernel), List.mem_of_getElem? (i := 114) (by decide +kernel), by decide +kernel, by decide +kernel, by decide +kernel⟩
theorem ms_X10_needHour : MIs yX10_needHour := List.mem_of_getElem? (i := 912) (by decide +kernel)
theorem mn_X2_callAt : MIn yX2_callAt cX2_callAt 3 none 2 := ⟨List.mem_of_getElem? (i := 918) (by decide +kernel), List.mem_of_getElem? (i := 120) (by decide +kernel), by decide +kernel, by decide +kernel, by decide +kernel⟩
theorem mv_X2_callAt : MIv yX2_callAt := ⟨List.mem_of_getElem? (i := 917) (by decide +kernel), List.mem_of_getElem? (i := 45) (by decide +kernel)⟩
theorem mn_X2_callOn : MIn yX2_callOn cX2_callOn 3 none 2 := ⟨List.mem_of_getElem? (i := 923) (by decide +kernel), List.mem_of_getElem? (i := 120) (by decide +kernel), by decide +kernel, by decide +kernel, by decide +kernel⟩
theorem mv_X2_callOn : MIv yX2_callOn := ⟨List.mem_of_getElem? (i := 922) (by decide +kernel), List.mem_of_getElem? (i := 46) (by decide +kernel)⟩
theorem mn_X2_nameOf : MIn yX2_nameOf cX2_nameOf 4 (some .int) 2 := ⟨List.mem_of_getElem? (i := 929) (by decide +kernel), List.mem_of_getElem? (i := 120) (by decide +kernel), by decide +kernel, by decide +kernel, by decide +kernel⟩
theorem mv_X2_nameOf : MIv yX2_nameOf := ⟨List.mem_of_getElem? (i := 928) (by decide +kernel), List.mem_of_getElem? (i := 47) (by decide +kernel)⟩
theorem mn_X10_houses : MIn yX10_houses cX10_houses 3 (some .int) 2 := ⟨List.mem_of_getElem? (i := 937) (by decide +kernel), List.mem_of_getElem? (i := 114) (by decide +kernel), by decide +kernel, by decide +kernel, by decide +kernel⟩
theorem mv_X10_houses : MIv yX10_houses := ⟨List.mem_of_getElem? (i := 935) (by decide +kernel), List.mem_of_getElem? (i := 936) (by decide +kernel)⟩
theorem mn_X2_housesOf : MIn yX2_housesOf cX2_housesOf 5 (some .int) 2 := ⟨List.mem_of_getElem? (i := 941) (by decide +kernel), List.mem_of_getElem? (i := 120) (by decide +kernel), by decide +kernel, by decide +kernel, by decide +kernel⟩
theorem mv_X2_housesOf : MIv yX2_housesOf := ⟨List.mem_of_getElem? (i := 940) (by decide +kernel), List.mem_of_getElem? (i := 48) (by decide +kernel)⟩
theorem mn_X10_letter : MIn yX10_letter cX10_letter 3 (some .int) 2 := ⟨List.mem_of_getElem? (i := 949) (by decide +kernel), List.mem_of_getElem? (i := 114) (by decide +kernel), by decide +kernel, by decide +kernel, by decide +kernel⟩
theorem mv_X10_letter : MIv yX10_letter := ⟨List.mem_of_getElem? (i := 947) (by decide +kernel), List.mem_of_getElem? (i := 948) (by decide +kernel)⟩
theorem mn_X6_writeLetter : MIn yX6_writeLetter cX6_writeLetter 3 none 2 := ⟨List.mem_of_getElem? (i := 953) (by decide +kernel), List.mem_of_getElem? (i := 119) (by decide +kernel), by decide +kernel, by decide +kernel, by decide +kernel⟩
theorem mv_X6_writeLetter : MIv yX6_writeLetter := ⟨List.mem_of_getElem? (i := 952) (by decide +kernel), List.mem_of_getElem? (i := 49) (by decide +kernel)⟩
theorem mn_X10_post : MIn yX10_post cX10_post 3 (some .int) 2 := ⟨List.mem_of_getElem? (i := 960) (by decide +kernel), List.mem_of_getElem? (i := 114) (by decide +kernel), by decide +kernel, by decide +kernel, by decide +kernel⟩
theorem mv_X10_post : MIv yX10_post := ⟨List.mem_of_getElem? (i := 958) (by decide +kernel), List.mem_of_getElem? (i := 959) (by decide +kernel)⟩
theorem mn_X9_follow : MIn yX9_follow cX9_follow 11 none 3 := ⟨List.mem_of_getElem? (i := 965) (by decide +kernel), List.mem_of_getElem? (i := 121) (by decide +kernel), by decide +kernel, by decide +kernel, by decide +kernel⟩
theorem mv_X9_follow : MIv yX9_follow := ⟨List.mem_of_getElem? (i := 964) (by decide +kernel), List.mem_of_getElem? (i := 50) (by decide +kernel)⟩
theorem mn_X9_meantBy : MIn yX9_meantBy cX9_meantBy 1 (some .int) 1 := ⟨List.mem_of_getElem? (i := 971) (by decide +kernel), List.mem_of_getElem? (i := 121) (by decide +kernel), by decide +kernel, by decide +kernel, by decide +kernel⟩
theorem ms_X9_meantBy : MIs yX9_meantBy := List.mem_of_getElem? (i := 970) (by decide +kernel)
theorem mn_J6_bitCount_0f7a4 : MIn yJ6_bitCount_0f7a4 cJ6_bitCount_0f7a4 1 (some .int) 1 := ⟨List.mem_of_getElem? (i := 974) (by decide +kernel), List.mem_of_getElem? (i := 138) (by decide +kernel), by decide +kernel, by decide +kernel, by decide +kernel⟩
theorem ms_J6_bitCount_0f7a4 : MIs yJ6_bitCount_0f7a4 := List.mem_of_getElem? (i := 973) (by decide +kernel)
theorem mn_X2_leastOf : MIn yX2_leastOf cX2_leastOf 2 (some .int) 1 := ⟨List.mem_of_getElem? (i := 980) (by decide +kernel), List.mem_of_getElem? (i := 120) (by decide +kernel), by decide +kernel, by decide +kernel, by decide +kernel⟩
theorem ms_X2_leastOf : MIs yX2_leastOf := List.mem_of_getElem? (i := 979) (by decide +kernel)
theorem mn_X10_round : MIn yX10_round cX10_round 4 (some .int) 1 := ⟨List.mem_of_getElem? (i := 988) (by decide +kernel), List.mem_of_getElem? (i := 114) (by decide +kernel), by decide +kernel, by decide +kernel, by decide +kernel⟩
theorem mv_X10_round : MIv yX10_round := ⟨List.mem_of_getElem? (i := 986) (by decide +kernel), List.mem_of_getElem? (i := 987) (by decide +kernel)⟩
theorem mn_X8_plan : MIn yX8_plan cX8_plan 5 (some .int) 2 := ⟨List.mem_of_getElem? (i := 993) (by decide +kernel), List.mem_of_getElem? (i := 122) (by decide +kernel), by decide +kernel, by decide +kernel, by decide +kernel⟩
theorem mv_X8_plan : MIv yX8_plan := ⟨List.mem_of_getElem? (i := 992) (by decide +kernel), List.mem_of_getElem? (i := 51) (by decide +kernel)⟩
theorem mn_X8_leastFrom : MIn yX8_leastFrom cX8_leastFrom 6 (some .int) 3 := ⟨List.mem_of_getElem? (i := 998) (by decide +kernel), List.mem_of_getElem? (i := 122) (by decide +kernel), by decide +kernel, by decide +kernel, by decide +kernel⟩
theorem mv_X8_leastFrom : MIv yX8_leastFrom := ⟨List.mem_of_getElem? (i := 997) (by decide +kernel), List.mem_of_getElem? (i := 52) (by decide +kernel)⟩
theorem mn_X8_leastBy : MIn yX8_leastBy cX8_leastBy 6 (some .int) 4 := ⟨List.mem_of_getElem? (i := 1005) (by decide +kernel), List.mem_of_getElem? (i := 122) (by decide +kernel), by decide +kernel, by decide +kernel, by decide +kernel⟩
theorem mv_X8_leastBy : MIv yX8_leastBy := ⟨List.mem_of_getElem? (i := 1004) (by decide +kernel), List.mem_of_getElem? (i := 53) (by decide +kernel)⟩
theorem mn_X8_trace : MIn yX8_trace cX8_trace 6 none 1 := ⟨List.mem_of_getElem? (i := 1010) (by decide +kernel), List.mem_of_getElem? (i := 122) (by decide +kernel), by decide +kernel, by decide +kernel, by decide +kernel⟩
theorem mv_X8_trace : MIv yX8_trace := ⟨List.mem_of_getElem? (i := 1009) (by decide +kernel), List.mem_of_getElem? (i := 54) (by decide +kernel)⟩
theorem mn_X8_isBest : MIn yX8_isBest cX8_isBest 5 (some .boolean) 4 := ⟨List.mem_of_getElem? (i := 1014) (by decide +kernel), List.mem_of_getElem? (i := 122) (by decide +kernel), by decide +kernel, by decide +kernel, by decide +kernel⟩
theorem mv_X8_isBest : MIv yX8_isBest := ⟨List.mem_of_getElem? (i := 1013) (by decide +kernel), List.mem_of_getElem? (i := 55) (by decide +kernel)⟩
theorem mn_X10_rounded : MIn yX10_rounded cX10_rounded 2 (some .int) 1 := ⟨List.mem_of_getElem? (i := 1021) (by decide +kernel), List.mem_of_getElem? (i := 114) (by decide +kernel), by decide +kernel, by decide +kernel, by decide +kernel⟩
theorem mv_X10_rounded : MIv yX10_rounded := ⟨List.mem_of_getElem? (i := 1019) (by decide +kernel), List.mem_of_getElem? (i := 1020) (by decide +kernel)⟩
theorem mn_X10_holds : MIn yX10_holds cX10_holds 3 (some .boolean) 2 := ⟨List.mem_of_getElem? (i := 1029) (by decide +kernel), List.mem_of_getElem? (i := 114) (by decide +kernel), by decide +kernel, by decide +kernel, by decide +kernel⟩
theorem mv_X10_holds : MIv yX10_holds := ⟨List.mem_of_getElem? (i := 1027) (by decide +kernel), List.mem_of_getElem? (i := 1028) (by decide +kernel)⟩
theorem mn_X10_holdsNow : MIn yX10_holdsNow cX10_holdsNow 5 (some .boolean) 2 := ⟨List.mem_of_getElem? (i := 1034) (by decide +kernel), List.mem_of_getElem? (i := 114) (by decide +kernel), by decide +kernel, by decide +kernel, by decide +kernel⟩
theorem mv_X10_holdsNow : MIv yX10_holdsNow := ⟨List.mem_of_getElem? (i := 1033) (by decide +kernel), List.mem_of_getElem? (i := 56) (by decide +kernel)⟩
theorem mn_X0_askHolds : MIn yX0_askHolds cX0_askHolds 3 (some .boolean) 2 := ⟨List.mem_of_getElem? (i := 1038) (by decide +kernel), List.mem_of_getElem? (i := 117) (by decide +kernel), by decide +kernel, by decide +kernel, by decide +kernel⟩
theorem mv_X0_askHolds : MIv yX0_askHolds := ⟨List.mem_of_getElem? (i := 1037) (by decide +kernel), List.mem_of_getElem? (i := 57) (by decide +kernel)⟩
theorem mn_X10_stranger : MIn yX10_stranger cX10_stranger 4 (some .int) 2 := ⟨List.mem_of_getElem? (i := 1045) (by decide +kernel), List.mem_of_getElem? (i := 114) (by decide +kernel), by decide +kernel, by decide +kernel, by decide +kernel⟩
theorem mv_X10_stranger : MIv yX10_stranger := ⟨List.mem_of_getElem? (i := 1043) (by decide +kernel), List.mem_of_getElem? (i := 1044) (by decide +kernel)⟩
theorem mn_X10_housesOfAsk : MIn yX10_housesOfAsk cX10_housesOfAsk 5 (some .int) 2 := ⟨List.mem_of_getElem? (i := 1050) (by decide +kernel), List.mem_of_getElem? (i := 114) (by decide +kernel), by decide +kernel, by decide +kernel, by decide +kernel⟩
theorem mv_X10_housesOfAsk : MIv yX10_housesOfAsk := ⟨List.mem_of_getElem? (i := 1049) (by decide +kernel), List.mem_of_getElem? (i := 58) (by decide +kernel)⟩
theorem mn_X1_fewestOf : MIn yX1_fewestOf cX1_fewestOf 4 (some .int) 2 := ⟨List.mem_of_getElem? (i := 1054) (by decide +kernel), List.mem_of_getElem? (i := 123) (by decide +kernel), by decide +kernel, by decide +kernel, by decide +kernel⟩
theorem mv_X1_fewestOf : MIv yX1_fewestOf := ⟨List.mem_of_getElem? (i := 1053) (by decide +kernel), List.mem_of_getElem? (i := 59) (by decide +kernel)⟩
theorem mn_X1_fewestAmong : MIn yX1_fewestAmong cX1_fewestAmong 5 (some .int) 2 := ⟨List.mem_of_getElem? (i := 1058) (by decide +kernel), List.mem_of_getElem? (i := 123) (by decide +kernel), by decide +kernel, by decide +kernel, by decide +kernel⟩
theorem mv_X1_fewestAmong : MIv yX1_fewestAmong := ⟨List.mem_of_getElem? (i := 1057) (by decide +kernel), List.mem_of_getElem? (i := 60) (by decide +kernel)⟩
theorem mn_X1_fewestBy : MIn yX1_fewestBy cX1_fewestBy 5 (some .int) 2 := ⟨List.mem_of_getElem? (i := 1063) (by decide +kernel), List.mem_of_getElem? (i := 123) (by decide +kernel), by decide +kernel, by decide +kernel, by decide +kernel⟩
theorem mv_X1_fewestBy : MIv yX1_fewestBy := ⟨List.mem_of_getElem? (i := 1062) (by decide +kernel), List.mem_of_getElem? (i := 61) (by decide +kernel)⟩
theorem mn_J9_max_7cf53 : MIn yJ9_max_7cf53 cJ9_max_7cf53 2 (some .int) 2 := ⟨List.mem_of_getElem? (i := 1067) (by decide +kernel), List.mem_of_getElem? (i := 135) (by decide +kernel), by decide +kernel, by decide +kernel, by decide +kernel⟩
theorem ms_J9_max_7cf53 : MIs yJ9_max_7cf53 := List.mem_of_getElem? (i := 1066) (by decide +kernel)
theorem mn_X1_firstOf : MIn yX1_firstOf cX1_firstOf 4 (some .int) 2 := ⟨List.mem_of_getElem? (i := 1073) (by decide +kernel), List.mem_of_getElem? (i := 123) (by decide +kernel), by decide +kernel, by decide +kernel, by decide +kernel⟩
theorem mv_X1_firstOf : MIv yX1_firstOf := ⟨List.mem_of_getElem? (i := 1072) (by decide +kernel), List.mem_of_getElem? (i := 62) (by decide +kernel)⟩
theorem mn_X10_write : MIn yX10_write cX10_write 2 (some .int) 1 := ⟨List.mem_of_getElem? (i := 1080) (by decide +kernel), List.mem_of_getElem? (i := 114) (by decide +kernel), by decide +kernel, by decide +kernel, by decide +kernel⟩
theorem mv_X10_write : MIv yX10_write := ⟨List.mem_of_getElem? (i := 1078) (by decide +kernel), List.mem_of_getElem? (i := 1079) (by decide +kernel)⟩
theorem mn_X10_register : MIn yX10_register cX10_register 3 (some .int) 2 := ⟨List.mem_of_getElem? (i := 1087) (by decide +kernel), List.mem_of_getElem? (i := 114) (by decide +kernel), by decide +kernel, by decide +kernel, by decide +kernel⟩
theorem mv_X10_register : MIv yX10_register := ⟨List.mem_of_getElem? (i := 1085) (by decide +kernel), List.mem_of_getElem? (i := 1086) (by decide +kernel)⟩
theorem mn_X3_compare : MIn yX3_compare cX3_compare 4 none 2 := ⟨List.mem_of_getElem? (i := 1091) (by decide +kernel), List.mem_of_getElem? (i := 124) (by decide +kernel), by decide +kernel, by decide +kernel, by decide +kernel⟩
theorem mv_X3_compare : MIv yX3_compare := ⟨List.mem_of_getElem? (i := 1090) (by decide +kernel), List.mem_of_getElem? (i := 63) (by decide +kernel)⟩
theorem mn_X3_addTrueOne : MIn yX3_addTrueOne cX3_addTrueOne 8 none 2 := ⟨List.mem_of_getElem? (i := 1098) (by decide +kernel), List.mem_of_getElem? (i := 124) (by decide +kernel), by decide +kernel, by decide +kernel, by decide +kernel⟩
theorem mv_X3_addTrueOne : MIv yX3_addTrueOne := ⟨List.mem_of_getElem? (i := 1097) (by decide +kernel), List.mem_of_getElem? (i := 64) (by decide +kernel)⟩
theorem mn_X10_will : MIn yX10_will cX10_will 9 (some .int) 5 := ⟨List.mem_of_getElem? (i := 1107) (by decide +kernel), List.mem_of_getElem? (i := 114) (by decide +kernel), by decide +kernel, by decide +kernel, by decide +kernel⟩
theorem mv_X10_will : MIv yX10_will := ⟨List.mem_of_getElem? (i := 1105) (by decide +kernel), List.mem_of_getElem? (i := 1106) (by decide +kernel)⟩
theorem mn_X6_hoursCalled : MIn yX6_hoursCalled cX6_hoursCalled 11 (some .int) 4 := ⟨List.mem_of_getElem? (i := 1112) (by decide +kernel), List.mem_of_getElem? (i := 119) (by decide +kernel), by decide +kernel, by decide +kernel, by decide +kernel⟩
theorem mv_X6_hoursCalled : MIv yX6_hoursCalled := ⟨List.mem_of_getElem? (i := 1111) (by decide +kernel), List.mem_of_getElem? (i := 65) (by decide +kernel)⟩
theorem mn_X10_last : MIn yX10_last cX10_last 2 (some .int) 1 := ⟨List.mem_of_getElem? (i := 1120) (by decide +kernel), List.mem_of_getElem? (i := 114) (by decide +kernel), by decide +kernel, by decide +kernel, by decide +kernel⟩
theorem mv_X10_last : MIv yX10_last := ⟨List.mem_of_getElem? (i := 1118) (by decide +kernel), List.mem_of_getElem? (i := 1119) (by decide +kernel)⟩
theorem mn_X4_lastOf : MIn yX4_lastOf cX4_lastOf 7 (some .int) 3 := ⟨List.mem_of_getElem? (i := 1124) (by decide +kernel), List.mem_of_getElem? (i := 125) (by decide +kernel), by decide +kernel, by decide +kernel, by decide +kernel⟩
theorem mv_X4_lastOf : MIv yX4_lastOf := ⟨List.mem_of_getElem? (i := 1123) (by decide +kernel), List.mem_of_getElem? (i := 66) (by decide +kernel)⟩
theorem mn_X4_addOther : MIn yX4_addOther cX4_addOther 6 none 2 := ⟨List.mem_of_getElem? (i := 1132) (by decide +kernel), List.mem_of_getElem? (i := 125) (by decide +kernel), by decide +kernel, by decide +kernel, by decide +kernel⟩
theorem mv_X4_addOther : MIv yX4_addOther := ⟨List.mem_of_getElem? (i := 1131) (by decide +kernel), List.mem_of_getElem? (i := 67) (by decide +kernel)⟩
theorem mn_X10_nobody : MIn yX10_nobody cX10_nobody 2 (some .int) 1 := ⟨List.mem_of_getElem? (i := 1139) (by decide +kernel), List.mem_of_getElem? (i := 114) (by decide +kernel), by decide +kernel, by decide +kernel, by decide +kernel⟩
theorem mv_X10_nobody : MIv yX10_nobody := ⟨List.mem_of_getElem? (i := 1137) (by decide +kernel), List.mem_of_getElem? (i := 1138) (by decide +kernel)⟩
theorem mn_X4_nobodyOf : MIn yX4_nobodyOf cX4_nobodyOf 6 (some .int) 3 := ⟨List.mem_of_getElem? (i := 1143) (by decide +kernel), List.mem_of_getElem? (i := 125) (by decide +kernel), by decide +kernel, by decide +kernel, by decide +kernel⟩
theorem mv_X4_nobodyOf : MIv yX4_nobodyOf := ⟨List.mem_of_getElem? (i := 1142) (by decide +kernel), List.mem_of_getElem? (i := 68) (by decide +kernel)⟩
theorem mn_X10_behind : MIn yX10_behind cX10_behind 10 (some .int) 3 := ⟨List.mem_of_getElem? (i := 1150) (by decide +kernel), List.mem_of_getElem? (i := 114) (by decide +kernel), by decide +kernel, by decide +kernel, by decide +kernel⟩
theorem mv_X10_behind : MIv yX10_behind := ⟨List.mem_of_getElem? (i := 1148) (by decide +kernel), List.mem_of_getElem? (i := 1149) (by decide +kernel)⟩
theorem mn_X10_dry : MIn yX10_dry cX10_dry 2 (some .int) 1 := ⟨List.mem_of_getElem? (i := 1159) (by decide +kernel), List.mem_of_getElem? (i := 114) (by decide +kernel), by decide +kernel, by decide +kernel, by decide +kernel⟩
theorem mv_X10_dry : MIv yX10_dry := ⟨List.mem_of_getElem? (i := 1157) (by decide +kernel), List.mem_of_getElem? (i := 1158) (by decide +kernel)⟩
theorem mn_X6_weptBehind : MIn yX6_weptBehind cX6_weptBehind 4 (some .int) 1 := ⟨List.mem_of_getElem? (i := 1164) (by decide +kernel), List.mem_of_getElem? (i := 119) (by decide +kernel), by decide +kernel, by decide +kernel, by decide +kernel⟩
theorem mv_X6_weptBehind : MIv yX6_weptBehind := ⟨List.mem_of_getElem? (i := 1163) (by decide +kernel), List.mem_of_getElem? (i := 69) (by decide +kernel)⟩
theorem mn_X10_mourner : MIn yX10_mourner cX10_mourner 7 (some .int) 1 := ⟨List.mem_of_getElem? (i := 1171) (by decide +kernel), List.mem_of_getElem? (i := 114) (by decide +kernel), by decide +kernel, by decide +kernel, by decide +kernel⟩
theorem mv_X10_mourner : MIv yX10_mourner := ⟨List.mem_of_getElem? (i := 1169) (by decide +kernel), List.mem_of_getElem? (i := 1170) (by decide +kernel)⟩
theorem mn_X11_init : MIn yX11_init cX11_init 1 none 0 := ⟨List.mem_of_getElem? (i := 1177) (by decide +kernel), List.mem_of_getElem? (i := 126) (by decide +kernel), by decide +kernel, by decide +kernel, by decide +kernel⟩
theorem mi_X11_init : MIi yX11_init := ⟨List.mem_of_getElem? (i := 1176) (by decide +kernel), rfl⟩
theorem mn_X11_clearWalks : MIn yX11_clearWalks cX11_clearWalks 3 none 1 := ⟨List.mem_of_getElem? (i := 1195) (by decide +kernel), List.mem_of_getElem? (i := 126) (by decide +kernel), by decide +kernel, by decide +kernel, by decide +kernel⟩
theorem mv_X11_clearWalks : MIv yX11_clearWalks := ⟨List.mem_of_getElem? (i := 1194) (by decide +kernel), List.mem_of_getElem? (i := 70) (by decide +kernel)⟩
theorem mn_X11_thrown : MIn yX11_thrown cX11_thrown 1 (some .int) 0 := ⟨List.mem_of_getElem? (i := 1378) (by decide +kernel), List.mem_of_getElem? (i := 126) (by decide +kernel), by decide +kernel, by decide +kernel, by decide +kernel⟩
theorem mv_X11_thrown : MIv yX11_thrown := ⟨List.mem_of_getElem? (i := 1376) (by decide +kernel), List.mem_of_getElem? (i := 1377) (by decide +kernel)⟩
theorem mn_X11_feed : MIn yX11_feed cX11_feed 8 (some .int) 5 := ⟨List.mem_of_getElem? (i := 1382) (by decide +kernel), List.mem_of_getElem? (i := 126) (by decide +kernel), by decide +kernel, by decide +kernel, by decide +kernel⟩
theorem mv_X11_feed : MIv yX11_feed := ⟨List.mem_of_getElem? (i := 1380) (by decide +kernel), List.mem_of_getElem? (i := 1381) (by decide +kernel)⟩
theorem mn_X11_city : MIn yX11_city cX11_city 3 (some .int) 1 := ⟨List.mem_of_getElem? (i := 1386) (by decide +kernel), List.mem_of_getElem? (i := 126) (by decide +kernel), by decide +kernel, by decide +kernel, by decide +kernel⟩
theorem mv_X11_city : MIv yX11_city := ⟨List.mem_of_getElem? (i := 1384) (by decide +kernel), List.mem_of_getElem? (i := 1385) (by decide +kernel)⟩
theorem mn_X11_fail : MIn yX11_fail cX11_fail 2 (some .int) 1 := ⟨List.mem_of_getElem? (i := 1390) (by decide +kernel), List.mem_of_getElem? (i := 126) (by decide +kernel), by decide +kernel, by decide +kernel, by decide +kernel⟩
theorem mv_X11_fail : MIv yX11_fail := ⟨List.mem_of_getElem? (i := 1389) (by decide +kernel), List.mem_of_getElem? (i := 71) (by decide +kernel)⟩
theorem mn_X11_stepOn : MIn yX11_stepOn cX11_stepOn 2 none 0 := ⟨List.mem_of_getElem? (i := 1394) (by decide +kernel), List.mem_of_getElem? (i := 126) (by decide +kernel), by decide +kernel, by decide +kernel, by decide +kernel⟩
theorem mv_X11_stepOn : MIv yX11_stepOn := ⟨List.mem_of_getElem? (i := 1393) (by decide +kernel), List.mem_of_getElem? (i := 72) (by decide +kernel)⟩
theorem mn_X11_byteAt : MIn yX11_byteAt cX11_byteAt 2 (some .int) 1 := ⟨List.mem_of_getElem? (i := 1398) (by decide +kernel), List.mem_of_getElem? (i := 126) (by decide +kernel), by decide +kernel, by decide +kernel, by decide +kernel⟩
theorem mv_X11_byteAt : MIv yX11_byteAt := ⟨List.mem_of_getElem? (i := 1397) (by decide +kernel), List.mem_of_getElem? (i := 73) (by decide +kernel)⟩
theorem mn_X11_isLetter : MIn yX11_isLetter cX11_isLetter 1 (some .boolean) 1 := ⟨List.mem_of_getElem? (i := 1401) (by decide +kernel), List.mem_of_getElem? (i := 126) (by decide +kernel), by decide +kernel, by decide +kernel, by decide +kernel⟩
theorem ms_X11_isLetter : MIs yX11_isLetter := List.mem_of_getElem? (i := 1400) (by decide +kernel)
theorem mn_X11_isDigit : MIn yX11_isDigit cX11_isDigit 1 (some .boolean) 1 := ⟨List.mem_of_getElem? (i := 1404) (by decide +kernel), List.mem_of_getElem? (i := 126) (by decide +kernel), by decide +kernel, by decide +kernel, by decide +kernel⟩
theorem ms_X11_isDigit : MIs yX11_isDigit := List.mem_of_getElem? (i := 1403) (by decide +kernel)
theorem mn_X11_isMark : MIn yX11_isMark cX11_isMark 1 (some .boolean) 1 := ⟨List.mem_of_getElem? (i := 1409) (by decide +kernel), List.mem_of_getElem? (i := 126) (by decide +kernel), by decide +kernel, by decide +kernel, by decide +kernel⟩
theorem ms_X11_isMark : MIs yX11_isMark := List.mem_of_getElem? (i := 1408) (by decide +kernel)
theorem mn_X11_readClause : MIn yX11_readClause cX11_readClause 4 none 1 := ⟨List.mem_of_getElem? (i := 1413) (by decide +kernel), List.mem_of_getElem? (i := 126) (by decide +kernel), by decide +kernel, by decide +kernel, by decide +kernel⟩
theorem mv_X11_readClause : MIv yX11_readClause := ⟨List.mem_of_getElem? (i := 1412) (by decide +kernel), List.mem_of_getElem? (i := 74) (by decide +kernel)⟩
theorem mn_X11_which : MIn yX11_which cX11_which 3 (some .int) 1 := ⟨List.mem_of_getElem? (i := 1417) (by decide +kernel), List.mem_of_getElem? (i := 126) (by decide +kernel), by decide +kernel, by decide +kernel, by decide +kernel⟩
theorem mv_X11_which : MIv yX11_which := ⟨List.mem_of_getElem? (i := 1416) (by decide +kernel), List.mem_of_getElem? (i := 75) (by decide +kernel)⟩
theorem mn_X11_is : MIn yX11_is cX11_is 4 (some .boolean) 1 := ⟨List.mem_of_getElem? (i := 1421) (by decide +kernel), List.mem_of_getElem? (i := 126) (by decide +kernel), by decide +kernel, by decide +kernel, by decide +kernel⟩
theorem mv_X11_is : MIv yX11_is := ⟨List.mem_of_getElem? (i := 1420) (by decide +kernel), List.mem_of_getElem? (i := 76) (by decide +kernel)⟩
theorem mn_X11_wrong : MIn yX11_wrong cX11_wrong 2 none 1 := ⟨List.mem_of_getElem? (i := 1427) (by decide +kernel), List.mem_of_getElem? (i := 126) (by decide +kernel), by decide +kernel, by decide +kernel, by decide +kernel⟩
theorem mv_X11_wrong : MIv yX11_wrong := ⟨List.mem_of_getElem? (i := 1426) (by decide +kernel), List.mem_of_getElem? (i := 77) (by decide +kernel)⟩
theorem mn_X11_readNumber : MIn yX11_readNumber cX11_readNumber 4 (some .int) 2 := ⟨List.mem_of_getElem? (i := 1431) (by decide +kernel), List.mem_of_getElem? (i := 126) (by decide +kernel), by decide +kernel, by decide +kernel, by decide +kernel⟩
theorem mv_X11_readNumber : MIv yX11_readNumber := ⟨List.mem_of_getElem? (i := 1430) (by decide +kernel), List.mem_of_getElem? (i := 78) (by decide +kernel)⟩
theorem mn_X11_readPerson : MIn yX11_readPerson cX11_readPerson 2 none 0 := ⟨List.mem_of_getElem? (i := 1435) (by decide +kernel), List.mem_of_getElem? (i := 126) (by decide +kernel), by decide +kernel, by decide +kernel, by decide +kernel⟩
theorem mv_X11_readPerson : MIv yX11_readPerson := ⟨List.mem_of_getElem? (i := 1434) (by decide +kernel), List.mem_of_getElem? (i := 79) (by decide +kernel)⟩
theorem mn_X11_readHouse : MIn yX11_readHouse cX11_readHouse 3 (some .int) 1 := ⟨List.mem_of_getElem? (i := 1439) (by decide +kernel), List.mem_of_getElem? (i := 126) (by decide +kernel), by decide +kernel, by decide +kernel, by decide +kernel⟩
theorem mv_X11_readHouse : MIv yX11_readHouse := ⟨List.mem_of_getElem? (i := 1438) (by decide +kernel), List.mem_of_getElem? (i := 80) (by decide +kernel)⟩
theorem mn_X11_readWalk : MIn yX11_readWalk cX11_readWalk 4 none 0 := ⟨List.mem_of_getElem? (i := 1444) (by decide +kernel), List.mem_of_getElem? (i := 126) (by decide +kernel), by decide +kernel, by decide +kernel, by decide +kernel⟩
theorem mv_X11_readWalk : MIv yX11_readWalk := ⟨List.mem_of_getElem? (i := 1443) (by decide +kernel), List.mem_of_getElem? (i := 81) (by decide +kernel)⟩
theorem mn_X11_readExpression : MIn yX11_readExpression cX11_readExpression 3 none 1 := ⟨List.mem_of_getElem? (i := 1448) (by decide +kernel), List.mem_of_getElem? (i := 126) (by decide +kernel), by decide +kernel, by decide +kernel, by decide +kernel⟩
theorem mv_X11_readExpression : MIv yX11_readExpression := ⟨List.mem_of_getElem? (i := 1447) (by decide +kernel), List.mem_of_getElem? (i := 82) (by decide +kernel)⟩
theorem mn_X11_isMarked : MIn yX11_isMarked cX11_isMarked 2 (some .boolean) 1 := ⟨List.mem_of_getElem? (i := 1452) (by decide +kernel), List.mem_of_getElem? (i := 126) (by decide +kernel), by decide +kernel, by decide +kernel, by decide +kernel⟩
theorem mv_X11_isMarked : MIv yX11_isMarked := ⟨List.mem_of_getElem? (i := 1451) (by decide +kernel), List.mem_of_getElem? (i := 83) (by decide +kernel)⟩
theorem mn_X11_readAnd : MIn yX11_readAnd cX11_readAnd 2 none 1 := ⟨List.mem_of_getElem? (i := 1456) (by decide +kernel), List.mem_of_getElem? (i := 126) (by decide +kernel), by decide +kernel, by decide +kernel, by decide +kernel⟩
theorem mv_X11_readAnd : MIv yX11_readAnd := ⟨List.mem_of_getElem? (i := 1455) (by decide +kernel), List.mem_of_getElem? (i := 84) (by decide +kernel)⟩
theorem mn_X11_readNot : MIn yX11_readNot cX11_readNot 4 none 1 := ⟨List.mem_of_getElem? (i := 1460) (by decide +kernel), List.mem_of_getElem? (i := 126) (by decide +kernel), by decide +kernel, by decide +kernel, by decide +kernel⟩
theorem mv_X11_readNot : MIv yX11_readNot := ⟨List.mem_of_getElem? (i := 1459) (by decide +kernel), List.mem_of_getElem? (i := 85) (by decide +kernel)⟩
theorem mn_X11_readSum : MIn yX11_readSum cX11_readSum 3 none 1 := ⟨List.mem_of_getElem? (i := 1465) (by decide +kernel), List.mem_of_getElem? (i := 126) (by decide +kernel), by decide +kernel, by decide +kernel, by decide +kernel⟩
theorem mv_X11_readSum : MIv yX11_readSum := ⟨List.mem_of_getElem? (i := 1464) (by decide +kernel), List.mem_of_getElem? (i := 86) (by decide +kernel)⟩
theorem mn_X11_readProduct : MIn yX11_readProduct cX11_readProduct 3 none 1 := ⟨List.mem_of_getElem? (i := 1469) (by decide +kernel), List.mem_of_getElem? (i := 126) (by decide +kernel), by decide +kernel, by decide +kernel, by decide +kernel⟩
theorem mv_X11_readProduct : MIv yX11_readProduct := ⟨List.mem_of_getElem? (i := 1468) (by decide +kernel), List.mem_of_getElem? (i := 87) (by decide +kernel)⟩
theorem mn_X11_readPart : MIn yX11_readPart cX11_readPart 3 none 1 := ⟨List.mem_of_getElem? (i := 1473) (by decide +kernel), List.mem_of_getElem? (i := 126) (by decide +kernel), by decide +kernel, by decide +kernel, by decide +kernel⟩
theorem mv_X11_readPart : MIv yX11_readPart := ⟨List.mem_of_getElem? (i := 1472) (by decide +kernel), List.mem_of_getElem? (i := 88) (by decide +kernel)⟩
theorem mn_X11_lay : MIn yX11_lay cX11_lay 2 none 1 := ⟨List.mem_of_getElem? (i := 1477) (by decide +kernel), List.mem_of_getElem? (i := 126) (by decide +kernel), by decide +kernel, by decide +kernel, by decide +kernel⟩
theorem mv_X11_lay : MIv yX11_lay := ⟨List.mem_of_getElem? (i := 1476) (by decide +kernel), List.mem_of_getElem? (i := 89) (by decide +kernel)⟩
theorem mn_X11_mark : MIn yX11_mark cX11_mark 2 none 1 := ⟨List.mem_of_getElem? (i := 1481) (by decide +kernel), List.mem_of_getElem? (i := 126) (by decide +kernel), by decide +kernel, by decide +kernel, by decide +kernel⟩
theorem mv_X11_mark : MIv yX11_mark := ⟨List.mem_of_getElem? (i := 1480) (by decide +kernel), List.mem_of_getElem? (i := 90) (by decide +kernel)⟩
theorem mn_X11_take : MIn yX11_take cX11_take 2 none 0 := ⟨List.mem_of_getElem? (i := 1487) (by decide +kernel), List.mem_of_getElem? (i := 126) (by decide +kernel), by decide +kernel, by decide +kernel, by decide +kernel⟩
theorem mv_X11_take : MIv yX11_take := ⟨List.mem_of_getElem? (i := 1486) (by decide +kernel), List.mem_of_getElem? (i := 91) (by decide +kernel)⟩
theorem mn_X11_fault : MIn yX11_fault cX11_fault 1 (some .int) 0 := ⟨List.mem_of_getElem? (i := 1491) (by decide +kernel), List.mem_of_getElem? (i := 126) (by decide +kernel), by decide +kernel, by decide +kernel, by decide +kernel⟩
theorem mv_X11_fault : MIv yX11_fault := ⟨List.mem_of_getElem? (i := 1489) (by decide +kernel), List.mem_of_getElem? (i := 1490) (by decide +kernel)⟩
theorem mn_X11_count : MIn yX11_count cX11_count 2 (some .int) 1 := ⟨List.mem_of_getElem? (i := 1495) (by decide +kernel), List.mem_of_getElem? (i := 126) (by decide +kernel), by decide +kernel, by decide +kernel, by decide +kernel⟩
theorem mv_X11_count : MIv yX11_count := ⟨List.mem_of_getElem? (i := 1493) (by decide +kernel), List.mem_of_getElem? (i := 1494) (by decide +kernel)⟩
theorem mn_X11_isIn : MIn yX11_isIn cX11_isIn 3 (some .boolean) 3 := ⟨List.mem_of_getElem? (i := 1498) (by decide +kernel), List.mem_of_getElem? (i := 126) (by decide +kernel), by decide +kernel, by decide +kernel, by decide +kernel⟩
theorem ms_X11_isIn : MIs yX11_isIn := List.mem_of_getElem? (i := 1497) (by decide +kernel)
theorem mn_X11_now : MIn yX11_now cX11_now 1 (some .int) 0 := ⟨List.mem_of_getElem? (i := 1502) (by decide +kernel), List.mem_of_getElem? (i := 126) (by decide +kernel), by decide +kernel, by decide +kernel, by decide +kernel⟩
theorem mv_X11_now : MIv yX11_now := ⟨List.mem_of_getElem? (i := 1501) (by decide +kernel), List.mem_of_getElem? (i := 92) (by decide +kernel)⟩
theorem mn_X11_person : MIn yX11_person cX11_person 3 (some .int) 2 := ⟨List.mem_of_getElem? (i := 1506) (by decide +kernel), List.mem_of_getElem? (i := 126) (by decide +kernel), by decide +kernel, by decide +kernel, by decide +kernel⟩
theorem mv_X11_person : MIv yX11_person := ⟨List.mem_of_getElem? (i := 1504) (by decide +kernel), List.mem_of_getElem? (i := 1505) (by decide +kernel)⟩
theorem mn_X11_isPerson : MIn yX11_isPerson cX11_isPerson 2 (some .boolean) 1 := ⟨List.mem_of_getElem? (i := 1510) (by decide +kernel), List.mem_of_getElem? (i := 126) (by decide +kernel), by decide +kernel, by decide +kernel, by decide +kernel⟩
theorem mv_X11_isPerson : MIv yX11_isPerson := ⟨List.mem_of_getElem? (i := 1509) (by decide +kernel), List.mem_of_getElem? (i := 93) (by decide +kernel)⟩
theorem mn_X11_walk : MIn yX11_walk cX11_walk 3 (some .int) 2 := ⟨List.mem_of_getElem? (i := 1514) (by decide +kernel), List.mem_of_getElem? (i := 126) (by decide +kernel), by decide +kernel, by decide +kernel, by decide +kernel⟩
theorem mv_X11_walk : MIv yX11_walk := ⟨List.mem_of_getElem? (i := 1512) (by decide +kernel), List.mem_of_getElem? (i := 1513) (by decide +kernel)⟩
theorem mn_X11_isHouse : MIn yX11_isHouse cX11_isHouse 2 (some .boolean) 1 := ⟨List.mem_of_getElem? (i := 1518) (by decide +kernel), List.mem_of_getElem? (i := 126) (by decide +kernel), by decide +kernel, by decide +kernel, by decide +kernel⟩
theorem mv_X11_isHouse : MIv yX11_isHouse := ⟨List.mem_of_getElem? (i := 1517) (by decide +kernel), List.mem_of_getElem? (i := 94) (by decide +kernel)⟩
theorem mn_X11_move : MIn yX11_move cX11_move 3 none 2 := ⟨List.mem_of_getElem? (i := 1522) (by decide +kernel), List.mem_of_getElem? (i := 126) (by decide +kernel), by decide +kernel, by decide +kernel, by decide +kernel⟩
theorem mv_X11_move : MIv yX11_move := ⟨List.mem_of_getElem? (i := 1520) (by decide +kernel), List.mem_of_getElem? (i := 1521) (by decide +kernel)⟩
theorem mn_X11_weep : MIn yX11_weep cX11_weep 5 (some .int) 3 := ⟨List.mem_of_getElem? (i := 1526) (by decide +kernel), List.mem_of_getElem? (i := 126) (by decide +kernel), by decide +kernel, by decide +kernel, by decide +kernel⟩
theorem mv_X11_weep : MIv yX11_weep := ⟨List.mem_of_getElem? (i := 1524) (by decide +kernel), List.mem_of_getElem? (i := 1525) (by decide +kernel)⟩
theorem mn_X11_beforeOf : MIn yX11_beforeOf cX11_beforeOf 5 (some .int) 2 := ⟨List.mem_of_getElem? (i := 1530) (by decide +kernel), List.mem_of_getElem? (i := 126) (by decide +kernel), by decide +kernel, by decide +kernel, by decide +kernel⟩
theorem mv_X11_beforeOf : MIv yX11_beforeOf := ⟨List.mem_of_getElem? (i := 1529) (by decide +kernel), List.mem_of_getElem? (i := 95) (by decide +kernel)⟩
theorem mn_X11_ask : MIn yX11_ask cX11_ask 7 none 6 := ⟨List.mem_of_getElem? (i := 1534) (by decide +kernel), List.mem_of_getElem? (i := 126) (by decide +kernel), by decide +kernel, by decide +kernel, by decide +kernel⟩
theorem mv_X11_ask : MIv yX11_ask := ⟨List.mem_of_getElem? (i := 1533) (by decide +kernel), List.mem_of_getElem? (i := 96) (by decide +kernel)⟩
theorem mn_X11_allRules : MIn yX11_allRules cX11_allRules 2 (some .boolean) 0 := ⟨List.mem_of_getElem? (i := 1538) (by decide +kernel), List.mem_of_getElem? (i := 126) (by decide +kernel), by decide +kernel, by decide +kernel, by decide +kernel⟩
theorem mv_X11_allRules : MIv yX11_allRules := ⟨List.mem_of_getElem? (i := 1537) (by decide +kernel), List.mem_of_getElem? (i := 97) (by decide +kernel)⟩
theorem mn_X11_isTrue : MIn yX11_isTrue cX11_isTrue 5 (some .boolean) 1 := ⟨List.mem_of_getElem? (i := 1542) (by decide +kernel), List.mem_of_getElem? (i := 126) (by decide +kernel), by decide +kernel, by decide +kernel, by decide +kernel⟩
theorem mv_X11_isTrue : MIv yX11_isTrue := ⟨List.mem_of_getElem? (i := 1541) (by decide +kernel), List.mem_of_getElem? (i := 98) (by decide +kernel)⟩
theorem mn_X11_reckon : MIn yX11_reckon cX11_reckon 3 (some .int) 3 := ⟨List.mem_of_getElem? (i := 1545) (by decide +kernel), List.mem_of_getElem? (i := 126) (by decide +kernel), by decide +kernel, by decide +kernel, by decide +kernel⟩
theorem ms_X11_reckon : MIs yX11_reckon := List.mem_of_getElem? (i := 1544) (by decide +kernel)
theorem mn_X11_tears : MIn yX11_tears cX11_tears 3 (some .int) 2 := ⟨List.mem_of_getElem? (i := 1549) (by decide +kernel), List.mem_of_getElem? (i := 126) (by decide +kernel), by decide +kernel, by decide +kernel, by decide +kernel⟩
theorem mv_X11_tears : MIv yX11_tears := ⟨List.mem_of_getElem? (i := 1547) (by decide +kernel), List.mem_of_getElem? (i := 1548) (by decide +kernel)⟩
theorem mn_X11_name : MIn yX11_name cX11_name 3 (some .int) 2 := ⟨List.mem_of_getElem? (i := 1553) (by decide +kernel), List.mem_of_getElem? (i := 126) (by decide +kernel), by decide +kernel, by decide +kernel, by decide +kernel⟩
theorem mv_X11_name : MIv yX11_name := ⟨List.mem_of_getElem? (i := 1551) (by decide +kernel), List.mem_of_getElem? (i := 1552) (by decide +kernel)⟩
theorem mn_X11_isHour : MIn yX11_isHour cX11_isHour 1 (some .boolean) 1 := ⟨List.mem_of_getElem? (i := 1556) (by decide +kernel), List.mem_of_getElem? (i := 126) (by decide +kernel), by decide +kernel, by decide +kernel, by decide +kernel⟩
theorem ms_X11_isHour : MIs yX11_isHour := List.mem_of_getElem? (i := 1555) (by decide +kernel)
theorem mn_X11_nameOf : MIn yX11_nameOf cX11_nameOf 4 (some .int) 2 := ⟨List.mem_of_getElem? (i := 1560) (by decide +kernel), List.mem_of_getElem? (i := 126) (by decide +kernel), by decide +kernel, by decide +kernel, by decide +kernel⟩
theorem mv_X11_nameOf : MIv yX11_nameOf := ⟨List.mem_of_getElem? (i := 1559) (by decide +kernel), List.mem_of_getElem? (i := 99) (by decide +kernel)⟩
theorem mn_X11_calledBy : MIn yX11_calledBy cX11_calledBy 4 (some .int) 2 := ⟨List.mem_of_getElem? (i := 1564) (by decide +kernel), List.mem_of_getElem? (i := 126) (by decide +kernel), by decide +kernel, by decide +kernel, by decide +kernel⟩
theorem mv_X11_calledBy : MIv yX11_calledBy := ⟨List.mem_of_getElem? (i := 1563) (by decide +kernel), List.mem_of_getElem? (i := 100) (by decide +kernel)⟩
theorem mn_X11_houses : MIn yX11_houses cX11_houses 3 (some .int) 2 := ⟨List.mem_of_getElem? (i := 1568) (by decide +kernel), List.mem_of_getElem? (i := 126) (by decide +kernel), by decide +kernel, by decide +kernel, by decide +kernel⟩
theorem mv_X11_houses : MIv yX11_houses := ⟨List.mem_of_getElem? (i := 1566) (by decide +kernel), List.mem_of_getElem? (i := 1567) (by decide +kernel)⟩
theorem mn_X11_housesOf : MIn yX11_housesOf cX11_housesOf 5 (some .int) 2 := ⟨List.mem_of_getElem? (i := 1572) (by decide +kernel), List.mem_of_getElem? (i := 126) (by decide +kernel), by decide +kernel, by decide +kernel, by decide +kernel⟩
theorem mv_X11_housesOf : MIv yX11_housesOf := ⟨List.mem_of_getElem? (i := 1571) (by decide +kernel), List.mem_of_getElem? (i := 101) (by decide +kernel)⟩
theorem mn_X11_letter : MIn yX11_letter cX11_letter 3 (some .int) 2 := ⟨List.mem_of_getElem? (i := 1576) (by decide +kernel), List.mem_of_getElem? (i := 126) (by decide +kernel), by decide +kernel, by decide +kernel, by decide +kernel⟩
theorem mv_X11_letter : MIv yX11_letter := ⟨List.mem_of_getElem? (i := 1574) (by decide +kernel), List.mem_of_getElem? (i := 1575) (by decide +kernel)⟩
theorem mn_X11_post : MIn yX11_post cX11_post 3 (some .int) 2 := ⟨List.mem_of_getElem? (i := 1580) (by decide +kernel), List.mem_of_getElem? (i := 126) (by decide +kernel), by decide +kernel, by decide +kernel, by decide +kernel⟩
theorem mv_X11_post : MIv yX11_post := ⟨List.mem_of_getElem? (i := 1578) (by decide +kernel), List.mem_of_getElem? (i := 1579) (by decide +kernel)⟩
theorem mn_X11_meant : MIn yX11_meant cX11_meant 3 (some .int) 1 := ⟨List.mem_of_getElem? (i := 1584) (by decide +kernel), List.mem_of_getElem? (i := 126) (by decide +kernel), by decide +kernel, by decide +kernel, by decide +kernel⟩
theorem mv_X11_meant : MIv yX11_meant := ⟨List.mem_of_getElem? (i := 1583) (by decide +kernel), List.mem_of_getElem? (i := 102) (by decide +kernel)⟩
theorem mn_X11_bitsOf : MIn yX11_bitsOf cX11_bitsOf 3 (some .int) 1 := ⟨List.mem_of_getElem? (i := 1587) (by decide +kernel), List.mem_of_getElem? (i := 126) (by decide +kernel), by decide +kernel, by decide +kernel, by decide +kernel⟩
theorem ms_X11_bitsOf : MIs yX11_bitsOf := List.mem_of_getElem? (i := 1586) (by decide +kernel)
theorem mn_X11_firstOf : MIn yX11_firstOf cX11_firstOf 2 (some .int) 1 := ⟨List.mem_of_getElem? (i := 1590) (by decide +kernel), List.mem_of_getElem? (i := 126) (by decide +kernel), by decide +kernel, by decide +kernel, by decide +kernel⟩
theorem ms_X11_firstOf : MIs yX11_firstOf := List.mem_of_getElem? (i := 1589) (by decide +kernel)
theorem mn_X11_carry : MIn yX11_carry cX11_carry 6 none 1 := ⟨List.mem_of_getElem? (i := 1594) (by decide +kernel), List.mem_of_getElem? (i := 126) (by decide +kernel), by decide +kernel, by decide +kernel, by decide +kernel⟩
theorem mv_X11_carry : MIv yX11_carry := ⟨List.mem_of_getElem? (i := 1593) (by decide +kernel), List.mem_of_getElem? (i := 103) (by decide +kernel)⟩
theorem mn_X11_round : MIn yX11_round cX11_round 3 (some .int) 1 := ⟨List.mem_of_getElem? (i := 1598) (by decide +kernel), List.mem_of_getElem? (i := 126) (by decide +kernel), by decide +kernel, by decide +kernel, by decide +kernel⟩
theorem mv_X11_round : MIv yX11_round := ⟨List.mem_of_getElem? (i := 1596) (by decide +kernel), List.mem_of_getElem? (i := 1597) (by decide +kernel)⟩
theorem mn_X11_walkOn : MIn yX11_walkOn cX11_walkOn 7 none 4 := ⟨List.mem_of_getElem? (i := 1602) (by decide +kernel), List.mem_of_getElem? (i := 126) (by decide +kernel), by decide +kernel, by decide +kernel, by decide +kernel⟩
theorem mv_X11_walkOn : MIv yX11_walkOn := ⟨List.mem_of_getElem? (i := 1601) (by decide +kernel), List.mem_of_getElem? (i := 104) (by decide +kernel)⟩
theorem mn_X11_rounded : MIn yX11_rounded cX11_rounded 2 (some .int) 1 := ⟨List.mem_of_getElem? (i := 1606) (by decide +kernel), List.mem_of_getElem? (i := 126) (by decide +kernel), by decide +kernel, by decide +kernel, by decide +kernel⟩
theorem mv_X11_rounded : MIv yX11_rounded := ⟨List.mem_of_getElem? (i := 1604) (by decide +kernel), List.mem_of_getElem? (i := 1605) (by decide +kernel)⟩
theorem mn_X11_holds : MIn yX11_holds cX11_holds 3 (some .boolean) 2 := ⟨List.mem_of_getElem? (i := 1610) (by decide +kernel), List.mem_of_getElem? (i := 126) (by decide +kernel), by decide +kernel, by decide +kernel, by decide +kernel⟩
theorem mv_X11_holds : MIv yX11_holds := ⟨List.mem_of_getElem? (i := 1608) (by decide +kernel), List.mem_of_getElem? (i := 1609) (by decide +kernel)⟩
theorem mn_X11_holdsOf : MIn yX11_holdsOf cX11_holdsOf 4 (some .boolean) 2 := ⟨List.mem_of_getElem? (i := 1614) (by decide +kernel), List.mem_of_getElem? (i := 126) (by decide +kernel), by decide +kernel, by decide +kernel, by decide +kernel⟩
theorem mv_X11_holdsOf : MIv yX11_holdsOf := ⟨List.mem_of_getElem? (i := 1613) (by decide +kernel), List.mem_of_getElem? (i := 105) (by decide +kernel)⟩
theorem mn_X11_stranger : MIn yX11_stranger cX11_stranger 4 (some .int) 2 := ⟨List.mem_of_getElem? (i := 1618) (by decide +kernel), List.mem_of_getElem? (i := 126) (by decide +kernel), by decide +kernel, by decide +kernel, by decide +kernel⟩
theorem mv_X11_stranger : MIv yX11_stranger := ⟨List.mem_of_getElem? (i := 1616) (by decide +kernel), List.mem_of_getElem? (i := 1617) (by decide +kernel)⟩
theorem mn_X11_tellAsks : MIn yX11_tellAsks cX11_tellAsks 4 none 0 := ⟨List.mem_of_getElem? (i := 1622) (by decide +kernel), List.mem_of_getElem? (i := 126) (by decide +kernel), by decide +kernel, by decide +kernel, by decide +kernel⟩
theorem mv_X11_tellAsks : MIv yX11_tellAsks := ⟨List.mem_of_getElem? (i := 1621) (by decide +kernel), List.mem_of_getElem? (i := 106) (by decide +kernel)⟩
theorem mn_X11_askBy : MIn yX11_askBy cX11_askBy 5 (some .int) 2 := ⟨List.mem_of_getElem? (i := 1626) (by decide +kernel), List.mem_of_getElem? (i := 126) (by decide +kernel), by decide +kernel, by decide +kernel, by decide +kernel⟩
theorem mv_X11_askBy : MIv yX11_askBy := ⟨List.mem_of_getElem? (i := 1625) (by decide +kernel), List.mem_of_getElem? (i := 107) (by decide +kernel)⟩
theorem mn_X11_most : MIn yX11_most cX11_most 2 (some .int) 2 := ⟨List.mem_of_getElem? (i := 1629) (by decide +kernel), List.mem_of_getElem? (i := 126) (by decide +kernel), by decide +kernel, by decide +kernel, by decide +kernel⟩
theorem ms_X11_most : MIs yX11_most := List.mem_of_getElem? (i := 1628) (by decide +kernel)
theorem mn_X11_write : MIn yX11_write cX11_write 2 (some .int) 1 := ⟨List.mem_of_getElem? (i := 1634) (by decide +kernel), List.mem_of_getElem? (i := 126) (by decide +kernel), by decide +kernel, by decide +kernel, by decide +kernel⟩
theorem mv_X11_write : MIv yX11_write := ⟨List.mem_of_getElem? (i := 1632) (by decide +kernel), List.mem_of_getElem? (i := 1633) (by decide +kernel)⟩
theorem mn_X11_clear : MIn yX11_clear cX11_clear 2 (some .int) 0 := ⟨List.mem_of_getElem? (i := 1638) (by decide +kernel), List.mem_of_getElem? (i := 126) (by decide +kernel), by decide +kernel, by decide +kernel, by decide +kernel⟩
theorem mv_X11_clear : MIv yX11_clear := ⟨List.mem_of_getElem? (i := 1636) (by decide +kernel), List.mem_of_getElem? (i := 1637) (by decide +kernel)⟩
theorem mn_X11_register : MIn yX11_register cX11_register 8 (some .int) 2 := ⟨List.mem_of_getElem? (i := 1642) (by decide +kernel), List.mem_of_getElem? (i := 126) (by decide +kernel), by decide +kernel, by decide +kernel, by decide +kernel⟩
theorem mv_X11_register : MIv yX11_register := ⟨List.mem_of_getElem? (i := 1640) (by decide +kernel), List.mem_of_getElem? (i := 1641) (by decide +kernel)⟩
theorem mn_X11_offer : MIn yX11_offer cX11_offer 4 none 3 := ⟨List.mem_of_getElem? (i := 1646) (by decide +kernel), List.mem_of_getElem? (i := 126) (by decide +kernel), by decide +kernel, by decide +kernel, by decide +kernel⟩
theorem mv_X11_offer : MIv yX11_offer := ⟨List.mem_of_getElem? (i := 1645) (by decide +kernel), List.mem_of_getElem? (i := 108) (by decide +kernel)⟩
theorem mn_X11_will : MIn yX11_will cX11_will 9 (some .int) 5 := ⟨List.mem_of_getElem? (i := 1650) (by decide +kernel), List.mem_of_getElem? (i := 126) (by decide +kernel), by decide +kernel, by decide +kernel, by decide +kernel⟩
theorem mv_X11_will : MIv yX11_will := ⟨List.mem_of_getElem? (i := 1648) (by decide +kernel), List.mem_of_getElem? (i := 1649) (by decide +kernel)⟩
theorem mn_X11_hoursOf : MIn yX11_hoursOf cX11_hoursOf 7 (some .int) 4 := ⟨List.mem_of_getElem? (i := 1654) (by decide +kernel), List.mem_of_getElem? (i := 126) (by decide +kernel), by decide +kernel, by decide +kernel, by decide +kernel⟩
theorem mv_X11_hoursOf : MIv yX11_hoursOf := ⟨List.mem_of_getElem? (i := 1653) (by decide +kernel), List.mem_of_getElem? (i := 109) (by decide +kernel)⟩
theorem mn_X11_last : MIn yX11_last cX11_last 2 (some .int) 1 := ⟨List.mem_of_getElem? (i := 1658) (by decide +kernel), List.mem_of_getElem? (i := 126) (by decide +kernel), by decide +kernel, by decide +kernel, by decide +kernel⟩
theorem mv_X11_last : MIv yX11_last := ⟨List.mem_of_getElem? (i := 1656) (by decide +kernel), List.mem_of_getElem? (i := 1657) (by decide +kernel)⟩
theorem mn_X11_lastOf : MIn yX11_lastOf cX11_lastOf 5 (some .int) 1 := ⟨List.mem_of_getElem? (i := 1662) (by decide +kernel), List.mem_of_getElem? (i := 126) (by decide +kernel), by decide +kernel, by decide +kernel, by decide +kernel⟩
theorem mv_X11_lastOf : MIv yX11_lastOf := ⟨List.mem_of_getElem? (i := 1661) (by decide +kernel), List.mem_of_getElem? (i := 110) (by decide +kernel)⟩
theorem mn_X11_nobody : MIn yX11_nobody cX11_nobody 2 (some .int) 1 := ⟨List.mem_of_getElem? (i := 1667) (by decide +kernel), List.mem_of_getElem? (i := 126) (by decide +kernel), by decide +kernel, by decide +kernel, by decide +kernel⟩
theorem mv_X11_nobody : MIv yX11_nobody := ⟨List.mem_of_getElem? (i := 1665) (by decide +kernel), List.mem_of_getElem? (i := 1666) (by decide +kernel)⟩
theorem mn_X11_nobodyOf : MIn yX11_nobodyOf cX11_nobodyOf 4 (some .int) 1 := ⟨List.mem_of_getElem? (i := 1671) (by decide +kernel), List.mem_of_getElem? (i := 126) (by decide +kernel), by decide +kernel, by decide +kernel, by decide +kernel⟩
theorem mv_X11_nobodyOf : MIv yX11_nobodyOf := ⟨List.mem_of_getElem? (i := 1670) (by decide +kernel), List.mem_of_getElem? (i := 111) (by decide +kernel)⟩
theorem mn_X11_behind : MIn yX11_behind cX11_behind 11 (some .int) 3 := ⟨List.mem_of_getElem? (i := 1675) (by decide +kernel), List.mem_of_getElem? (i := 126) (by decide +kernel), by decide +kernel, by decide +kernel, by decide +kernel⟩
theorem mv_X11_behind : MIv yX11_behind := ⟨List.mem_of_getElem? (i := 1673) (by decide +kernel), List.mem_of_getElem? (i := 1674) (by decide +kernel)⟩
theorem mn_X11_dry : MIn yX11_dry cX11_dry 4 (some .int) 1 := ⟨List.mem_of_getElem? (i := 1680) (by decide +kernel), List.mem_of_getElem? (i := 126) (by decide +kernel), by decide +kernel, by decide +kernel, by decide +kernel⟩
theorem mv_X11_dry : MIv yX11_dry := ⟨List.mem_of_getElem? (i := 1678) (by decide +kernel), List.mem_of_getElem? (i := 1679) (by decide +kernel)⟩
theorem mn_X11_mourner : MIn yX11_mourner cX11_mourner 2 (some .int) 1 := ⟨List.mem_of_getElem? (i := 1684) (by decide +kernel), List.mem_of_getElem? (i := 126) (by decide +kernel), by decide +kernel, by decide +kernel, by decide +kernel⟩
theorem mv_X11_mourner : MIv yX11_mourner := ⟨List.mem_of_getElem? (i := 1682) (by decide +kernel), List.mem_of_getElem? (i := 1683) (by decide +kernel)⟩
theorem mn_X11_plainNames : MIn yX11_plainNames cX11_plainNames 5 (some .int) 1 := ⟨List.mem_of_getElem? (i := 1688) (by decide +kernel), List.mem_of_getElem? (i := 126) (by decide +kernel), by decide +kernel, by decide +kernel, by decide +kernel⟩
theorem mv_X11_plainNames : MIv yX11_plainNames := ⟨List.mem_of_getElem? (i := 1687) (by decide +kernel), List.mem_of_getElem? (i := 112) (by decide +kernel)⟩
theorem mn_X11_image : MIn yX11_image cX11_image 2 none 0 := ⟨List.mem_of_getElem? (i := 1692) (by decide +kernel), List.mem_of_getElem? (i := 126) (by decide +kernel), by decide +kernel, by decide +kernel, by decide +kernel⟩
theorem mv_X11_image : MIv yX11_image := ⟨List.mem_of_getElem? (i := 1690) (by decide +kernel), List.mem_of_getElem? (i := 1691) (by decide +kernel)⟩
theorem mn_X11_be : MIn yX11_be cX11_be 3 none 2 := ⟨List.mem_of_getElem? (i := 1695) (by decide +kernel), List.mem_of_getElem? (i := 126) (by decide +kernel), by decide +kernel, by decide +kernel, by decide +kernel⟩
theorem ms_X11_be : MIs yX11_be := List.mem_of_getElem? (i := 1694) (by decide +kernel)
theorem mn_X11_restore : MIn yX11_restore cX11_restore 2 (some .boolean) 0 := ⟨List.mem_of_getElem? (i := 1699) (by decide +kernel), List.mem_of_getElem? (i := 126) (by decide +kernel), by decide +kernel, by decide +kernel, by decide +kernel⟩
theorem mv_X11_restore : MIv yX11_restore := ⟨List.mem_of_getElem? (i := 1697) (by decide +kernel), List.mem_of_getElem? (i := 1698) (by decide +kernel)⟩
