/-! the words of the tables that the rows need, by their places (written by a program) -/
set_option maxRecDepth 20000 in
theorem fcX0 : ∀ w ∈ wsX00, w ∈ z_F := z_inFs _ [602, 604, 606, 608, 610, 612, 614] (by decide +kernel) (by decide +kernel)
theorem icX0 : Cond.initialized RX0 ∈ z_F := z_inF (i := 49) (by decide +kernel) rfl
set_option maxRecDepth 20000 in
theorem fcX1 : ∀ w ∈ wsX10, w ∈ z_F := z_inFs _ [373, 375, 377, 379, 381, 383] (by decide +kernel) (by decide +kernel)
theorem icX1 : Cond.initialized RX1 ∈ z_F := z_inF (i := 46) (by decide +kernel) rfl
set_option maxRecDepth 20000 in
theorem fcX2 : ∀ w ∈ wsX20, w ∈ z_F := z_inFs _ [105, 107, 109, 111, 113] (by decide +kernel) (by decide +kernel)
theorem icX2 : Cond.initialized RX2 ∈ z_F := z_inF (i := 39) (by decide +kernel) rfl
set_option maxRecDepth 20000 in
theorem fcX3 : ∀ w ∈ wsX30, w ∈ z_F := z_inFs _ [155, 157, 159, 161, 163, 165, 167, 169, 171, 173, 175, 177, 179, 181] (by decide +kernel) (by decide +kernel)
theorem icX3 : Cond.initialized RX3 ∈ z_F := z_inF (i := 40) (by decide +kernel) rfl
set_option maxRecDepth 20000 in
theorem fcX4 : ∀ w ∈ wsX40, w ∈ z_F := z_inFs _ [228, 230, 232, 234, 236, 238] (by decide +kernel) (by decide +kernel)
theorem icX4 : Cond.initialized RX4 ∈ z_F := z_inF (i := 42) (by decide +kernel) rfl
set_option maxRecDepth 20000 in
theorem fcX5 : ∀ w ∈ wsX50, w ∈ z_F := z_inFs _ [259, 261, 263, 265, 267, 269, 271, 273, 275, 277] (by decide +kernel) (by decide +kernel)
theorem icX5 : Cond.initialized RX5 ∈ z_F := z_inF (i := 43) (by decide +kernel) rfl
set_option maxRecDepth 20000 in
theorem fcX6 : ∀ w ∈ wsX60, w ∈ z_F := z_inFs _ [290, 292] (by decide +kernel) (by decide +kernel)
theorem icX6 : Cond.initialized RX6 ∈ z_F := z_inF (i := 44) (by decide +kernel) rfl
set_option maxRecDepth 20000 in
theorem fcX7 : ∀ w ∈ wsX70, w ∈ z_F := z_inFs _ [696, 698, 700, 702] (by decide +kernel) (by decide +kernel)
theorem icX7 : Cond.initialized RX7 ∈ z_F := z_inF (i := 51) (by decide +kernel) rfl
set_option maxRecDepth 20000 in
theorem fcX8 : ∀ w ∈ wsX80, w ∈ z_F := z_inFs _ [197, 199, 201, 203, 205] (by decide +kernel) (by decide +kernel)
theorem icX8 : Cond.initialized RX8 ∈ z_F := z_inF (i := 41) (by decide +kernel) rfl
set_option maxRecDepth 20000 in
theorem fcX9 : ∀ w ∈ wsX90, w ∈ z_F := z_inFs _ [89, 91] (by decide +kernel) (by decide +kernel)
theorem icX9 : Cond.initialized RX9 ∈ z_F := z_inF (i := 38) (by decide +kernel) rfl
set_option maxRecDepth 20000 in
theorem fcX10 : ∀ w ∈ wsX100, w ∈ z_F := z_inFs _ [73, 75] (by decide +kernel) (by decide +kernel)
theorem icX10 : Cond.initialized RX10 ∈ z_F := z_inF (i := 37) (by decide +kernel) rfl
set_option maxRecDepth 20000 in
theorem fcX11 : ∀ w ∈ wsX110, w ∈ z_F := z_inFs _ [313, 315, 317, 319, 321, 323, 325, 327, 329, 331, 333, 335, 337, 339, 341, 343, 345] (by decide +kernel) (by decide +kernel)
theorem icX11 : Cond.initialized RX11 ∈ z_F := z_inF (i := 36) (by decide +kernel) rfl
set_option maxRecDepth 20000 in
theorem fcX12 : ∀ w ∈ wsX120, w ∈ z_F := z_inFs _ [908, 910, 912, 914, 916, 918, 920, 922, 924, 926, 928, 930, 932, 934, 936, 938, 940, 942, 944, 946, 948, 950, 952, 954, 956, 958, 960, 962, 964, 966, 968, 970, 972, 974, 976, 978, 980, 982, 984, 986, 988, 990, 992, 994, 996, 998, 1000, 1002, 1004, 1006, 1008, 1010, 1012, 1014, 1016, 1018, 1020, 1022, 1024, 1026, 1028, 1030, 1032, 1034, 1036, 1038, 1040, 1042, 1044] (by decide +kernel) (by decide +kernel)
theorem icX12 : Cond.initialized RX12 ∈ z_F := z_inF (i := 45) (by decide +kernel) rfl
theorem clL_7 : Cond.classLink RL 7 RX11 ∈ z_F := z_inF (i := 53) (by decide +kernel) rfl
theorem insX11 : Cond.instantiable RX11 17 ∈ z_F := z_inF (i := 54) (by decide +kernel) rfl
theorem mlL_9 : Cond.methodLink RL 9 yX11_init ∈ z_F := z_inF (i := 55) (by decide +kernel) rfl
theorem im_X11_init : Cond.instanceMethod yX11_init ∈ z_F := z_inF (i := 56) (by decide +kernel) rfl
theorem ym_X11_init : z_ym yX11_init cX11_init 1 none 0 := ⟨z_inF (i := 57) (by decide +kernel) rfl, z_inF (i := 36) (by decide +kernel) rfl, by decide +kernel, by decide +kernel, by decide +kernel, by decide +kernel, by decide⟩
theorem mlX11_3 : Cond.methodLink RX11 3 objectInit ∈ z_F := z_inF (i := 58) (by decide +kernel) rfl
theorem im_objectInit : Cond.instanceMethod objectInit ∈ z_F := z_inF (i := 59) (by decide +kernel) rfl
theorem co_objectInit : Cond.code objectInit ⟨#[0xb1]⟩ 1 none ∈ z_F := z_inF (i := 60) (by decide +kernel) rfl
theorem clX11_9 : Cond.classLink RX11 9 RX1 ∈ z_F := z_inF (i := 61) (by decide +kernel) rfl
theorem aoX1 : Cond.arrayOver (.object RX1) ∈ lw_tbl := List.mem_of_getElem? (i := 62) (by decide +kernel)
theorem clX11_15 : Cond.classLink RX11 15 RX10 ∈ z_F := z_inF (i := 63) (by decide +kernel) rfl
theorem insX10 : Cond.instantiable RX10 2 ∈ z_F := z_inF (i := 64) (by decide +kernel) rfl
theorem mnX11_17 : Cond.methodLinkNest RX11 17 yX10_init "BogForge" ∈ lw_tbl := List.mem_of_getElem? (i := 65) (by decide +kernel)
theorem im_X10_init : Cond.instanceMethod yX10_init ∈ z_F := z_inF (i := 66) (by decide +kernel) rfl
theorem ym_X10_init : z_ym yX10_init cX10_init 1 none 0 := ⟨z_inF (i := 67) (by decide +kernel) rfl, z_inF (i := 37) (by decide +kernel) rfl, by decide +kernel, by decide +kernel, by decide +kernel, by decide +kernel, by decide⟩
theorem mlX10_3 : Cond.methodLink RX10 3 objectInit ∈ z_F := z_inF (i := 68) (by decide +kernel) rfl
theorem flX10_9 : z_FL RX10 9 10 0 (.array .int) 1 := ⟨_, _, _, tyX10, rfl, fcX10, by decide, z_inF (i := 69) (by decide +kernel) rfl, tyX10_ok, nmX10, by decide +kernel, by decide +kernel, by decide +kernel⟩
theorem flX11_146 : z_FL RX11 146 10 0 (.array .int) 2 := ⟨_, _, _, tyX10, rfl, fcX10, by decide, z_inF (i := 70) (by decide +kernel) rfl, tyX10_ok, nmX10, by decide +kernel, by decide +kernel, by decide +kernel⟩
theorem flX10_15 : z_FL RX10 15 10 1 (.array .int) 1 := ⟨_, _, _, tyX10, rfl, fcX10, by decide, z_inF (i := 71) (by decide +kernel) rfl, tyX10_ok, nmX10, by decide +kernel, by decide +kernel, by decide +kernel⟩
theorem flX11_181 : z_FL RX11 181 10 1 (.array .int) 2 := ⟨_, _, _, tyX10, rfl, fcX10, by decide, z_inF (i := 72) (by decide +kernel) rfl, tyX10_ok, nmX10, by decide +kernel, by decide +kernel, by decide +kernel⟩
theorem ac_int : Cond.arrayClass .int ∈ lw_tbl := List.mem_of_getElem? (i := 78) (by decide +kernel)
theorem clX11_22 : Cond.classLink RX11 22 RX9 ∈ z_F := z_inF (i := 79) (by decide +kernel) rfl
theorem insX9 : Cond.instantiable RX9 2 ∈ z_F := z_inF (i := 80) (by decide +kernel) rfl
theorem mnX11_24 : Cond.methodLinkNest RX11 24 yX9_init "BogForge" ∈ lw_tbl := List.mem_of_getElem? (i := 81) (by decide +kernel)
theorem im_X9_init : Cond.instanceMethod yX9_init ∈ z_F := z_inF (i := 82) (by decide +kernel) rfl
theorem ym_X9_init : z_ym yX9_init cX9_init 1 none 0 := ⟨z_inF (i := 83) (by decide +kernel) rfl, z_inF (i := 38) (by decide +kernel) rfl, by decide +kernel, by decide +kernel, by decide +kernel, by decide +kernel, by decide⟩
theorem mlX9_3 : Cond.methodLink RX9 3 objectInit ∈ z_F := z_inF (i := 84) (by decide +kernel) rfl
theorem flX9_9 : z_FL RX9 9 9 0 (.array .int) 1 := ⟨_, _, _, tyX9, rfl, fcX9, by decide, z_inF (i := 85) (by decide +kernel) rfl, tyX9_ok, nmX9, by decide +kernel, by decide +kernel, by decide +kernel⟩
theorem flX2_28 : z_FL RX2 28 9 1 .int 0 := ⟨_, _, _, tyX9, rfl, fcX9, by decide, z_inF (i := 86) (by decide +kernel) rfl, tyX9_ok, nmX9, by decide +kernel, by decide +kernel, by decide +kernel⟩
theorem flX9_15 : z_FL RX9 15 9 1 .int 0 := ⟨_, _, _, tyX9, rfl, fcX9, by decide, z_inF (i := 87) (by decide +kernel) rfl, tyX9_ok, nmX9, by decide +kernel, by decide +kernel, by decide +kernel⟩
theorem flX11_156 : z_FL RX11 156 9 1 .int 0 := ⟨_, _, _, tyX9, rfl, fcX9, by decide, z_inF (i := 88) (by decide +kernel) rfl, tyX9_ok, nmX9, by decide +kernel, by decide +kernel, by decide +kernel⟩
theorem clX11_29 : Cond.classLink RX11 29 RX2 ∈ z_F := z_inF (i := 94) (by decide +kernel) rfl
theorem insX2 : Cond.instantiable RX2 5 ∈ z_F := z_inF (i := 95) (by decide +kernel) rfl
theorem mnX11_31 : Cond.methodLinkNest RX11 31 yX2_init "BogForge" ∈ lw_tbl := List.mem_of_getElem? (i := 96) (by decide +kernel)
theorem im_X2_init : Cond.instanceMethod yX2_init ∈ z_F := z_inF (i := 97) (by decide +kernel) rfl
theorem ym_X2_init : z_ym yX2_init cX2_init 1 none 0 := ⟨z_inF (i := 98) (by decide +kernel) rfl, z_inF (i := 39) (by decide +kernel) rfl, by decide +kernel, by decide +kernel, by decide +kernel, by decide +kernel, by decide⟩
theorem mlX2_3 : Cond.methodLink RX2 3 objectInit ∈ z_F := z_inF (i := 99) (by decide +kernel) rfl
theorem flX2_9 : z_FL RX2 9 2 0 (.array .int) 1 := ⟨_, _, _, tyX2, rfl, fcX2, by decide, z_inF (i := 100) (by decide +kernel) rfl, tyX2_ok, nmX2, by decide +kernel, by decide +kernel, by decide +kernel⟩
theorem flX2_15 : z_FL RX2 15 2 1 (.array .int) 1 := ⟨_, _, _, tyX2, rfl, fcX2, by decide, z_inF (i := 101) (by decide +kernel) rfl, tyX2_ok, nmX2, by decide +kernel, by decide +kernel, by decide +kernel⟩
theorem flX2_18 : z_FL RX2 18 2 2 (.array .int) 1 := ⟨_, _, _, tyX2, rfl, fcX2, by decide, z_inF (i := 102) (by decide +kernel) rfl, tyX2_ok, nmX2, by decide +kernel, by decide +kernel, by decide +kernel⟩
theorem flX2_21 : z_FL RX2 21 2 3 (.array .int) 1 := ⟨_, _, _, tyX2, rfl, fcX2, by decide, z_inF (i := 103) (by decide +kernel) rfl, tyX2_ok, nmX2, by decide +kernel, by decide +kernel, by decide +kernel⟩
theorem flX2_24 : z_FL RX2 24 2 4 .int 0 := ⟨_, _, _, tyX2, rfl, fcX2, by decide, z_inF (i := 104) (by decide +kernel) rfl, tyX2_ok, nmX2, by decide +kernel, by decide +kernel, by decide +kernel⟩
theorem clX11_36 : Cond.classLink RX11 36 RX3 ∈ z_F := z_inF (i := 116) (by decide +kernel) rfl
theorem insX3 : Cond.instantiable RX3 14 ∈ z_F := z_inF (i := 117) (by decide +kernel) rfl
theorem mnX11_38 : Cond.methodLinkNest RX11 38 yX3_init "BogForge" ∈ lw_tbl := List.mem_of_getElem? (i := 118) (by decide +kernel)
theorem im_X3_init : Cond.instanceMethod yX3_init ∈ z_F := z_inF (i := 119) (by decide +kernel) rfl
theorem ym_X3_init : z_ym yX3_init cX3_init 1 none 0 := ⟨z_inF (i := 120) (by decide +kernel) rfl, z_inF (i := 40) (by decide +kernel) rfl, by decide +kernel, by decide +kernel, by decide +kernel, by decide +kernel, by decide⟩
theorem mlX3_3 : Cond.methodLink RX3 3 objectInit ∈ z_F := z_inF (i := 121) (by decide +kernel) rfl
theorem flX3_9 : z_FL RX3 9 3 0 (.array .int) 1 := ⟨_, _, _, tyX3, rfl, fcX3, by decide, z_inF (i := 122) (by decide +kernel) rfl, tyX3_ok, nmX3, by decide +kernel, by decide +kernel, by decide +kernel⟩
theorem flX11_184 : z_FL RX11 184 3 0 (.array .int) 2 := ⟨_, _, _, tyX3, rfl, fcX3, by decide, z_inF (i := 123) (by decide +kernel) rfl, tyX3_ok, nmX3, by decide +kernel, by decide +kernel, by decide +kernel⟩
theorem flX3_15 : z_FL RX3 15 3 1 (.array .int) 1 := ⟨_, _, _, tyX3, rfl, fcX3, by decide, z_inF (i := 124) (by decide +kernel) rfl, tyX3_ok, nmX3, by decide +kernel, by decide +kernel, by decide +kernel⟩
theorem flX11_214 : z_FL RX11 214 3 1 (.array .int) 2 := ⟨_, _, _, tyX3, rfl, fcX3, by decide, z_inF (i := 125) (by decide +kernel) rfl, tyX3_ok, nmX3, by decide +kernel, by decide +kernel, by decide +kernel⟩
theorem flX3_18 : z_FL RX3 18 3 2 (.array .int) 1 := ⟨_, _, _, tyX3, rfl, fcX3, by decide, z_inF (i := 126) (by decide +kernel) rfl, tyX3_ok, nmX3, by decide +kernel, by decide +kernel, by decide +kernel⟩
theorem flX11_189 : z_FL RX11 189 3 2 (.array .int) 2 := ⟨_, _, _, tyX3, rfl, fcX3, by decide, z_inF (i := 127) (by decide +kernel) rfl, tyX3_ok, nmX3, by decide +kernel, by decide +kernel, by decide +kernel⟩
theorem flX3_31 : z_FL RX3 31 3 3 .int 0 := ⟨_, _, _, tyX3, rfl, fcX3, by decide, z_inF (i := 128) (by decide +kernel) rfl, tyX3_ok, nmX3, by decide +kernel, by decide +kernel, by decide +kernel⟩
theorem flX2_77 : z_FL RX2 77 3 3 .int 0 := ⟨_, _, _, tyX3, rfl, fcX3, by decide, z_inF (i := 129) (by decide +kernel) rfl, tyX3_ok, nmX3, by decide +kernel, by decide +kernel, by decide +kernel⟩
theorem flX11_192 : z_FL RX11 192 3 3 .int 0 := ⟨_, _, _, tyX3, rfl, fcX3, by decide, z_inF (i := 130) (by decide +kernel) rfl, tyX3_ok, nmX3, by decide +kernel, by decide +kernel, by decide +kernel⟩
theorem flX3_34 : z_FL RX3 34 3 4 .int 0 := ⟨_, _, _, tyX3, rfl, fcX3, by decide, z_inF (i := 131) (by decide +kernel) rfl, tyX3_ok, nmX3, by decide +kernel, by decide +kernel, by decide +kernel⟩
theorem flX2_74 : z_FL RX2 74 3 4 .int 0 := ⟨_, _, _, tyX3, rfl, fcX3, by decide, z_inF (i := 132) (by decide +kernel) rfl, tyX3_ok, nmX3, by decide +kernel, by decide +kernel, by decide +kernel⟩
theorem flX11_195 : z_FL RX11 195 3 4 .int 0 := ⟨_, _, _, tyX3, rfl, fcX3, by decide, z_inF (i := 133) (by decide +kernel) rfl, tyX3_ok, nmX3, by decide +kernel, by decide +kernel, by decide +kernel⟩
theorem flX3_65 : z_FL RX3 65 3 5 .int 0 := ⟨_, _, _, tyX3, rfl, fcX3, by decide, z_inF (i := 134) (by decide +kernel) rfl, tyX3_ok, nmX3, by decide +kernel, by decide +kernel, by decide +kernel⟩
theorem flX11_246 : z_FL RX11 246 3 5 .int 0 := ⟨_, _, _, tyX3, rfl, fcX3, by decide, z_inF (i := 135) (by decide +kernel) rfl, tyX3_ok, nmX3, by decide +kernel, by decide +kernel, by decide +kernel⟩
theorem flX3_44 : z_FL RX3 44 3 6 .int 0 := ⟨_, _, _, tyX3, rfl, fcX3, by decide, z_inF (i := 136) (by decide +kernel) rfl, tyX3_ok, nmX3, by decide +kernel, by decide +kernel, by decide +kernel⟩
theorem flX11_205 : z_FL RX11 205 3 6 .int 0 := ⟨_, _, _, tyX3, rfl, fcX3, by decide, z_inF (i := 137) (by decide +kernel) rfl, tyX3_ok, nmX3, by decide +kernel, by decide +kernel, by decide +kernel⟩
theorem flX3_41 : z_FL RX3 41 3 7 .int 0 := ⟨_, _, _, tyX3, rfl, fcX3, by decide, z_inF (i := 138) (by decide +kernel) rfl, tyX3_ok, nmX3, by decide +kernel, by decide +kernel, by decide +kernel⟩
theorem flX2_71 : z_FL RX2 71 3 7 .int 0 := ⟨_, _, _, tyX3, rfl, fcX3, by decide, z_inF (i := 139) (by decide +kernel) rfl, tyX3_ok, nmX3, by decide +kernel, by decide +kernel, by decide +kernel⟩
theorem flX11_198 : z_FL RX11 198 3 7 .int 0 := ⟨_, _, _, tyX3, rfl, fcX3, by decide, z_inF (i := 140) (by decide +kernel) rfl, tyX3_ok, nmX3, by decide +kernel, by decide +kernel, by decide +kernel⟩
theorem flX3_47 : z_FL RX3 47 3 8 .int 0 := ⟨_, _, _, tyX3, rfl, fcX3, by decide, z_inF (i := 141) (by decide +kernel) rfl, tyX3_ok, nmX3, by decide +kernel, by decide +kernel, by decide +kernel⟩
theorem flX2_68 : z_FL RX2 68 3 8 .int 0 := ⟨_, _, _, tyX3, rfl, fcX3, by decide, z_inF (i := 142) (by decide +kernel) rfl, tyX3_ok, nmX3, by decide +kernel, by decide +kernel, by decide +kernel⟩
theorem flX11_208 : z_FL RX11 208 3 8 .int 0 := ⟨_, _, _, tyX3, rfl, fcX3, by decide, z_inF (i := 143) (by decide +kernel) rfl, tyX3_ok, nmX3, by decide +kernel, by decide +kernel, by decide +kernel⟩
theorem flX3_56 : z_FL RX3 56 3 9 .int 0 := ⟨_, _, _, tyX3, rfl, fcX3, by decide, z_inF (i := 144) (by decide +kernel) rfl, tyX3_ok, nmX3, by decide +kernel, by decide +kernel, by decide +kernel⟩
theorem flX2_63 : z_FL RX2 63 3 9 .int 0 := ⟨_, _, _, tyX3, rfl, fcX3, by decide, z_inF (i := 145) (by decide +kernel) rfl, tyX3_ok, nmX3, by decide +kernel, by decide +kernel, by decide +kernel⟩
theorem flX11_211 : z_FL RX11 211 3 9 .int 0 := ⟨_, _, _, tyX3, rfl, fcX3, by decide, z_inF (i := 146) (by decide +kernel) rfl, tyX3_ok, nmX3, by decide +kernel, by decide +kernel, by decide +kernel⟩
theorem flX3_84 : z_FL RX3 84 3 10 .int 0 := ⟨_, _, _, tyX3, rfl, fcX3, by decide, z_inF (i := 147) (by decide +kernel) rfl, tyX3_ok, nmX3, by decide +kernel, by decide +kernel, by decide +kernel⟩
theorem flX11_217 : z_FL RX11 217 3 10 .int 0 := ⟨_, _, _, tyX3, rfl, fcX3, by decide, z_inF (i := 148) (by decide +kernel) rfl, tyX3_ok, nmX3, by decide +kernel, by decide +kernel, by decide +kernel⟩
theorem flX3_21 : z_FL RX3 21 3 11 .int 0 := ⟨_, _, _, tyX3, rfl, fcX3, by decide, z_inF (i := 149) (by decide +kernel) rfl, tyX3_ok, nmX3, by decide +kernel, by decide +kernel, by decide +kernel⟩
theorem flX11_220 : z_FL RX11 220 3 11 .int 0 := ⟨_, _, _, tyX3, rfl, fcX3, by decide, z_inF (i := 150) (by decide +kernel) rfl, tyX3_ok, nmX3, by decide +kernel, by decide +kernel, by decide +kernel⟩
theorem flX3_25 : z_FL RX3 25 3 12 .int 0 := ⟨_, _, _, tyX3, rfl, fcX3, by decide, z_inF (i := 151) (by decide +kernel) rfl, tyX3_ok, nmX3, by decide +kernel, by decide +kernel, by decide +kernel⟩
theorem flX11_171 : z_FL RX11 171 3 12 .int 0 := ⟨_, _, _, tyX3, rfl, fcX3, by decide, z_inF (i := 152) (by decide +kernel) rfl, tyX3_ok, nmX3, by decide +kernel, by decide +kernel, by decide +kernel⟩
theorem flX3_28 : z_FL RX3 28 3 13 .int 0 := ⟨_, _, _, tyX3, rfl, fcX3, by decide, z_inF (i := 153) (by decide +kernel) rfl, tyX3_ok, nmX3, by decide +kernel, by decide +kernel, by decide +kernel⟩
theorem flX11_174 : z_FL RX11 174 3 13 .int 0 := ⟨_, _, _, tyX3, rfl, fcX3, by decide, z_inF (i := 154) (by decide +kernel) rfl, tyX3_ok, nmX3, by decide +kernel, by decide +kernel, by decide +kernel⟩
theorem clX11_43 : Cond.classLink RX11 43 RX0 ∈ z_F := z_inF (i := 184) (by decide +kernel) rfl
theorem aoX0 : Cond.arrayOver (.object RX0) ∈ lw_tbl := List.mem_of_getElem? (i := 185) (by decide +kernel)
theorem clX11_49 : Cond.classLink RX11 49 RX8 ∈ z_F := z_inF (i := 186) (by decide +kernel) rfl
theorem insX8 : Cond.instantiable RX8 5 ∈ z_F := z_inF (i := 187) (by decide +kernel) rfl
theorem mnX11_51 : Cond.methodLinkNest RX11 51 yX8_init "BogForge" ∈ lw_tbl := List.mem_of_getElem? (i := 188) (by decide +kernel)
theorem im_X8_init : Cond.instanceMethod yX8_init ∈ z_F := z_inF (i := 189) (by decide +kernel) rfl
theorem ym_X8_init : z_ym yX8_init cX8_init 1 none 0 := ⟨z_inF (i := 190) (by decide +kernel) rfl, z_inF (i := 41) (by decide +kernel) rfl, by decide +kernel, by decide +kernel, by decide +kernel, by decide +kernel, by decide⟩
theorem mlX8_3 : Cond.methodLink RX8 3 objectInit ∈ z_F := z_inF (i := 191) (by decide +kernel) rfl
theorem flX8_9 : z_FL RX8 9 8 0 (.array .int) 1 := ⟨_, _, _, tyX8, rfl, fcX8, by decide, z_inF (i := 192) (by decide +kernel) rfl, tyX8_ok, nmX8, by decide +kernel, by decide +kernel, by decide +kernel⟩
theorem flX8_15 : z_FL RX8 15 8 1 (.array .int) 1 := ⟨_, _, _, tyX8, rfl, fcX8, by decide, z_inF (i := 193) (by decide +kernel) rfl, tyX8_ok, nmX8, by decide +kernel, by decide +kernel, by decide +kernel⟩
theorem flX8_18 : z_FL RX8 18 8 2 (.array .int) 1 := ⟨_, _, _, tyX8, rfl, fcX8, by decide, z_inF (i := 194) (by decide +kernel) rfl, tyX8_ok, nmX8, by decide +kernel, by decide +kernel, by decide +kernel⟩
theorem flX8_21 : z_FL RX8 21 8 3 (.array .int) 1 := ⟨_, _, _, tyX8, rfl, fcX8, by decide, z_inF (i := 195) (by decide +kernel) rfl, tyX8_ok, nmX8, by decide +kernel, by decide +kernel, by decide +kernel⟩
theorem flX8_24 : z_FL RX8 24 8 4 .int 0 := ⟨_, _, _, tyX8, rfl, fcX8, by decide, z_inF (i := 196) (by decide +kernel) rfl, tyX8_ok, nmX8, by decide +kernel, by decide +kernel, by decide +kernel⟩
theorem clX11_56 : Cond.classLink RX11 56 RX7 ∈ z_F := z_inF (i := 208) (by decide +kernel) rfl
theorem aoX7 : Cond.arrayOver (.object RX7) ∈ lw_tbl := List.mem_of_getElem? (i := 209) (by decide +kernel)
theorem clX11_62 : Cond.classLink RX11 62 RX4 ∈ z_F := z_inF (i := 210) (by decide +kernel) rfl
theorem insX4 : Cond.instantiable RX4 6 ∈ z_F := z_inF (i := 211) (by decide +kernel) rfl
theorem mnX11_64 : Cond.methodLinkNest RX11 64 yX4_init "BogForge" ∈ lw_tbl := List.mem_of_getElem? (i := 212) (by decide +kernel)
theorem im_X4_init : Cond.instanceMethod yX4_init ∈ z_F := z_inF (i := 213) (by decide +kernel) rfl
theorem ym_X4_init : z_ym yX4_init cX4_init 1 none 0 := ⟨z_inF (i := 214) (by decide +kernel) rfl, z_inF (i := 42) (by decide +kernel) rfl, by decide +kernel, by decide +kernel, by decide +kernel, by decide +kernel, by decide⟩
theorem mlX4_3 : Cond.methodLink RX4 3 objectInit ∈ z_F := z_inF (i := 215) (by decide +kernel) rfl
theorem flX4_9 : z_FL RX4 9 4 0 (.array .int) 0 := ⟨_, _, _, tyX4, rfl, fcX4, by decide, z_inF (i := 216) (by decide +kernel) rfl, tyX4_ok, nmX4, by decide +kernel, by decide +kernel, by decide +kernel⟩
theorem flX11_298 : z_FL RX11 298 4 0 (.array .int) 0 := ⟨_, _, _, tyX4, rfl, fcX4, by decide, z_inF (i := 217) (by decide +kernel) rfl, tyX4_ok, nmX4, by decide +kernel, by decide +kernel, by decide +kernel⟩
theorem flX4_15 : z_FL RX4 15 4 1 (.array .int) 0 := ⟨_, _, _, tyX4, rfl, fcX4, by decide, z_inF (i := 218) (by decide +kernel) rfl, tyX4_ok, nmX4, by decide +kernel, by decide +kernel, by decide +kernel⟩
theorem flX11_301 : z_FL RX11 301 4 1 (.array .int) 0 := ⟨_, _, _, tyX4, rfl, fcX4, by decide, z_inF (i := 219) (by decide +kernel) rfl, tyX4_ok, nmX4, by decide +kernel, by decide +kernel, by decide +kernel⟩
theorem flX4_18 : z_FL RX4 18 4 2 (.array .int) 0 := ⟨_, _, _, tyX4, rfl, fcX4, by decide, z_inF (i := 220) (by decide +kernel) rfl, tyX4_ok, nmX4, by decide +kernel, by decide +kernel, by decide +kernel⟩
theorem flX11_304 : z_FL RX11 304 4 2 (.array .int) 0 := ⟨_, _, _, tyX4, rfl, fcX4, by decide, z_inF (i := 221) (by decide +kernel) rfl, tyX4_ok, nmX4, by decide +kernel, by decide +kernel, by decide +kernel⟩
theorem flX4_21 : z_FL RX4 21 4 3 (.array .int) 0 := ⟨_, _, _, tyX4, rfl, fcX4, by decide, z_inF (i := 222) (by decide +kernel) rfl, tyX4_ok, nmX4, by decide +kernel, by decide +kernel, by decide +kernel⟩
theorem flX11_307 : z_FL RX11 307 4 3 (.array .int) 0 := ⟨_, _, _, tyX4, rfl, fcX4, by decide, z_inF (i := 223) (by decide +kernel) rfl, tyX4_ok, nmX4, by decide +kernel, by decide +kernel, by decide +kernel⟩
theorem flX4_24 : z_FL RX4 24 4 4 (.array .int) 1 := ⟨_, _, _, tyX4, rfl, fcX4, by decide, z_inF (i := 224) (by decide +kernel) rfl, tyX4_ok, nmX4, by decide +kernel, by decide +kernel, by decide +kernel⟩
theorem flX11_310 : z_FL RX11 310 4 4 (.array .int) 2 := ⟨_, _, _, tyX4, rfl, fcX4, by decide, z_inF (i := 225) (by decide +kernel) rfl, tyX4_ok, nmX4, by decide +kernel, by decide +kernel, by decide +kernel⟩
theorem flX4_27 : z_FL RX4 27 4 5 .int 0 := ⟨_, _, _, tyX4, rfl, fcX4, by decide, z_inF (i := 226) (by decide +kernel) rfl, tyX4_ok, nmX4, by decide +kernel, by decide +kernel, by decide +kernel⟩
theorem flX11_295 : z_FL RX11 295 4 5 .int 0 := ⟨_, _, _, tyX4, rfl, fcX4, by decide, z_inF (i := 227) (by decide +kernel) rfl, tyX4_ok, nmX4, by decide +kernel, by decide +kernel, by decide +kernel⟩
theorem clX11_69 : Cond.classLink RX11 69 RX5 ∈ z_F := z_inF (i := 241) (by decide +kernel) rfl
theorem insX5 : Cond.instantiable RX5 10 ∈ z_F := z_inF (i := 242) (by decide +kernel) rfl
theorem mnX11_71 : Cond.methodLinkNest RX11 71 yX5_init "BogForge" ∈ lw_tbl := List.mem_of_getElem? (i := 243) (by decide +kernel)
theorem im_X5_init : Cond.instanceMethod yX5_init ∈ z_F := z_inF (i := 244) (by decide +kernel) rfl
theorem ym_X5_init : z_ym yX5_init cX5_init 1 none 0 := ⟨z_inF (i := 245) (by decide +kernel) rfl, z_inF (i := 43) (by decide +kernel) rfl, by decide +kernel, by decide +kernel, by decide +kernel, by decide +kernel, by decide⟩
theorem mlX5_3 : Cond.methodLink RX5 3 objectInit ∈ z_F := z_inF (i := 246) (by decide +kernel) rfl
theorem flX5_9 : z_FL RX5 9 5 0 (.array .int) 1 := ⟨_, _, _, tyX5, rfl, fcX5, by decide, z_inF (i := 247) (by decide +kernel) rfl, tyX5_ok, nmX5, by decide +kernel, by decide +kernel, by decide +kernel⟩
theorem flX5_15 : z_FL RX5 15 5 1 (.array .int) 1 := ⟨_, _, _, tyX5, rfl, fcX5, by decide, z_inF (i := 248) (by decide +kernel) rfl, tyX5_ok, nmX5, by decide +kernel, by decide +kernel, by decide +kernel⟩
theorem flX5_18 : z_FL RX5 18 5 2 (.array .int) 1 := ⟨_, _, _, tyX5, rfl, fcX5, by decide, z_inF (i := 249) (by decide +kernel) rfl, tyX5_ok, nmX5, by decide +kernel, by decide +kernel, by decide +kernel⟩
theorem flX11_349 : z_FL RX11 349 5 2 (.array .int) 2 := ⟨_, _, _, tyX5, rfl, fcX5, by decide, z_inF (i := 250) (by decide +kernel) rfl, tyX5_ok, nmX5, by decide +kernel, by decide +kernel, by decide +kernel⟩
theorem flX5_37 : z_FL RX5 37 5 3 .int 0 := ⟨_, _, _, tyX5, rfl, fcX5, by decide, z_inF (i := 251) (by decide +kernel) rfl, tyX5_ok, nmX5, by decide +kernel, by decide +kernel, by decide +kernel⟩
theorem flX11_344 : z_FL RX11 344 5 3 .int 0 := ⟨_, _, _, tyX5, rfl, fcX5, by decide, z_inF (i := 252) (by decide +kernel) rfl, tyX5_ok, nmX5, by decide +kernel, by decide +kernel, by decide +kernel⟩
theorem flX5_21 : z_FL RX5 21 5 4 (.array .int) 1 := ⟨_, _, _, tyX5, rfl, fcX5, by decide, z_inF (i := 253) (by decide +kernel) rfl, tyX5_ok, nmX5, by decide +kernel, by decide +kernel, by decide +kernel⟩
theorem flX5_24 : z_FL RX5 24 5 5 (.array .int) 1 := ⟨_, _, _, tyX5, rfl, fcX5, by decide, z_inF (i := 254) (by decide +kernel) rfl, tyX5_ok, nmX5, by decide +kernel, by decide +kernel, by decide +kernel⟩
theorem flX5_27 : z_FL RX5 27 5 6 (.array .boolean) 1 := ⟨_, _, _, tyX5, rfl, fcX5, by decide, z_inF (i := 255) (by decide +kernel) rfl, tyX5_ok, nmX5, by decide +kernel, by decide +kernel, by decide +kernel⟩
theorem flX5_31 : z_FL RX5 31 5 7 (.array .int) 1 := ⟨_, _, _, tyX5, rfl, fcX5, by decide, z_inF (i := 256) (by decide +kernel) rfl, tyX5_ok, nmX5, by decide +kernel, by decide +kernel, by decide +kernel⟩
theorem flX5_34 : z_FL RX5 34 5 8 (.array .int) 1 := ⟨_, _, _, tyX5, rfl, fcX5, by decide, z_inF (i := 257) (by decide +kernel) rfl, tyX5_ok, nmX5, by decide +kernel, by decide +kernel, by decide +kernel⟩
theorem flX5_47 : z_FL RX5 47 5 9 .int 0 := ⟨_, _, _, tyX5, rfl, fcX5, by decide, z_inF (i := 258) (by decide +kernel) rfl, tyX5_ok, nmX5, by decide +kernel, by decide +kernel, by decide +kernel⟩
theorem ac_boolean : Cond.arrayClass .boolean ∈ lw_tbl := List.mem_of_getElem? (i := 280) (by decide +kernel)
theorem clX11_76 : Cond.classLink RX11 76 RX6 ∈ z_F := z_inF (i := 281) (by decide +kernel) rfl
theorem insX6 : Cond.instantiable RX6 2 ∈ z_F := z_inF (i := 282) (by decide +kernel) rfl
theorem mnX11_78 : Cond.methodLinkNest RX11 78 yX6_init "BogForge" ∈ lw_tbl := List.mem_of_getElem? (i := 283) (by decide +kernel)
theorem im_X6_init : Cond.instanceMethod yX6_init ∈ z_F := z_inF (i := 284) (by decide +kernel) rfl
theorem ym_X6_init : z_ym yX6_init cX6_init 1 none 0 := ⟨z_inF (i := 285) (by decide +kernel) rfl, z_inF (i := 44) (by decide +kernel) rfl, by decide +kernel, by decide +kernel, by decide +kernel, by decide +kernel, by decide⟩
theorem mlX6_3 : Cond.methodLink RX6 3 objectInit ∈ z_F := z_inF (i := 286) (by decide +kernel) rfl
theorem flX6_9 : z_FL RX6 9 6 0 (.array .int) 1 := ⟨_, _, _, tyX6, rfl, fcX6, by decide, z_inF (i := 287) (by decide +kernel) rfl, tyX6_ok, nmX6, by decide +kernel, by decide +kernel, by decide +kernel⟩
theorem flX11_333 : z_FL RX11 333 6 0 (.array .int) 2 := ⟨_, _, _, tyX6, rfl, fcX6, by decide, z_inF (i := 288) (by decide +kernel) rfl, tyX6_ok, nmX6, by decide +kernel, by decide +kernel, by decide +kernel⟩
theorem flX6_15 : z_FL RX6 15 6 1 (.array .long) 1 := ⟨_, _, _, tyX6, rfl, fcX6, by decide, z_inF (i := 289) (by decide +kernel) rfl, tyX6_ok, nmX6, by decide +kernel, by decide +kernel, by decide +kernel⟩
theorem ac_long : Cond.arrayClass .long ∈ lw_tbl := List.mem_of_getElem? (i := 295) (by decide +kernel)
theorem flX11_110 : z_FL RX11 110 11 0 .int 0 := ⟨_, _, _, tyX11, rfl, fcX11, by decide, z_inF (i := 296) (by decide +kernel) rfl, tyX11_ok, nmX11, by decide +kernel, by decide +kernel, by decide +kernel⟩
theorem flX11_11 : z_FL RX11 11 11 1 (.array (.object "BogForge$Bog")) 1 := ⟨_, _, _, tyX11, rfl, fcX11, by decide, z_inF (i := 297) (by decide +kernel) rfl, tyX11_ok, nmX11, by decide +kernel, by decide +kernel, by decide +kernel⟩
theorem flX11_87 : z_FL RX11 87 11 2 .int 0 := ⟨_, _, _, tyX11, rfl, fcX11, by decide, z_inF (i := 298) (by decide +kernel) rfl, tyX11_ok, nmX11, by decide +kernel, by decide +kernel, by decide +kernel⟩
theorem flX11_18 : z_FL RX11 18 11 3 (.object "BogForge$Yard") 1 := ⟨_, _, _, tyX11, rfl, fcX11, by decide, z_inF (i := 299) (by decide +kernel) rfl, tyX11_ok, nmX11, by decide +kernel, by decide +kernel, by decide +kernel⟩
theorem flX11_25 : z_FL RX11 25 11 4 (.object "BogForge$Tape") 1 := ⟨_, _, _, tyX11, rfl, fcX11, by decide, z_inF (i := 300) (by decide +kernel) rfl, tyX11_ok, nmX11, by decide +kernel, by decide +kernel, by decide +kernel⟩
theorem flX11_32 : z_FL RX11 32 11 5 (.object "BogForge$Founder") 1 := ⟨_, _, _, tyX11, rfl, fcX11, by decide, z_inF (i := 301) (by decide +kernel) rfl, tyX11_ok, nmX11, by decide +kernel, by decide +kernel, by decide +kernel⟩
theorem flX11_39 : z_FL RX11 39 11 6 (.object "BogForge$Hearth") 1 := ⟨_, _, _, tyX11, rfl, fcX11, by decide, z_inF (i := 302) (by decide +kernel) rfl, tyX11_ok, nmX11, by decide +kernel, by decide +kernel, by decide +kernel⟩
theorem flX11_45 : z_FL RX11 45 11 7 (.array (.object "BogForge$Bar")) 1 := ⟨_, _, _, tyX11, rfl, fcX11, by decide, z_inF (i := 303) (by decide +kernel) rfl, tyX11_ok, nmX11, by decide +kernel, by decide +kernel, by decide +kernel⟩
theorem flX11_223 : z_FL RX11 223 11 8 .int 0 := ⟨_, _, _, tyX11, rfl, fcX11, by decide, z_inF (i := 304) (by decide +kernel) rfl, tyX11_ok, nmX11, by decide +kernel, by decide +kernel, by decide +kernel⟩
theorem flX11_250 : z_FL RX11 250 11 9 .int 0 := ⟨_, _, _, tyX11, rfl, fcX11, by decide, z_inF (i := 305) (by decide +kernel) rfl, tyX11_ok, nmX11, by decide +kernel, by decide +kernel, by decide +kernel⟩
theorem flX11_52 : z_FL RX11 52 11 10 (.object "BogForge$Rights") 1 := ⟨_, _, _, tyX11, rfl, fcX11, by decide, z_inF (i := 306) (by decide +kernel) rfl, tyX11_ok, nmX11, by decide +kernel, by decide +kernel, by decide +kernel⟩
theorem flX11_58 : z_FL RX11 58 11 11 (.array (.object "BogForge$Pay")) 1 := ⟨_, _, _, tyX11, rfl, fcX11, by decide, z_inF (i := 307) (by decide +kernel) rfl, tyX11_ok, nmX11, by decide +kernel, by decide +kernel, by decide +kernel⟩
theorem flX11_285 : z_FL RX11 285 11 12 .int 0 := ⟨_, _, _, tyX11, rfl, fcX11, by decide, z_inF (i := 308) (by decide +kernel) rfl, tyX11_ok, nmX11, by decide +kernel, by decide +kernel, by decide +kernel⟩
theorem flX11_65 : z_FL RX11 65 11 13 (.object "BogForge$Ledger") 1 := ⟨_, _, _, tyX11, rfl, fcX11, by decide, z_inF (i := 309) (by decide +kernel) rfl, tyX11_ok, nmX11, by decide +kernel, by decide +kernel, by decide +kernel⟩
theorem flX11_72 : z_FL RX11 72 11 14 (.object "BogForge$Orders") 1 := ⟨_, _, _, tyX11, rfl, fcX11, by decide, z_inF (i := 310) (by decide +kernel) rfl, tyX11_ok, nmX11, by decide +kernel, by decide +kernel, by decide +kernel⟩
theorem flX11_79 : z_FL RX11 79 11 15 (.object "BogForge$Parting") 1 := ⟨_, _, _, tyX11, rfl, fcX11, by decide, z_inF (i := 311) (by decide +kernel) rfl, tyX11_ok, nmX11, by decide +kernel, by decide +kernel, by decide +kernel⟩
theorem flX11_83 : z_FL RX11 83 11 16 (.array .int) 1 := ⟨_, _, _, tyX11, rfl, fcX11, by decide, z_inF (i := 312) (by decide +kernel) rfl, tyX11_ok, nmX11, by decide +kernel, by decide +kernel, by decide +kernel⟩
theorem mlL_13 : Cond.methodLink RL 13 yX11_bog ∈ z_F := z_inF (i := 348) (by decide +kernel) rfl
theorem im_X11_bog : Cond.instanceMethod yX11_bog ∈ z_F := z_inF (i := 349) (by decide +kernel) rfl
theorem se_X11_bog : Cond.selects RX11 yX11_bog yX11_bog ∈ z_F := z_inF (i := 350) (by decide +kernel) rfl
theorem ym_X11_bog : z_ym yX11_bog cX11_bog 4 (some .int) 3 := ⟨z_inF (i := 351) (by decide +kernel) rfl, z_inF (i := 36) (by decide +kernel) rfl, by decide +kernel, by decide +kernel, by decide +kernel, by decide +kernel, by decide⟩
theorem kcX11_91 : Cond.constant RX11 91 (100000) ∈ lw_tbl := List.mem_of_getElem? (i := 352) (by decide +kernel)
theorem mlX11_92 : Cond.methodLink RX11 92 yX11_within ∈ z_F := z_inF (i := 353) (by decide +kernel) rfl
theorem sm_X11_within : Cond.static yX11_within ∈ z_F := z_inF (i := 354) (by decide +kernel) rfl
theorem ym_X11_within : z_ym yX11_within cX11_within 3 (some .boolean) 3 := ⟨z_inF (i := 355) (by decide +kernel) rfl, z_inF (i := 36) (by decide +kernel) rfl, by decide +kernel, by decide +kernel, by decide +kernel, by decide +kernel, by decide⟩
theorem insX1 : Cond.instantiable RX1 6 ∈ z_F := z_inF (i := 356) (by decide +kernel) rfl
theorem mlX11_96 : Cond.methodLink RX11 96 yX1_init ∈ z_F := z_inF (i := 357) (by decide +kernel) rfl
theorem im_X1_init : Cond.instanceMethod yX1_init ∈ z_F := z_inF (i := 358) (by decide +kernel) rfl
theorem ym_X1_init : z_ym yX1_init cX1_init 4 none 3 := ⟨z_inF (i := 359) (by decide +kernel) rfl, z_inF (i := 46) (by decide +kernel) rfl, by decide +kernel, by decide +kernel, by decide +kernel, by decide +kernel, by decide⟩
theorem mlX1_3 : Cond.methodLink RX1 3 objectInit ∈ z_F := z_inF (i := 360) (by decide +kernel) rfl
theorem flX1_18 : z_FL RX1 18 1 0 .int 0 := ⟨_, _, _, tyX1, rfl, fcX1, by decide, z_inF (i := 361) (by decide +kernel) rfl, tyX1_ok, nmX1, by decide +kernel, by decide +kernel, by decide +kernel⟩
theorem flX11_107 : z_FL RX11 107 1 0 .int 0 := ⟨_, _, _, tyX1, rfl, fcX1, by decide, z_inF (i := 362) (by decide +kernel) rfl, tyX1_ok, nmX1, by decide +kernel, by decide +kernel, by decide +kernel⟩
theorem flX1_21 : z_FL RX1 21 1 1 .int 1 := ⟨_, _, _, tyX1, rfl, fcX1, by decide, z_inF (i := 363) (by decide +kernel) rfl, tyX1_ok, nmX1, by decide +kernel, by decide +kernel, by decide +kernel⟩
theorem flX11_134 : z_FL RX11 134 1 1 .int 2 := ⟨_, _, _, tyX1, rfl, fcX1, by decide, z_inF (i := 364) (by decide +kernel) rfl, tyX1_ok, nmX1, by decide +kernel, by decide +kernel, by decide +kernel⟩
theorem flX1_24 : z_FL RX1 24 1 2 .int 1 := ⟨_, _, _, tyX1, rfl, fcX1, by decide, z_inF (i := 365) (by decide +kernel) rfl, tyX1_ok, nmX1, by decide +kernel, by decide +kernel, by decide +kernel⟩
theorem flX11_137 : z_FL RX11 137 1 2 .int 2 := ⟨_, _, _, tyX1, rfl, fcX1, by decide, z_inF (i := 366) (by decide +kernel) rfl, tyX1_ok, nmX1, by decide +kernel, by decide +kernel, by decide +kernel⟩
theorem flX1_27 : z_FL RX1 27 1 3 .int 0 := ⟨_, _, _, tyX1, rfl, fcX1, by decide, z_inF (i := 367) (by decide +kernel) rfl, tyX1_ok, nmX1, by decide +kernel, by decide +kernel, by decide +kernel⟩
theorem flX11_140 : z_FL RX11 140 1 3 .int 0 := ⟨_, _, _, tyX1, rfl, fcX1, by decide, z_inF (i := 368) (by decide +kernel) rfl, tyX1_ok, nmX1, by decide +kernel, by decide +kernel, by decide +kernel⟩
theorem flX1_9 : z_FL RX1 9 1 4 .int 0 := ⟨_, _, _, tyX1, rfl, fcX1, by decide, z_inF (i := 369) (by decide +kernel) rfl, tyX1_ok, nmX1, by decide +kernel, by decide +kernel, by decide +kernel⟩
theorem flX11_143 : z_FL RX11 143 1 4 .int 0 := ⟨_, _, _, tyX1, rfl, fcX1, by decide, z_inF (i := 370) (by decide +kernel) rfl, tyX1_ok, nmX1, by decide +kernel, by decide +kernel, by decide +kernel⟩
theorem flX1_15 : z_FL RX1 15 1 5 .int 0 := ⟨_, _, _, tyX1, rfl, fcX1, by decide, z_inF (i := 371) (by decide +kernel) rfl, tyX1_ok, nmX1, by decide +kernel, by decide +kernel, by decide +kernel⟩
theorem flX11_117 : z_FL RX11 117 1 5 .int 0 := ⟨_, _, _, tyX1, rfl, fcX1, by decide, z_inF (i := 372) (by decide +kernel) rfl, tyX1_ok, nmX1, by decide +kernel, by decide +kernel, by decide +kernel⟩
theorem mlL_18 : Cond.methodLink RL 18 yX11_test ∈ z_F := z_inF (i := 386) (by decide +kernel) rfl
theorem im_X11_test : Cond.instanceMethod yX11_test ∈ z_F := z_inF (i := 387) (by decide +kernel) rfl
theorem se_X11_test : Cond.selects RX11 yX11_test yX11_test ∈ z_F := z_inF (i := 388) (by decide +kernel) rfl
theorem ym_X11_test : z_ym yX11_test cX11_test 5 (some .boolean) 3 := ⟨z_inF (i := 389) (by decide +kernel) rfl, z_inF (i := 36) (by decide +kernel) rfl, by decide +kernel, by decide +kernel, by decide +kernel, by decide +kernel, by decide⟩
theorem mlX11_99 : Cond.methodLink RX11 99 yX11_bogAt ∈ z_F := z_inF (i := 390) (by decide +kernel) rfl
theorem im_X11_bogAt : Cond.instanceMethod yX11_bogAt ∈ z_F := z_inF (i := 392) (by decide +kernel) rfl
theorem ym_X11_bogAt : z_ym yX11_bogAt cX11_bogAt 2 (some (.object "BogForge$Bog")) 1 := ⟨z_inF (i := 393) (by decide +kernel) rfl, z_inF (i := 36) (by decide +kernel) rfl, by decide +kernel, by decide +kernel, by decide +kernel, by decide +kernel, by decide⟩
theorem mlX11_103 : Cond.methodLink RX11 103 yX1_narrow ∈ z_F := z_inF (i := 394) (by decide +kernel) rfl
theorem im_X1_narrow : Cond.instanceMethod yX1_narrow ∈ z_F := z_inF (i := 395) (by decide +kernel) rfl
theorem se_X1_narrow : Cond.selects RX1 yX1_narrow yX1_narrow ∈ z_F := z_inF (i := 396) (by decide +kernel) rfl
theorem ym_X1_narrow : z_ym yX1_narrow cX1_narrow 3 (some .boolean) 2 := ⟨z_inF (i := 397) (by decide +kernel) rfl, z_inF (i := 46) (by decide +kernel) rfl, by decide +kernel, by decide +kernel, by decide +kernel, by decide +kernel, by decide⟩
theorem mlX1_30 : Cond.methodLink RX1 30 Lib.Math.max.name ∈ z_F := z_inF (i := 398) (by decide +kernel) rfl
theorem sm_Mmax : Cond.static Lib.Math.max.name ∈ z_F := z_inF (i := 399) (by decide +kernel) rfl
theorem co_Mmax : Cond.code Lib.Math.max.name Lib.Math.max.code 2 (some .int) ∈ z_F := z_inF (i := 400) (by decide +kernel) rfl
theorem mlX1_36 : Cond.methodLink RX1 36 Lib.Math.min.name ∈ z_F := z_inF (i := 401) (by decide +kernel) rfl
theorem sm_Mmin : Cond.static Lib.Math.min.name ∈ z_F := z_inF (i := 402) (by decide +kernel) rfl
theorem co_Mmin : Cond.code Lib.Math.min.name Lib.Math.min.code 2 (some .int) ∈ z_F := z_inF (i := 403) (by decide +kernel) rfl
theorem mlL_23 : Cond.methodLink RL 23 yX11_dig ∈ z_F := z_inF (i := 404) (by decide +kernel) rfl
theorem im_X11_dig : Cond.instanceMethod yX11_dig ∈ z_F := z_inF (i := 405) (by decide +kernel) rfl
theorem se_X11_dig : Cond.selects RX11 yX11_dig yX11_dig ∈ z_F := z_inF (i := 406) (by decide +kernel) rfl
theorem ym_X11_dig : z_ym yX11_dig cX11_dig 4 (some .int) 2 := ⟨z_inF (i := 407) (by decide +kernel) rfl, z_inF (i := 36) (by decide +kernel) rfl, by decide +kernel, by decide +kernel, by decide +kernel, by decide +kernel, by decide⟩
theorem mlX11_113 : Cond.methodLink RX11 113 yX1_restsIn ∈ z_F := z_inF (i := 408) (by decide +kernel) rfl
theorem im_X1_restsIn : Cond.instanceMethod yX1_restsIn ∈ z_F := z_inF (i := 409) (by decide +kernel) rfl
theorem se_X1_restsIn : Cond.selects RX1 yX1_restsIn yX1_restsIn ∈ z_F := z_inF (i := 410) (by decide +kernel) rfl
theorem ym_X1_restsIn : z_ym yX1_restsIn cX1_restsIn 2 (some .boolean) 1 := ⟨z_inF (i := 411) (by decide +kernel) rfl, z_inF (i := 46) (by decide +kernel) rfl, by decide +kernel, by decide +kernel, by decide +kernel, by decide +kernel, by decide⟩
theorem mlX11_120 : Cond.methodLink RX11 120 yX10_addOre ∈ z_F := z_inF (i := 412) (by decide +kernel) rfl
theorem im_X10_addOre : Cond.instanceMethod yX10_addOre ∈ z_F := z_inF (i := 413) (by decide +kernel) rfl
theorem se_X10_addOre : Cond.selects RX10 yX10_addOre yX10_addOre ∈ z_F := z_inF (i := 414) (by decide +kernel) rfl
theorem ym_X10_addOre : z_ym yX10_addOre cX10_addOre 3 (some .int) 2 := ⟨z_inF (i := 415) (by decide +kernel) rfl, z_inF (i := 37) (by decide +kernel) rfl, by decide +kernel, by decide +kernel, by decide +kernel, by decide +kernel, by decide⟩
theorem mlL_28 : Cond.methodLink RL 28 yX11_coal ∈ z_F := z_inF (i := 416) (by decide +kernel) rfl
theorem im_X11_coal : Cond.instanceMethod yX11_coal ∈ z_F := z_inF (i := 417) (by decide +kernel) rfl
theorem se_X11_coal : Cond.selects RX11 yX11_coal yX11_coal ∈ z_F := z_inF (i := 418) (by decide +kernel) rfl
theorem ym_X11_coal : z_ym yX11_coal cX11_coal 3 (some .int) 2 := ⟨z_inF (i := 419) (by decide +kernel) rfl, z_inF (i := 36) (by decide +kernel) rfl, by decide +kernel, by decide +kernel, by decide +kernel, by decide +kernel, by decide⟩
theorem mlX11_124 : Cond.methodLink RX11 124 yX10_addCoal ∈ z_F := z_inF (i := 420) (by decide +kernel) rfl
theorem im_X10_addCoal : Cond.instanceMethod yX10_addCoal ∈ z_F := z_inF (i := 421) (by decide +kernel) rfl
theorem se_X10_addCoal : Cond.selects RX10 yX10_addCoal yX10_addCoal ∈ z_F := z_inF (i := 422) (by decide +kernel) rfl
theorem ym_X10_addCoal : z_ym yX10_addCoal cX10_addCoal 3 (some .int) 2 := ⟨z_inF (i := 423) (by decide +kernel) rfl, z_inF (i := 37) (by decide +kernel) rfl, by decide +kernel, by decide +kernel, by decide +kernel, by decide +kernel, by decide⟩
theorem kcX10_18 : Cond.constant RX10 18 (1000000) ∈ lw_tbl := List.mem_of_getElem? (i := 424) (by decide +kernel)
theorem mlL_32 : Cond.methodLink RL 32 yX11_year ∈ z_F := z_inF (i := 425) (by decide +kernel) rfl
theorem im_X11_year : Cond.instanceMethod yX11_year ∈ z_F := z_inF (i := 426) (by decide +kernel) rfl
theorem se_X11_year : Cond.selects RX11 yX11_year yX11_year ∈ z_F := z_inF (i := 427) (by decide +kernel) rfl
theorem ym_X11_year : z_ym yX11_year cX11_year 3 (some .int) 0 := ⟨z_inF (i := 428) (by decide +kernel) rfl, z_inF (i := 36) (by decide +kernel) rfl, by decide +kernel, by decide +kernel, by decide +kernel, by decide +kernel, by decide⟩
theorem mlX11_127 : Cond.methodLink RX11 127 yX3_isFilled ∈ z_F := z_inF (i := 429) (by decide +kernel) rfl
theorem im_X3_isFilled : Cond.instanceMethod yX3_isFilled ∈ z_F := z_inF (i := 430) (by decide +kernel) rfl
theorem se_X3_isFilled : Cond.selects RX3 yX3_isFilled yX3_isFilled ∈ z_F := z_inF (i := 431) (by decide +kernel) rfl
theorem ym_X3_isFilled : z_ym yX3_isFilled cX3_isFilled 1 (some .boolean) 0 := ⟨z_inF (i := 432) (by decide +kernel) rfl, z_inF (i := 40) (by decide +kernel) rfl, by decide +kernel, by decide +kernel, by decide +kernel, by decide +kernel, by decide⟩
theorem mnX3_37 : Cond.methodLinkNest RX3 37 yX11_sumOf "BogForge" ∈ lw_tbl := List.mem_of_getElem? (i := 433) (by decide +kernel)
theorem sm_X11_sumOf : Cond.static yX11_sumOf ∈ z_F := z_inF (i := 434) (by decide +kernel) rfl
theorem ym_X11_sumOf : z_ym yX11_sumOf cX11_sumOf 3 (some .int) 1 := ⟨z_inF (i := 435) (by decide +kernel) rfl, z_inF (i := 36) (by decide +kernel) rfl, by decide +kernel, by decide +kernel, by decide +kernel, by decide +kernel, by decide⟩
theorem mlX11_131 : Cond.methodLink RX11 131 yX1_grow ∈ z_F := z_inF (i := 436) (by decide +kernel) rfl
theorem im_X1_grow : Cond.instanceMethod yX1_grow ∈ z_F := z_inF (i := 437) (by decide +kernel) rfl
theorem se_X1_grow : Cond.selects RX1 yX1_grow yX1_grow ∈ z_F := z_inF (i := 438) (by decide +kernel) rfl
theorem ym_X1_grow : z_ym yX1_grow cX1_grow 1 none 0 := ⟨z_inF (i := 439) (by decide +kernel) rfl, z_inF (i := 46) (by decide +kernel) rfl, by decide +kernel, by decide +kernel, by decide +kernel, by decide +kernel, by decide⟩
theorem kcX1_39 : Cond.constant RX1 39 (100000) ∈ lw_tbl := List.mem_of_getElem? (i := 440) (by decide +kernel)
theorem mlL_135 : Cond.methodLink RL 135 yX11_ground ∈ z_F := z_inF (i := 441) (by decide +kernel) rfl
theorem im_X11_ground : Cond.instanceMethod yX11_ground ∈ z_F := z_inF (i := 442) (by decide +kernel) rfl
theorem se_X11_ground : Cond.selects RX11 yX11_ground yX11_ground ∈ z_F := z_inF (i := 443) (by decide +kernel) rfl
theorem ym_X11_ground : z_ym yX11_ground cX11_ground 4 (some .int) 2 := ⟨z_inF (i := 444) (by decide +kernel) rfl, z_inF (i := 36) (by decide +kernel) rfl, by decide +kernel, by decide +kernel, by decide +kernel, by decide +kernel, by decide⟩
theorem mlX11_148 : Cond.methodLink RX11 148 yX11_itemOf ∈ z_F := z_inF (i := 445) (by decide +kernel) rfl
theorem sm_X11_itemOf : Cond.static yX11_itemOf ∈ z_F := z_inF (i := 446) (by decide +kernel) rfl
theorem ym_X11_itemOf : z_ym yX11_itemOf cX11_itemOf 2 (some .int) 2 := ⟨z_inF (i := 447) (by decide +kernel) rfl, z_inF (i := 36) (by decide +kernel) rfl, by decide +kernel, by decide +kernel, by decide +kernel, by decide +kernel, by decide⟩
theorem mlL_46 : Cond.methodLink RL 46 yX11_feed ∈ z_F := z_inF (i := 448) (by decide +kernel) rfl
theorem im_X11_feed : Cond.instanceMethod yX11_feed ∈ z_F := z_inF (i := 449) (by decide +kernel) rfl
theorem se_X11_feed : Cond.selects RX11 yX11_feed yX11_feed ∈ z_F := z_inF (i := 450) (by decide +kernel) rfl
theorem ym_X11_feed : z_ym yX11_feed cX11_feed 7 (some .int) 5 := ⟨z_inF (i := 451) (by decide +kernel) rfl, z_inF (i := 36) (by decide +kernel) rfl, by decide +kernel, by decide +kernel, by decide +kernel, by decide +kernel, by decide⟩
theorem mlX11_152 : Cond.methodLink RX11 152 yX9_bytesIn ∈ z_F := z_inF (i := 452) (by decide +kernel) rfl
theorem sm_X9_bytesIn : Cond.static yX9_bytesIn ∈ z_F := z_inF (i := 453) (by decide +kernel) rfl
theorem ym_X9_bytesIn : z_ym yX9_bytesIn cX9_bytesIn 3 (some .int) 1 := ⟨z_inF (i := 454) (by decide +kernel) rfl, z_inF (i := 38) (by decide +kernel) rfl, by decide +kernel, by decide +kernel, by decide +kernel, by decide +kernel, by decide⟩
theorem mlX11_159 : Cond.methodLink RX11 159 yX9_append ∈ z_F := z_inF (i := 455) (by decide +kernel) rfl
theorem im_X9_append : Cond.instanceMethod yX9_append ∈ z_F := z_inF (i := 456) (by decide +kernel) rfl
theorem se_X9_append : Cond.selects RX9 yX9_append yX9_append ∈ z_F := z_inF (i := 457) (by decide +kernel) rfl
theorem ym_X9_append : z_ym yX9_append cX9_append 4 none 1 := ⟨z_inF (i := 458) (by decide +kernel) rfl, z_inF (i := 38) (by decide +kernel) rfl, by decide +kernel, by decide +kernel, by decide +kernel, by decide +kernel, by decide⟩
theorem mlL_51 : Cond.methodLink RL 51 yX11_end ∈ z_F := z_inF (i := 459) (by decide +kernel) rfl
theorem im_X11_end : Cond.instanceMethod yX11_end ∈ z_F := z_inF (i := 460) (by decide +kernel) rfl
theorem se_X11_end : Cond.selects RX11 yX11_end yX11_end ∈ z_F := z_inF (i := 461) (by decide +kernel) rfl
theorem ym_X11_end : z_ym yX11_end cX11_end 2 (some .boolean) 1 := ⟨z_inF (i := 462) (by decide +kernel) rfl, z_inF (i := 36) (by decide +kernel) rfl, by decide +kernel, by decide +kernel, by decide +kernel, by decide +kernel, by decide⟩
theorem mlL_55 : Cond.methodLink RL 55 yX11_fault ∈ z_F := z_inF (i := 463) (by decide +kernel) rfl
theorem im_X11_fault : Cond.instanceMethod yX11_fault ∈ z_F := z_inF (i := 464) (by decide +kernel) rfl
theorem se_X11_fault : Cond.selects RX11 yX11_fault yX11_fault ∈ z_F := z_inF (i := 465) (by decide +kernel) rfl
theorem ym_X11_fault : z_ym yX11_fault cX11_fault 1 (some .int) 0 := ⟨z_inF (i := 466) (by decide +kernel) rfl, z_inF (i := 36) (by decide +kernel) rfl, by decide +kernel, by decide +kernel, by decide +kernel, by decide +kernel, by decide⟩
theorem mlX11_163 : Cond.methodLink RX11 163 yX9_firstFault ∈ z_F := z_inF (i := 467) (by decide +kernel) rfl
theorem im_X9_firstFault : Cond.instanceMethod yX9_firstFault ∈ z_F := z_inF (i := 468) (by decide +kernel) rfl
theorem se_X9_firstFault : Cond.selects RX9 yX9_firstFault yX9_firstFault ∈ z_F := z_inF (i := 469) (by decide +kernel) rfl
theorem ym_X9_firstFault : z_ym yX9_firstFault cX9_firstFault 3 (some .int) 0 := ⟨z_inF (i := 470) (by decide +kernel) rfl, z_inF (i := 38) (by decide +kernel) rfl, by decide +kernel, by decide +kernel, by decide +kernel, by decide +kernel, by decide⟩
theorem mlX9_23 : Cond.methodLink RX9 23 yX9_byteAt ∈ z_F := z_inF (i := 471) (by decide +kernel) rfl
theorem im_X9_byteAt : Cond.instanceMethod yX9_byteAt ∈ z_F := z_inF (i := 472) (by decide +kernel) rfl
theorem se_X9_byteAt : Cond.selects RX9 yX9_byteAt yX9_byteAt ∈ z_F := z_inF (i := 473) (by decide +kernel) rfl
theorem ym_X9_byteAt : z_ym yX9_byteAt cX9_byteAt 2 (some .int) 1 := ⟨z_inF (i := 474) (by decide +kernel) rfl, z_inF (i := 38) (by decide +kernel) rfl, by decide +kernel, by decide +kernel, by decide +kernel, by decide +kernel, by decide⟩
theorem mnX9_19 : Cond.methodLinkNest RX9 19 yX11_itemOf "BogForge" ∈ lw_tbl := List.mem_of_getElem? (i := 475) (by decide +kernel)
theorem mlX9_27 : Cond.methodLink RX9 27 yX9_after ∈ z_F := z_inF (i := 476) (by decide +kernel) rfl
theorem sm_X9_after : Cond.static yX9_after ∈ z_F := z_inF (i := 477) (by decide +kernel) rfl
theorem ym_X9_after : z_ym yX9_after cX9_after 2 (some .int) 2 := ⟨z_inF (i := 478) (by decide +kernel) rfl, z_inF (i := 38) (by decide +kernel) rfl, by decide +kernel, by decide +kernel, by decide +kernel, by decide +kernel, by decide⟩
theorem mlX9_31 : Cond.methodLink RX9 31 yX9_isLetter ∈ z_F := z_inF (i := 479) (by decide +kernel) rfl
theorem sm_X9_isLetter : Cond.static yX9_isLetter ∈ z_F := z_inF (i := 480) (by decide +kernel) rfl
theorem ym_X9_isLetter : z_ym yX9_isLetter cX9_isLetter 1 (some .boolean) 1 := ⟨z_inF (i := 481) (by decide +kernel) rfl, z_inF (i := 38) (by decide +kernel) rfl, by decide +kernel, by decide +kernel, by decide +kernel, by decide +kernel, by decide⟩
theorem mlX9_35 : Cond.methodLink RX9 35 yX9_isSign ∈ z_F := z_inF (i := 482) (by decide +kernel) rfl
theorem sm_X9_isSign : Cond.static yX9_isSign ∈ z_F := z_inF (i := 483) (by decide +kernel) rfl
theorem ym_X9_isSign : z_ym yX9_isSign cX9_isSign 1 (some .boolean) 1 := ⟨z_inF (i := 484) (by decide +kernel) rfl, z_inF (i := 38) (by decide +kernel) rfl, by decide +kernel, by decide +kernel, by decide +kernel, by decide +kernel, by decide⟩
theorem mlX9_38 : Cond.methodLink RX9 38 yX9_isDigit ∈ z_F := z_inF (i := 485) (by decide +kernel) rfl
theorem sm_X9_isDigit : Cond.static yX9_isDigit ∈ z_F := z_inF (i := 486) (by decide +kernel) rfl
theorem ym_X9_isDigit : z_ym yX9_isDigit cX9_isDigit 1 (some .boolean) 1 := ⟨z_inF (i := 487) (by decide +kernel) rfl, z_inF (i := 38) (by decide +kernel) rfl, by decide +kernel, by decide +kernel, by decide +kernel, by decide +kernel, by decide⟩
theorem mlX9_41 : Cond.methodLink RX9 41 yX9_afterDigit ∈ z_F := z_inF (i := 488) (by decide +kernel) rfl
theorem sm_X9_afterDigit : Cond.static yX9_afterDigit ∈ z_F := z_inF (i := 489) (by decide +kernel) rfl
theorem ym_X9_afterDigit : z_ym yX9_afterDigit cX9_afterDigit 2 (some .int) 2 := ⟨z_inF (i := 490) (by decide +kernel) rfl, z_inF (i := 38) (by decide +kernel) rfl, by decide +kernel, by decide +kernel, by decide +kernel, by decide +kernel, by decide⟩
theorem mlL_59 : Cond.methodLink RL 59 yX11_rules ∈ z_F := z_inF (i := 491) (by decide +kernel) rfl
theorem im_X11_rules : Cond.instanceMethod yX11_rules ∈ z_F := z_inF (i := 492) (by decide +kernel) rfl
theorem se_X11_rules : Cond.selects RX11 yX11_rules yX11_rules ∈ z_F := z_inF (i := 493) (by decide +kernel) rfl
theorem ym_X11_rules : z_ym yX11_rules cX11_rules 1 (some .boolean) 0 := ⟨z_inF (i := 494) (by decide +kernel) rfl, z_inF (i := 36) (by decide +kernel) rfl, by decide +kernel, by decide +kernel, by decide +kernel, by decide +kernel, by decide⟩
theorem mlX11_167 : Cond.methodLink RX11 167 yX2_learn ∈ z_F := z_inF (i := 495) (by decide +kernel) rfl
theorem im_X2_learn : Cond.instanceMethod yX2_learn ∈ z_F := z_inF (i := 496) (by decide +kernel) rfl
theorem se_X2_learn : Cond.selects RX2 yX2_learn yX2_learn ∈ z_F := z_inF (i := 497) (by decide +kernel) rfl
theorem ym_X2_learn : z_ym yX2_learn cX2_learn 5 none 1 := ⟨z_inF (i := 498) (by decide +kernel) rfl, z_inF (i := 39) (by decide +kernel) rfl, by decide +kernel, by decide +kernel, by decide +kernel, by decide +kernel, by decide⟩
theorem mlX2_33 : Cond.methodLink RX2 33 yX9_byteAt ∈ z_F := z_inF (i := 499) (by decide +kernel) rfl
theorem mlX2_37 : Cond.methodLink RX2 37 yX9_isLetter ∈ z_F := z_inF (i := 500) (by decide +kernel) rfl
theorem mlX2_41 : Cond.methodLink RX2 41 yX2_open ∈ z_F := z_inF (i := 501) (by decide +kernel) rfl
theorem im_X2_open : Cond.instanceMethod yX2_open ∈ z_F := z_inF (i := 503) (by decide +kernel) rfl
theorem ym_X2_open : z_ym yX2_open cX2_open 2 none 1 := ⟨z_inF (i := 504) (by decide +kernel) rfl, z_inF (i := 39) (by decide +kernel) rfl, by decide +kernel, by decide +kernel, by decide +kernel, by decide +kernel, by decide⟩
theorem mlX2_45 : Cond.methodLink RX2 45 yX2_learnWithin ∈ z_F := z_inF (i := 505) (by decide +kernel) rfl
theorem im_X2_learnWithin : Cond.instanceMethod yX2_learnWithin ∈ z_F := z_inF (i := 507) (by decide +kernel) rfl
theorem ym_X2_learnWithin : z_ym yX2_learnWithin cX2_learnWithin 4 none 3 := ⟨z_inF (i := 508) (by decide +kernel) rfl, z_inF (i := 39) (by decide +kernel) rfl, by decide +kernel, by decide +kernel, by decide +kernel, by decide +kernel, by decide⟩
theorem mlX2_49 : Cond.methodLink RX2 49 yX9_isSign ∈ z_F := z_inF (i := 509) (by decide +kernel) rfl
theorem mlX2_52 : Cond.methodLink RX2 52 yX9_isDigit ∈ z_F := z_inF (i := 510) (by decide +kernel) rfl
theorem mlL_37 : Cond.methodLink RL 37 yX11_water ∈ z_F := z_inF (i := 511) (by decide +kernel) rfl
theorem im_X11_water : Cond.instanceMethod yX11_water ∈ z_F := z_inF (i := 512) (by decide +kernel) rfl
theorem se_X11_water : Cond.selects RX11 yX11_water yX11_water ∈ z_F := z_inF (i := 513) (by decide +kernel) rfl
theorem ym_X11_water : z_ym yX11_water cX11_water 2 (some .boolean) 1 := ⟨z_inF (i := 514) (by decide +kernel) rfl, z_inF (i := 36) (by decide +kernel) rfl, by decide +kernel, by decide +kernel, by decide +kernel, by decide +kernel, by decide⟩
theorem mlL_42 : Cond.methodLink RL 42 yX11_gap ∈ z_F := z_inF (i := 515) (by decide +kernel) rfl
theorem im_X11_gap : Cond.instanceMethod yX11_gap ∈ z_F := z_inF (i := 516) (by decide +kernel) rfl
theorem se_X11_gap : Cond.selects RX11 yX11_gap yX11_gap ∈ z_F := z_inF (i := 517) (by decide +kernel) rfl
theorem ym_X11_gap : z_ym yX11_gap cX11_gap 2 (some .boolean) 1 := ⟨z_inF (i := 518) (by decide +kernel) rfl, z_inF (i := 36) (by decide +kernel) rfl, by decide +kernel, by decide +kernel, by decide +kernel, by decide +kernel, by decide⟩
theorem mlL_64 : Cond.methodLink RL 64 yX11_charge ∈ z_F := z_inF (i := 519) (by decide +kernel) rfl
theorem im_X11_charge : Cond.instanceMethod yX11_charge ∈ z_F := z_inF (i := 520) (by decide +kernel) rfl
theorem se_X11_charge : Cond.selects RX11 yX11_charge yX11_charge ∈ z_F := z_inF (i := 521) (by decide +kernel) rfl
theorem ym_X11_charge : z_ym yX11_charge cX11_charge 3 (some .boolean) 2 := ⟨z_inF (i := 522) (by decide +kernel) rfl, z_inF (i := 36) (by decide +kernel) rfl, by decide +kernel, by decide +kernel, by decide +kernel, by decide +kernel, by decide⟩
theorem mlX11_177 : Cond.methodLink RX11 177 yX11_sumOf ∈ z_F := z_inF (i := 523) (by decide +kernel) rfl
theorem mlX11_185 : Cond.methodLink RX11 185 yX6_carry ∈ z_F := z_inF (i := 524) (by decide +kernel) rfl
theorem im_X6_carry : Cond.instanceMethod yX6_carry ∈ z_F := z_inF (i := 525) (by decide +kernel) rfl
theorem se_X6_carry : Cond.selects RX6 yX6_carry yX6_carry ∈ z_F := z_inF (i := 526) (by decide +kernel) rfl
theorem ym_X6_carry : z_ym yX6_carry cX6_carry 5 none 3 := ⟨z_inF (i := 527) (by decide +kernel) rfl, z_inF (i := 44) (by decide +kernel) rfl, by decide +kernel, by decide +kernel, by decide +kernel, by decide +kernel, by decide⟩
theorem mlX6_37 : Cond.methodLink RX6 37 yX6_divide ∈ z_F := z_inF (i := 528) (by decide +kernel) rfl
theorem im_X6_divide : Cond.instanceMethod yX6_divide ∈ z_F := z_inF (i := 529) (by decide +kernel) rfl
theorem se_X6_divide : Cond.selects RX6 yX6_divide yX6_divide ∈ z_F := z_inF (i := 530) (by decide +kernel) rfl
theorem ym_X6_divide : z_ym yX6_divide cX6_divide 10 (some .boolean) 2 := ⟨z_inF (i := 531) (by decide +kernel) rfl, z_inF (i := 44) (by decide +kernel) rfl, by decide +kernel, by decide +kernel, by decide +kernel, by decide +kernel, by decide⟩
theorem mlX6_19 : Cond.methodLink RX6 19 yJ7_fill_53178 ∈ z_F := z_inF (i := 532) (by decide +kernel) rfl
theorem sm_J7_fill_53178 : Cond.static yJ7_fill_53178 ∈ z_F := z_inF (i := 533) (by decide +kernel) rfl
theorem ym_J7_fill_53178 : z_ym yJ7_fill_53178 cJ7_fill_53178 4 none 2 := ⟨z_inF (i := 534) (by decide +kernel) rfl, z_inF (i := 48) (by decide +kernel) rfl, by decide +kernel, by decide +kernel, by decide +kernel, by decide +kernel, by decide⟩
theorem mlX6_25 : Cond.methodLink RX6 25 Lib.Math.min.name ∈ z_F := z_inF (i := 535) (by decide +kernel) rfl
theorem mlX6_31 : Cond.methodLink RX6 31 yX6_greatestRest ∈ z_F := z_inF (i := 536) (by decide +kernel) rfl
theorem im_X6_greatestRest : Cond.instanceMethod yX6_greatestRest ∈ z_F := z_inF (i := 538) (by decide +kernel) rfl
theorem ym_X6_greatestRest : z_ym yX6_greatestRest cX6_greatestRest 4 (some .int) 1 := ⟨z_inF (i := 539) (by decide +kernel) rfl, z_inF (i := 44) (by decide +kernel) rfl, by decide +kernel, by decide +kernel, by decide +kernel, by decide +kernel, by decide⟩
theorem klX6_35 : Cond.constantLong RX6 35 (-1) ∈ lw_tbl := List.mem_of_getElem? (i := 540) (by decide +kernel)
theorem mlL_69 : Cond.methodLink RL 69 yX11_blow ∈ z_F := z_inF (i := 541) (by decide +kernel) rfl
theorem im_X11_blow : Cond.instanceMethod yX11_blow ∈ z_F := z_inF (i := 542) (by decide +kernel) rfl
theorem se_X11_blow : Cond.selects RX11 yX11_blow yX11_blow ∈ z_F := z_inF (i := 543) (by decide +kernel) rfl
theorem ym_X11_blow : z_ym yX11_blow cX11_blow 3 (some .int) 1 := ⟨z_inF (i := 544) (by decide +kernel) rfl, z_inF (i := 36) (by decide +kernel) rfl, by decide +kernel, by decide +kernel, by decide +kernel, by decide +kernel, by decide⟩
theorem mlX11_201 : Cond.methodLink RX11 201 yX3_passMinute ∈ z_F := z_inF (i := 545) (by decide +kernel) rfl
theorem im_X3_passMinute : Cond.instanceMethod yX3_passMinute ∈ z_F := z_inF (i := 546) (by decide +kernel) rfl
theorem se_X3_passMinute : Cond.selects RX3 yX3_passMinute yX3_passMinute ∈ z_F := z_inF (i := 547) (by decide +kernel) rfl
theorem ym_X3_passMinute : z_ym yX3_passMinute cX3_passMinute 4 none 2 := ⟨z_inF (i := 548) (by decide +kernel) rfl, z_inF (i := 40) (by decide +kernel) rfl, by decide +kernel, by decide +kernel, by decide +kernel, by decide +kernel, by decide⟩
theorem mlX3_50 : Cond.methodLink RX3 50 yX2_airFor ∈ z_F := z_inF (i := 549) (by decide +kernel) rfl
theorem im_X2_airFor : Cond.instanceMethod yX2_airFor ∈ z_F := z_inF (i := 550) (by decide +kernel) rfl
theorem se_X2_airFor : Cond.selects RX2 yX2_airFor yX2_airFor ∈ z_F := z_inF (i := 551) (by decide +kernel) rfl
theorem ym_X2_airFor : z_ym yX2_airFor cX2_airFor 3 (some .int) 1 := ⟨z_inF (i := 552) (by decide +kernel) rfl, z_inF (i := 39) (by decide +kernel) rfl, by decide +kernel, by decide +kernel, by decide +kernel, by decide +kernel, by decide⟩
theorem mlX2_55 : Cond.methodLink RX2 55 yX2_reading ∈ z_F := z_inF (i := 553) (by decide +kernel) rfl
theorem sm_X2_reading : Cond.static yX2_reading ∈ z_F := z_inF (i := 554) (by decide +kernel) rfl
theorem ym_X2_reading : z_ym yX2_reading cX2_reading 2 (some .int) 2 := ⟨z_inF (i := 555) (by decide +kernel) rfl, z_inF (i := 39) (by decide +kernel) rfl, by decide +kernel, by decide +kernel, by decide +kernel, by decide +kernel, by decide⟩
theorem mlX2_59 : Cond.methodLink RX2 59 yX2_holds ∈ z_F := z_inF (i := 556) (by decide +kernel) rfl
theorem sm_X2_holds : Cond.static yX2_holds ∈ z_F := z_inF (i := 557) (by decide +kernel) rfl
theorem ym_X2_holds : z_ym yX2_holds cX2_holds 3 (some .boolean) 3 := ⟨z_inF (i := 558) (by decide +kernel) rfl, z_inF (i := 39) (by decide +kernel) rfl, by decide +kernel, by decide +kernel, by decide +kernel, by decide +kernel, by decide⟩
theorem mlX3_59 : Cond.methodLink RX3 59 Lib.Math.min.name ∈ z_F := z_inF (i := 559) (by decide +kernel) rfl
theorem mlX3_68 : Cond.methodLink RX3 68 Lib.Math.max.name ∈ z_F := z_inF (i := 560) (by decide +kernel) rfl
theorem mlX3_71 : Cond.methodLink RX3 71 yX3_reduce ∈ z_F := z_inF (i := 561) (by decide +kernel) rfl
theorem im_X3_reduce : Cond.instanceMethod yX3_reduce ∈ z_F := z_inF (i := 563) (by decide +kernel) rfl
theorem ym_X3_reduce : z_ym yX3_reduce cX3_reduce 3 none 2 := ⟨z_inF (i := 564) (by decide +kernel) rfl, z_inF (i := 40) (by decide +kernel) rfl, by decide +kernel, by decide +kernel, by decide +kernel, by decide +kernel, by decide⟩
theorem mlX3_78 : Cond.methodLink RX3 78 yX6_carry ∈ z_F := z_inF (i := 565) (by decide +kernel) rfl
theorem mlX3_75 : Cond.methodLink RX3 75 yX3_noteScorch ∈ z_F := z_inF (i := 566) (by decide +kernel) rfl
theorem im_X3_noteScorch : Cond.instanceMethod yX3_noteScorch ∈ z_F := z_inF (i := 568) (by decide +kernel) rfl
theorem ym_X3_noteScorch : z_ym yX3_noteScorch cX3_noteScorch 1 none 0 := ⟨z_inF (i := 569) (by decide +kernel) rfl, z_inF (i := 40) (by decide +kernel) rfl, by decide +kernel, by decide +kernel, by decide +kernel, by decide +kernel, by decide⟩
theorem mlL_78 : Cond.methodLink RL 78 yX11_furnace ∈ z_F := z_inF (i := 570) (by decide +kernel) rfl
theorem im_X11_furnace : Cond.instanceMethod yX11_furnace ∈ z_F := z_inF (i := 571) (by decide +kernel) rfl
theorem se_X11_furnace : Cond.selects RX11 yX11_furnace yX11_furnace ∈ z_F := z_inF (i := 572) (by decide +kernel) rfl
theorem ym_X11_furnace : z_ym yX11_furnace cX11_furnace 2 (some .int) 1 := ⟨z_inF (i := 573) (by decide +kernel) rfl, z_inF (i := 36) (by decide +kernel) rfl, by decide +kernel, by decide +kernel, by decide +kernel, by decide +kernel, by decide⟩
theorem mlL_74 : Cond.methodLink RL 74 yX11_draw ∈ z_F := z_inF (i := 574) (by decide +kernel) rfl
theorem im_X11_draw : Cond.instanceMethod yX11_draw ∈ z_F := z_inF (i := 575) (by decide +kernel) rfl
theorem se_X11_draw : Cond.selects RX11 yX11_draw yX11_draw ∈ z_F := z_inF (i := 576) (by decide +kernel) rfl
theorem ym_X11_draw : z_ym yX11_draw cX11_draw 2 (some .int) 0 := ⟨z_inF (i := 577) (by decide +kernel) rfl, z_inF (i := 36) (by decide +kernel) rfl, by decide +kernel, by decide +kernel, by decide +kernel, by decide +kernel, by decide⟩
theorem insX0 : Cond.instantiable RX0 7 ∈ z_F := z_inF (i := 578) (by decide +kernel) rfl
theorem mlX11_226 : Cond.methodLink RX11 226 yX3_sortOfBloom ∈ z_F := z_inF (i := 579) (by decide +kernel) rfl
theorem im_X3_sortOfBloom : Cond.instanceMethod yX3_sortOfBloom ∈ z_F := z_inF (i := 580) (by decide +kernel) rfl
theorem se_X3_sortOfBloom : Cond.selects RX3 yX3_sortOfBloom yX3_sortOfBloom ∈ z_F := z_inF (i := 581) (by decide +kernel) rfl
theorem ym_X3_sortOfBloom : z_ym yX3_sortOfBloom cX3_sortOfBloom 1 (some .int) 0 := ⟨z_inF (i := 582) (by decide +kernel) rfl, z_inF (i := 40) (by decide +kernel) rfl, by decide +kernel, by decide +kernel, by decide +kernel, by decide +kernel, by decide⟩
theorem mlX11_229 : Cond.methodLink RX11 229 yX0_init ∈ z_F := z_inF (i := 583) (by decide +kernel) rfl
theorem im_X0_init : Cond.instanceMethod yX0_init ∈ z_F := z_inF (i := 584) (by decide +kernel) rfl
theorem ym_X0_init : z_ym yX0_init cX0_init 3 none 2 := ⟨z_inF (i := 585) (by decide +kernel) rfl, z_inF (i := 49) (by decide +kernel) rfl, by decide +kernel, by decide +kernel, by decide +kernel, by decide +kernel, by decide⟩
theorem mlX0_3 : Cond.methodLink RX0 3 objectInit ∈ z_F := z_inF (i := 586) (by decide +kernel) rfl
theorem flX0_9 : z_FL RX0 9 0 0 (.array .int) 1 := ⟨_, _, _, tyX0, rfl, fcX0, by decide, z_inF (i := 587) (by decide +kernel) rfl, tyX0_ok, nmX0, by decide +kernel, by decide +kernel, by decide +kernel⟩
theorem flX8_28 : z_FL RX8 28 0 0 (.array .int) 2 := ⟨_, _, _, tyX0, rfl, fcX0, by decide, z_inF (i := 588) (by decide +kernel) rfl, tyX0_ok, nmX0, by decide +kernel, by decide +kernel, by decide +kernel⟩
theorem flX11_239 : z_FL RX11 239 0 0 (.array .int) 2 := ⟨_, _, _, tyX0, rfl, fcX0, by decide, z_inF (i := 589) (by decide +kernel) rfl, tyX0_ok, nmX0, by decide +kernel, by decide +kernel, by decide +kernel⟩
theorem flX0_15 : z_FL RX0 15 0 1 (.array .int) 1 := ⟨_, _, _, tyX0, rfl, fcX0, by decide, z_inF (i := 590) (by decide +kernel) rfl, tyX0_ok, nmX0, by decide +kernel, by decide +kernel, by decide +kernel⟩
theorem flX11_249 : z_FL RX11 249 0 1 (.array .int) 2 := ⟨_, _, _, tyX0, rfl, fcX0, by decide, z_inF (i := 591) (by decide +kernel) rfl, tyX0_ok, nmX0, by decide +kernel, by decide +kernel, by decide +kernel⟩
theorem flX0_18 : z_FL RX0 18 0 2 .int 1 := ⟨_, _, _, tyX0, rfl, fcX0, by decide, z_inF (i := 592) (by decide +kernel) rfl, tyX0_ok, nmX0, by decide +kernel, by decide +kernel, by decide +kernel⟩
theorem flX0_22 : z_FL RX0 22 0 3 .int 1 := ⟨_, _, _, tyX0, rfl, fcX0, by decide, z_inF (i := 593) (by decide +kernel) rfl, tyX0_ok, nmX0, by decide +kernel, by decide +kernel, by decide +kernel⟩
theorem flX11_277 : z_FL RX11 277 0 3 .int 2 := ⟨_, _, _, tyX0, rfl, fcX0, by decide, z_inF (i := 594) (by decide +kernel) rfl, tyX0_ok, nmX0, by decide +kernel, by decide +kernel, by decide +kernel⟩
theorem flX0_25 : z_FL RX0 25 0 4 .int 0 := ⟨_, _, _, tyX0, rfl, fcX0, by decide, z_inF (i := 595) (by decide +kernel) rfl, tyX0_ok, nmX0, by decide +kernel, by decide +kernel, by decide +kernel⟩
theorem flX5_56 : z_FL RX5 56 0 4 .int 0 := ⟨_, _, _, tyX0, rfl, fcX0, by decide, z_inF (i := 596) (by decide +kernel) rfl, tyX0_ok, nmX0, by decide +kernel, by decide +kernel, by decide +kernel⟩
theorem flX11_271 : z_FL RX11 271 0 4 .int 0 := ⟨_, _, _, tyX0, rfl, fcX0, by decide, z_inF (i := 597) (by decide +kernel) rfl, tyX0_ok, nmX0, by decide +kernel, by decide +kernel, by decide +kernel⟩
theorem flX0_28 : z_FL RX0 28 0 5 .int 0 := ⟨_, _, _, tyX0, rfl, fcX0, by decide, z_inF (i := 598) (by decide +kernel) rfl, tyX0_ok, nmX0, by decide +kernel, by decide +kernel, by decide +kernel⟩
theorem flX11_274 : z_FL RX11 274 0 5 .int 0 := ⟨_, _, _, tyX0, rfl, fcX0, by decide, z_inF (i := 599) (by decide +kernel) rfl, tyX0_ok, nmX0, by decide +kernel, by decide +kernel, by decide +kernel⟩
theorem flX0_37 : z_FL RX0 37 0 6 .int 0 := ⟨_, _, _, tyX0, rfl, fcX0, by decide, z_inF (i := 600) (by decide +kernel) rfl, tyX0_ok, nmX0, by decide +kernel, by decide +kernel, by decide +kernel⟩
theorem flX11_262 : z_FL RX11 262 0 6 .int 0 := ⟨_, _, _, tyX0, rfl, fcX0, by decide, z_inF (i := 601) (by decide +kernel) rfl, tyX0_ok, nmX0, by decide +kernel, by decide +kernel, by decide +kernel⟩
theorem mlX11_232 : Cond.methodLink RX11 232 yX11_ironInBloom ∈ z_F := z_inF (i := 617) (by decide +kernel) rfl
theorem im_X11_ironInBloom : Cond.instanceMethod yX11_ironInBloom ∈ z_F := z_inF (i := 619) (by decide +kernel) rfl
theorem ym_X11_ironInBloom : z_ym yX11_ironInBloom cX11_ironInBloom 6 (some .int) 1 := ⟨z_inF (i := 620) (by decide +kernel) rfl, z_inF (i := 36) (by decide +kernel) rfl, by decide +kernel, by decide +kernel, by decide +kernel, by decide +kernel, by decide⟩
theorem klX11_256 : Cond.constantLong RX11 256 (1000) ∈ lw_tbl := List.mem_of_getElem? (i := 621) (by decide +kernel)
theorem mlX11_236 : Cond.methodLink RX11 236 yX0_setIron ∈ z_F := z_inF (i := 622) (by decide +kernel) rfl
theorem im_X0_setIron : Cond.instanceMethod yX0_setIron ∈ z_F := z_inF (i := 623) (by decide +kernel) rfl
theorem se_X0_setIron : Cond.selects RX0 yX0_setIron yX0_setIron ∈ z_F := z_inF (i := 624) (by decide +kernel) rfl
theorem ym_X0_setIron : z_ym yX0_setIron cX0_setIron 3 none 2 := ⟨z_inF (i := 625) (by decide +kernel) rfl, z_inF (i := 49) (by decide +kernel) rfl, by decide +kernel, by decide +kernel, by decide +kernel, by decide +kernel, by decide⟩
theorem mlX11_240 : Cond.methodLink RX11 240 arraycopyName ∈ z_F := z_inF (i := 626) (by decide +kernel) rfl
theorem sm_Acopy : Cond.static arraycopyName ∈ z_F := z_inF (i := 627) (by decide +kernel) rfl
theorem na_Acopy : Cond.native arraycopyName ∈ z_F := z_inF (i := 628) (by decide +kernel) rfl
theorem mlX11_253 : Cond.methodLink RX11 253 yX3_empty ∈ z_F := z_inF (i := 629) (by decide +kernel) rfl
theorem im_X3_empty : Cond.instanceMethod yX3_empty ∈ z_F := z_inF (i := 630) (by decide +kernel) rfl
theorem se_X3_empty : Cond.selects RX3 yX3_empty yX3_empty ∈ z_F := z_inF (i := 631) (by decide +kernel) rfl
theorem ym_X3_empty : z_ym yX3_empty cX3_empty 1 none 0 := ⟨z_inF (i := 632) (by decide +kernel) rfl, z_inF (i := 40) (by decide +kernel) rfl, by decide +kernel, by decide +kernel, by decide +kernel, by decide +kernel, by decide⟩
theorem mlX3_87 : Cond.methodLink RX3 87 yJ7_fill_53178 ∈ z_F := z_inF (i := 633) (by decide +kernel) rfl
theorem mlL_82 : Cond.methodLink RL 82 yX11_forge ∈ z_F := z_inF (i := 634) (by decide +kernel) rfl
theorem im_X11_forge : Cond.instanceMethod yX11_forge ∈ z_F := z_inF (i := 635) (by decide +kernel) rfl
theorem se_X11_forge : Cond.selects RX11 yX11_forge yX11_forge ∈ z_F := z_inF (i := 636) (by decide +kernel) rfl
theorem ym_X11_forge : z_ym yX11_forge cX11_forge 5 (some .int) 2 := ⟨z_inF (i := 637) (by decide +kernel) rfl, z_inF (i := 36) (by decide +kernel) rfl, by decide +kernel, by decide +kernel, by decide +kernel, by decide +kernel, by decide⟩
theorem mlX11_258 : Cond.methodLink RX11 258 yX11_barAt ∈ z_F := z_inF (i := 638) (by decide +kernel) rfl
theorem im_X11_barAt : Cond.instanceMethod yX11_barAt ∈ z_F := z_inF (i := 640) (by decide +kernel) rfl
theorem ym_X11_barAt : z_ym yX11_barAt cX11_barAt 2 (some (.object "BogForge$Bar")) 1 := ⟨z_inF (i := 641) (by decide +kernel) rfl, z_inF (i := 36) (by decide +kernel) rfl, by decide +kernel, by decide +kernel, by decide +kernel, by decide +kernel, by decide⟩
theorem mlX11_265 : Cond.methodLink RX11 265 yX0_heatOnce ∈ z_F := z_inF (i := 642) (by decide +kernel) rfl
theorem im_X0_heatOnce : Cond.instanceMethod yX0_heatOnce ∈ z_F := z_inF (i := 643) (by decide +kernel) rfl
theorem se_X0_heatOnce : Cond.selects RX0 yX0_heatOnce yX0_heatOnce ∈ z_F := z_inF (i := 644) (by decide +kernel) rfl
theorem ym_X0_heatOnce : z_ym yX0_heatOnce cX0_heatOnce 1 none 0 := ⟨z_inF (i := 645) (by decide +kernel) rfl, z_inF (i := 49) (by decide +kernel) rfl, by decide +kernel, by decide +kernel, by decide +kernel, by decide +kernel, by decide⟩
theorem klX0_31 : Cond.constantLong RX0 31 (97) ∈ lw_tbl := List.mem_of_getElem? (i := 646) (by decide +kernel)
theorem klX0_33 : Cond.constantLong RX0 33 (100) ∈ lw_tbl := List.mem_of_getElem? (i := 647) (by decide +kernel)
theorem klX0_35 : Cond.constantLong RX0 35 (99) ∈ lw_tbl := List.mem_of_getElem? (i := 648) (by decide +kernel)
theorem mlX11_268 : Cond.methodLink RX11 268 yX0_sortNow ∈ z_F := z_inF (i := 649) (by decide +kernel) rfl
theorem im_X0_sortNow : Cond.instanceMethod yX0_sortNow ∈ z_F := z_inF (i := 650) (by decide +kernel) rfl
theorem se_X0_sortNow : Cond.selects RX0 yX0_sortNow yX0_sortNow ∈ z_F := z_inF (i := 651) (by decide +kernel) rfl
theorem ym_X0_sortNow : z_ym yX0_sortNow cX0_sortNow 1 (some .int) 0 := ⟨z_inF (i := 652) (by decide +kernel) rfl, z_inF (i := 49) (by decide +kernel) rfl, by decide +kernel, by decide +kernel, by decide +kernel, by decide +kernel, by decide⟩
theorem mlX0_40 : Cond.methodLink RX0 40 Lib.Math.max.name ∈ z_F := z_inF (i := 653) (by decide +kernel) rfl
theorem mlL_86 : Cond.methodLink RL 86 yX11_bar ∈ z_F := z_inF (i := 654) (by decide +kernel) rfl
theorem im_X11_bar : Cond.instanceMethod yX11_bar ∈ z_F := z_inF (i := 655) (by decide +kernel) rfl
theorem se_X11_bar : Cond.selects RX11 yX11_bar yX11_bar ∈ z_F := z_inF (i := 656) (by decide +kernel) rfl
theorem ym_X11_bar : z_ym yX11_bar cX11_bar 4 (some .int) 2 := ⟨z_inF (i := 657) (by decide +kernel) rfl, z_inF (i := 36) (by decide +kernel) rfl, by decide +kernel, by decide +kernel, by decide +kernel, by decide +kernel, by decide⟩
theorem mlL_90 : Cond.methodLink RL 90 yX11_part ∈ z_F := z_inF (i := 658) (by decide +kernel) rfl
theorem im_X11_part : Cond.instanceMethod yX11_part ∈ z_F := z_inF (i := 659) (by decide +kernel) rfl
theorem se_X11_part : Cond.selects RX11 yX11_part yX11_part ∈ z_F := z_inF (i := 660) (by decide +kernel) rfl
theorem ym_X11_part : z_ym yX11_part cX11_part 4 (some .int) 2 := ⟨z_inF (i := 661) (by decide +kernel) rfl, z_inF (i := 36) (by decide +kernel) rfl, by decide +kernel, by decide +kernel, by decide +kernel, by decide +kernel, by decide⟩
theorem mlL_94 : Cond.methodLink RL 94 yX11_burnt ∈ z_F := z_inF (i := 662) (by decide +kernel) rfl
theorem im_X11_burnt : Cond.instanceMethod yX11_burnt ∈ z_F := z_inF (i := 663) (by decide +kernel) rfl
theorem se_X11_burnt : Cond.selects RX11 yX11_burnt yX11_burnt ∈ z_F := z_inF (i := 664) (by decide +kernel) rfl
theorem ym_X11_burnt : z_ym yX11_burnt cX11_burnt 4 (some .int) 2 := ⟨z_inF (i := 665) (by decide +kernel) rfl, z_inF (i := 36) (by decide +kernel) rfl, by decide +kernel, by decide +kernel, by decide +kernel, by decide +kernel, by decide⟩
theorem mlL_98 : Cond.methodLink RL 98 yX11_right ∈ z_F := z_inF (i := 666) (by decide +kernel) rfl
theorem im_X11_right : Cond.instanceMethod yX11_right ∈ z_F := z_inF (i := 667) (by decide +kernel) rfl
theorem se_X11_right : Cond.selects RX11 yX11_right yX11_right ∈ z_F := z_inF (i := 668) (by decide +kernel) rfl
theorem ym_X11_right : z_ym yX11_right cX11_right 5 (some .boolean) 4 := ⟨z_inF (i := 669) (by decide +kernel) rfl, z_inF (i := 36) (by decide +kernel) rfl, by decide +kernel, by decide +kernel, by decide +kernel, by decide +kernel, by decide⟩
theorem mlX11_280 : Cond.methodLink RX11 280 yX8_tell ∈ z_F := z_inF (i := 670) (by decide +kernel) rfl
theorem im_X8_tell : Cond.instanceMethod yX8_tell ∈ z_F := z_inF (i := 671) (by decide +kernel) rfl
theorem se_X8_tell : Cond.selects RX8 yX8_tell yX8_tell ∈ z_F := z_inF (i := 672) (by decide +kernel) rfl
theorem ym_X8_tell : z_ym yX8_tell cX8_tell 5 (some .boolean) 4 := ⟨z_inF (i := 673) (by decide +kernel) rfl, z_inF (i := 41) (by decide +kernel) rfl, by decide +kernel, by decide +kernel, by decide +kernel, by decide +kernel, by decide⟩
theorem mlL_103 : Cond.methodLink RL 103 yX11_pay ∈ z_F := z_inF (i := 674) (by decide +kernel) rfl
theorem im_X11_pay : Cond.instanceMethod yX11_pay ∈ z_F := z_inF (i := 675) (by decide +kernel) rfl
theorem se_X11_pay : Cond.selects RX11 yX11_pay yX11_pay ∈ z_F := z_inF (i := 676) (by decide +kernel) rfl
theorem ym_X11_pay : z_ym yX11_pay cX11_pay 3 (some .int) 2 := ⟨z_inF (i := 677) (by decide +kernel) rfl, z_inF (i := 36) (by decide +kernel) rfl, by decide +kernel, by decide +kernel, by decide +kernel, by decide +kernel, by decide⟩
theorem kcX11_284 : Cond.constant RX11 284 (1000000) ∈ lw_tbl := List.mem_of_getElem? (i := 678) (by decide +kernel)
theorem mlX11_288 : Cond.methodLink RX11 288 yX4_hasRoom ∈ z_F := z_inF (i := 679) (by decide +kernel) rfl
theorem im_X4_hasRoom : Cond.instanceMethod yX4_hasRoom ∈ z_F := z_inF (i := 680) (by decide +kernel) rfl
theorem se_X4_hasRoom : Cond.selects RX4 yX4_hasRoom yX4_hasRoom ∈ z_F := z_inF (i := 681) (by decide +kernel) rfl
theorem ym_X4_hasRoom : z_ym yX4_hasRoom cX4_hasRoom 1 (some .boolean) 0 := ⟨z_inF (i := 682) (by decide +kernel) rfl, z_inF (i := 42) (by decide +kernel) rfl, by decide +kernel, by decide +kernel, by decide +kernel, by decide +kernel, by decide⟩
theorem insX7 : Cond.instantiable RX7 4 ∈ z_F := z_inF (i := 683) (by decide +kernel) rfl
theorem mlX11_291 : Cond.methodLink RX11 291 yX7_init ∈ z_F := z_inF (i := 684) (by decide +kernel) rfl
theorem im_X7_init : Cond.instanceMethod yX7_init ∈ z_F := z_inF (i := 685) (by decide +kernel) rfl
theorem ym_X7_init : z_ym yX7_init cX7_init 4 none 3 := ⟨z_inF (i := 686) (by decide +kernel) rfl, z_inF (i := 51) (by decide +kernel) rfl, by decide +kernel, by decide +kernel, by decide +kernel, by decide +kernel, by decide⟩
theorem mlX7_3 : Cond.methodLink RX7 3 objectInit ∈ z_F := z_inF (i := 687) (by decide +kernel) rfl
theorem flX7_15 : z_FL RX7 15 7 0 .int 1 := ⟨_, _, _, tyX7, rfl, fcX7, by decide, z_inF (i := 688) (by decide +kernel) rfl, tyX7_ok, nmX7, by decide +kernel, by decide +kernel, by decide +kernel⟩
theorem flX11_313 : z_FL RX11 313 7 0 .int 2 := ⟨_, _, _, tyX7, rfl, fcX7, by decide, z_inF (i := 689) (by decide +kernel) rfl, tyX7_ok, nmX7, by decide +kernel, by decide +kernel, by decide +kernel⟩
theorem flX7_19 : z_FL RX7 19 7 1 .int 1 := ⟨_, _, _, tyX7, rfl, fcX7, by decide, z_inF (i := 690) (by decide +kernel) rfl, tyX7_ok, nmX7, by decide +kernel, by decide +kernel, by decide +kernel⟩
theorem flX11_323 : z_FL RX11 323 7 1 .int 2 := ⟨_, _, _, tyX7, rfl, fcX7, by decide, z_inF (i := 691) (by decide +kernel) rfl, tyX7_ok, nmX7, by decide +kernel, by decide +kernel, by decide +kernel⟩
theorem flX7_22 : z_FL RX7 22 7 2 .int 1 := ⟨_, _, _, tyX7, rfl, fcX7, by decide, z_inF (i := 692) (by decide +kernel) rfl, tyX7_ok, nmX7, by decide +kernel, by decide +kernel, by decide +kernel⟩
theorem flX11_316 : z_FL RX11 316 7 2 .int 2 := ⟨_, _, _, tyX7, rfl, fcX7, by decide, z_inF (i := 693) (by decide +kernel) rfl, tyX7_ok, nmX7, by decide +kernel, by decide +kernel, by decide +kernel⟩
theorem flX7_9 : z_FL RX7 9 7 3 (.array .int) 1 := ⟨_, _, _, tyX7, rfl, fcX7, by decide, z_inF (i := 694) (by decide +kernel) rfl, tyX7_ok, nmX7, by decide +kernel, by decide +kernel, by decide +kernel⟩
theorem flX11_336 : z_FL RX11 336 7 3 (.array .int) 2 := ⟨_, _, _, tyX7, rfl, fcX7, by decide, z_inF (i := 695) (by decide +kernel) rfl, tyX7_ok, nmX7, by decide +kernel, by decide +kernel, by decide +kernel⟩
theorem mlX11_292 : Cond.methodLink RX11 292 yX11_settle ∈ z_F := z_inF (i := 705) (by decide +kernel) rfl
theorem im_X11_settle : Cond.instanceMethod yX11_settle ∈ z_F := z_inF (i := 707) (by decide +kernel) rfl
theorem ym_X11_settle : z_ym yX11_settle cX11_settle 7 (some .int) 1 := ⟨z_inF (i := 708) (by decide +kernel) rfl, z_inF (i := 36) (by decide +kernel) rfl, by decide +kernel, by decide +kernel, by decide +kernel, by decide +kernel, by decide⟩
theorem mlX11_319 : Cond.methodLink RX11 319 yX8_claimOf ∈ z_F := z_inF (i := 709) (by decide +kernel) rfl
theorem im_X8_claimOf : Cond.instanceMethod yX8_claimOf ∈ z_F := z_inF (i := 710) (by decide +kernel) rfl
theorem se_X8_claimOf : Cond.selects RX8 yX8_claimOf yX8_claimOf ∈ z_F := z_inF (i := 711) (by decide +kernel) rfl
theorem ym_X8_claimOf : z_ym yX8_claimOf cX8_claimOf 6 (some .int) 3 := ⟨z_inF (i := 712) (by decide +kernel) rfl, z_inF (i := 41) (by decide +kernel) rfl, by decide +kernel, by decide +kernel, by decide +kernel, by decide +kernel, by decide⟩
theorem mlX8_33 : Cond.methodLink RX8 33 yX8_inForce ∈ z_F := z_inF (i := 713) (by decide +kernel) rfl
theorem im_X8_inForce : Cond.instanceMethod yX8_inForce ∈ z_F := z_inF (i := 715) (by decide +kernel) rfl
theorem ym_X8_inForce : z_ym yX8_inForce cX8_inForce 8 (some .int) 3 := ⟨z_inF (i := 716) (by decide +kernel) rfl, z_inF (i := 41) (by decide +kernel) rfl, by decide +kernel, by decide +kernel, by decide +kernel, by decide +kernel, by decide⟩
theorem mlX11_326 : Cond.methodLink RX11 326 yX6_divide ∈ z_F := z_inF (i := 717) (by decide +kernel) rfl
theorem mlX11_330 : Cond.methodLink RX11 330 yX6_giveAllToFirst ∈ z_F := z_inF (i := 718) (by decide +kernel) rfl
theorem im_X6_giveAllToFirst : Cond.instanceMethod yX6_giveAllToFirst ∈ z_F := z_inF (i := 719) (by decide +kernel) rfl
theorem se_X6_giveAllToFirst : Cond.selects RX6 yX6_giveAllToFirst yX6_giveAllToFirst ∈ z_F := z_inF (i := 720) (by decide +kernel) rfl
theorem ym_X6_giveAllToFirst : z_ym yX6_giveAllToFirst cX6_giveAllToFirst 2 none 1 := ⟨z_inF (i := 721) (by decide +kernel) rfl, z_inF (i := 44) (by decide +kernel) rfl, by decide +kernel, by decide +kernel, by decide +kernel, by decide +kernel, by decide⟩
theorem mlX11_337 : Cond.methodLink RX11 337 yX4_write ∈ z_F := z_inF (i := 722) (by decide +kernel) rfl
theorem im_X4_write : Cond.instanceMethod yX4_write ∈ z_F := z_inF (i := 723) (by decide +kernel) rfl
theorem se_X4_write : Cond.selects RX4 yX4_write yX4_write ∈ z_F := z_inF (i := 724) (by decide +kernel) rfl
theorem ym_X4_write : z_ym yX4_write cX4_write 5 none 4 := ⟨z_inF (i := 725) (by decide +kernel) rfl, z_inF (i := 42) (by decide +kernel) rfl, by decide +kernel, by decide +kernel, by decide +kernel, by decide +kernel, by decide⟩
theorem mlX4_31 : Cond.methodLink RX4 31 yX4_grow ∈ z_F := z_inF (i := 726) (by decide +kernel) rfl
theorem im_X4_grow : Cond.instanceMethod yX4_grow ∈ z_F := z_inF (i := 728) (by decide +kernel) rfl
theorem ym_X4_grow : z_ym yX4_grow cX4_grow 2 none 0 := ⟨z_inF (i := 729) (by decide +kernel) rfl, z_inF (i := 42) (by decide +kernel) rfl, by decide +kernel, by decide +kernel, by decide +kernel, by decide +kernel, by decide⟩
theorem mlX4_34 : Cond.methodLink RX4 34 Lib.Math.min.name ∈ z_F := z_inF (i := 730) (by decide +kernel) rfl
theorem mlX4_40 : Cond.methodLink RX4 40 yJ7_copyOf_59c91 ∈ z_F := z_inF (i := 731) (by decide +kernel) rfl
theorem sm_J7_copyOf_59c91 : Cond.static yJ7_copyOf_59c91 ∈ z_F := z_inF (i := 732) (by decide +kernel) rfl
theorem ym_J7_copyOf_59c91 : z_ym yJ7_copyOf_59c91 cJ7_copyOf_59c91 3 (some (.array .int)) 2 := ⟨z_inF (i := 733) (by decide +kernel) rfl, z_inF (i := 48) (by decide +kernel) rfl, by decide +kernel, by decide +kernel, by decide +kernel, by decide +kernel, by decide⟩
theorem mlJ7_304 : Cond.methodLink RJ7 304 Lib.Math.min.name ∈ z_F := z_inF (i := 741) (by decide +kernel) rfl
theorem mlJ7_150 : Cond.methodLink RJ7 150 arraycopyName ∈ z_F := z_inF (i := 742) (by decide +kernel) rfl
theorem mlL_107 : Cond.methodLink RL 107 yX11_again ∈ z_F := z_inF (i := 743) (by decide +kernel) rfl
theorem im_X11_again : Cond.instanceMethod yX11_again ∈ z_F := z_inF (i := 744) (by decide +kernel) rfl
theorem se_X11_again : Cond.selects RX11 yX11_again yX11_again ∈ z_F := z_inF (i := 745) (by decide +kernel) rfl
theorem ym_X11_again : z_ym yX11_again cX11_again 2 (some .int) 1 := ⟨z_inF (i := 746) (by decide +kernel) rfl, z_inF (i := 36) (by decide +kernel) rfl, by decide +kernel, by decide +kernel, by decide +kernel, by decide +kernel, by decide⟩
theorem mlL_111 : Cond.methodLink RL 111 yX11_line ∈ z_F := z_inF (i := 747) (by decide +kernel) rfl
theorem im_X11_line : Cond.instanceMethod yX11_line ∈ z_F := z_inF (i := 748) (by decide +kernel) rfl
theorem se_X11_line : Cond.selects RX11 yX11_line yX11_line ∈ z_F := z_inF (i := 749) (by decide +kernel) rfl
theorem ym_X11_line : z_ym yX11_line cX11_line 3 (some .int) 2 := ⟨z_inF (i := 750) (by decide +kernel) rfl, z_inF (i := 36) (by decide +kernel) rfl, by decide +kernel, by decide +kernel, by decide +kernel, by decide +kernel, by decide⟩
theorem mlL_115 : Cond.methodLink RL 115 yX11_coins ∈ z_F := z_inF (i := 751) (by decide +kernel) rfl
theorem im_X11_coins : Cond.instanceMethod yX11_coins ∈ z_F := z_inF (i := 752) (by decide +kernel) rfl
theorem se_X11_coins : Cond.selects RX11 yX11_coins yX11_coins ∈ z_F := z_inF (i := 753) (by decide +kernel) rfl
theorem ym_X11_coins : z_ym yX11_coins cX11_coins 2 (some .int) 1 := ⟨z_inF (i := 754) (by decide +kernel) rfl, z_inF (i := 36) (by decide +kernel) rfl, by decide +kernel, by decide +kernel, by decide +kernel, by decide +kernel, by decide⟩
theorem mlL_119 : Cond.methodLink RL 119 yX11_order ∈ z_F := z_inF (i := 755) (by decide +kernel) rfl
theorem im_X11_order : Cond.instanceMethod yX11_order ∈ z_F := z_inF (i := 756) (by decide +kernel) rfl
theorem se_X11_order : Cond.selects RX11 yX11_order yX11_order ∈ z_F := z_inF (i := 757) (by decide +kernel) rfl
theorem ym_X11_order : z_ym yX11_order cX11_order 3 (some .int) 2 := ⟨z_inF (i := 758) (by decide +kernel) rfl, z_inF (i := 36) (by decide +kernel) rfl, by decide +kernel, by decide +kernel, by decide +kernel, by decide +kernel, by decide⟩
theorem mlX11_341 : Cond.methodLink RX11 341 yX5_take ∈ z_F := z_inF (i := 759) (by decide +kernel) rfl
theorem im_X5_take : Cond.instanceMethod yX5_take ∈ z_F := z_inF (i := 760) (by decide +kernel) rfl
theorem se_X5_take : Cond.selects RX5 yX5_take yX5_take ∈ z_F := z_inF (i := 761) (by decide +kernel) rfl
theorem ym_X5_take : z_ym yX5_take cX5_take 3 (some .int) 2 := ⟨z_inF (i := 762) (by decide +kernel) rfl, z_inF (i := 43) (by decide +kernel) rfl, by decide +kernel, by decide +kernel, by decide +kernel, by decide +kernel, by decide⟩
theorem mlL_123 : Cond.methodLink RL 123 yX11_clear ∈ z_F := z_inF (i := 763) (by decide +kernel) rfl
theorem im_X11_clear : Cond.instanceMethod yX11_clear ∈ z_F := z_inF (i := 764) (by decide +kernel) rfl
theorem se_X11_clear : Cond.selects RX11 yX11_clear yX11_clear ∈ z_F := z_inF (i := 765) (by decide +kernel) rfl
theorem ym_X11_clear : z_ym yX11_clear cX11_clear 1 none 0 := ⟨z_inF (i := 766) (by decide +kernel) rfl, z_inF (i := 36) (by decide +kernel) rfl, by decide +kernel, by decide +kernel, by decide +kernel, by decide +kernel, by decide⟩
theorem mlL_127 : Cond.methodLink RL 127 yX11_met ∈ z_F := z_inF (i := 767) (by decide +kernel) rfl
theorem im_X11_met : Cond.instanceMethod yX11_met ∈ z_F := z_inF (i := 768) (by decide +kernel) rfl
theorem se_X11_met : Cond.selects RX11 yX11_met yX11_met ∈ z_F := z_inF (i := 769) (by decide +kernel) rfl
theorem ym_X11_met : z_ym yX11_met cX11_met 2 (some .int) 1 := ⟨z_inF (i := 770) (by decide +kernel) rfl, z_inF (i := 36) (by decide +kernel) rfl, by decide +kernel, by decide +kernel, by decide +kernel, by decide +kernel, by decide⟩
theorem mlX11_345 : Cond.methodLink RX11 345 yX5_match ∈ z_F := z_inF (i := 771) (by decide +kernel) rfl
theorem im_X5_match : Cond.instanceMethod yX5_match ∈ z_F := z_inF (i := 772) (by decide +kernel) rfl
theorem se_X5_match : Cond.selects RX5 yX5_match yX5_match ∈ z_F := z_inF (i := 773) (by decide +kernel) rfl
theorem ym_X5_match : z_ym yX5_match cX5_match 4 none 2 := ⟨z_inF (i := 774) (by decide +kernel) rfl, z_inF (i := 43) (by decide +kernel) rfl, by decide +kernel, by decide +kernel, by decide +kernel, by decide +kernel, by decide⟩
theorem mlX5_62 : Cond.methodLink RX5 62 yX5_weigh ∈ z_F := z_inF (i := 775) (by decide +kernel) rfl
theorem im_X5_weigh : Cond.instanceMethod yX5_weigh ∈ z_F := z_inF (i := 776) (by decide +kernel) rfl
theorem se_X5_weigh : Cond.selects RX5 yX5_weigh yX5_weigh ∈ z_F := z_inF (i := 777) (by decide +kernel) rfl
theorem ym_X5_weigh : z_ym yX5_weigh cX5_weigh 5 none 2 := ⟨z_inF (i := 778) (by decide +kernel) rfl, z_inF (i := 43) (by decide +kernel) rfl, by decide +kernel, by decide +kernel, by decide +kernel, by decide +kernel, by decide⟩
theorem mlX5_41 : Cond.methodLink RX5 41 Lib.Math.min.name ∈ z_F := z_inF (i := 779) (by decide +kernel) rfl
theorem mlX5_50 : Cond.methodLink RX5 50 yX0_sortNow ∈ z_F := z_inF (i := 780) (by decide +kernel) rfl
theorem mlX5_59 : Cond.methodLink RX5 59 yX5_ordersThatFit ∈ z_F := z_inF (i := 781) (by decide +kernel) rfl
theorem im_X5_ordersThatFit : Cond.instanceMethod yX5_ordersThatFit ∈ z_F := z_inF (i := 783) (by decide +kernel) rfl
theorem ym_X5_ordersThatFit : z_ym yX5_ordersThatFit cX5_ordersThatFit 5 (some .int) 2 := ⟨z_inF (i := 784) (by decide +kernel) rfl, z_inF (i := 43) (by decide +kernel) rfl, by decide +kernel, by decide +kernel, by decide +kernel, by decide +kernel, by decide⟩
theorem mlX5_66 : Cond.methodLink RX5 66 yJ7_fill_53178 ∈ z_F := z_inF (i := 785) (by decide +kernel) rfl
theorem mlX5_72 : Cond.methodLink RX5 72 yX5_findBar ∈ z_F := z_inF (i := 786) (by decide +kernel) rfl
theorem im_X5_findBar : Cond.instanceMethod yX5_findBar ∈ z_F := z_inF (i := 788) (by decide +kernel) rfl
theorem ym_X5_findBar : z_ym yX5_findBar cX5_findBar 6 (some .boolean) 1 := ⟨z_inF (i := 789) (by decide +kernel) rfl, z_inF (i := 43) (by decide +kernel) rfl, by decide +kernel, by decide +kernel, by decide +kernel, by decide +kernel, by decide⟩
theorem mlX5_80 : Cond.methodLink RX5 80 yX5_handOver ∈ z_F := z_inF (i := 790) (by decide +kernel) rfl
theorem im_X5_handOver : Cond.instanceMethod yX5_handOver ∈ z_F := z_inF (i := 792) (by decide +kernel) rfl
theorem ym_X5_handOver : z_ym yX5_handOver cX5_handOver 6 none 1 := ⟨z_inF (i := 793) (by decide +kernel) rfl, z_inF (i := 43) (by decide +kernel) rfl, by decide +kernel, by decide +kernel, by decide +kernel, by decide +kernel, by decide⟩
theorem mlX5_76 : Cond.methodLink RX5 76 yX5_promiseLowest ∈ z_F := z_inF (i := 794) (by decide +kernel) rfl
theorem im_X5_promiseLowest : Cond.instanceMethod yX5_promiseLowest ∈ z_F := z_inF (i := 796) (by decide +kernel) rfl
theorem ym_X5_promiseLowest : z_ym yX5_promiseLowest cX5_promiseLowest 4 none 1 := ⟨z_inF (i := 797) (by decide +kernel) rfl, z_inF (i := 43) (by decide +kernel) rfl, by decide +kernel, by decide +kernel, by decide +kernel, by decide +kernel, by decide⟩
theorem mlX5_83 : Cond.methodLink RX5 83 yX5_moveTo ∈ z_F := z_inF (i := 798) (by decide +kernel) rfl
theorem im_X5_moveTo : Cond.instanceMethod yX5_moveTo ∈ z_F := z_inF (i := 800) (by decide +kernel) rfl
theorem ym_X5_moveTo : z_ym yX5_moveTo cX5_moveTo 7 (some .boolean) 2 := ⟨z_inF (i := 801) (by decide +kernel) rfl, z_inF (i := 43) (by decide +kernel) rfl, by decide +kernel, by decide +kernel, by decide +kernel, by decide +kernel, by decide⟩
theorem mlX5_87 : Cond.methodLink RX5 87 yX5_findBarAfter ∈ z_F := z_inF (i := 802) (by decide +kernel) rfl
theorem im_X5_findBarAfter : Cond.instanceMethod yX5_findBarAfter ∈ z_F := z_inF (i := 804) (by decide +kernel) rfl
theorem ym_X5_findBarAfter : z_ym yX5_findBarAfter cX5_findBarAfter 3 (some .boolean) 1 := ⟨z_inF (i := 805) (by decide +kernel) rfl, z_inF (i := 43) (by decide +kernel) rfl, by decide +kernel, by decide +kernel, by decide +kernel, by decide +kernel, by decide⟩
theorem mlL_131 : Cond.methodLink RL 131 yX11_want ∈ z_F := z_inF (i := 806) (by decide +kernel) rfl
theorem im_X11_want : Cond.instanceMethod yX11_want ∈ z_F := z_inF (i := 807) (by decide +kernel) rfl
theorem se_X11_want : Cond.selects RX11 yX11_want yX11_want ∈ z_F := z_inF (i := 808) (by decide +kernel) rfl
theorem ym_X11_want : z_ym yX11_want cX11_want 1 (some .int) 0 := ⟨z_inF (i := 809) (by decide +kernel) rfl, z_inF (i := 36) (by decide +kernel) rfl, by decide +kernel, by decide +kernel, by decide +kernel, by decide +kernel, by decide⟩
theorem mlX11_352 : Cond.methodLink RX11 352 yX5_weigh ∈ z_F := z_inF (i := 810) (by decide +kernel) rfl
theorem mlX11_355 : Cond.methodLink RX11 355 yX5_leastWanting ∈ z_F := z_inF (i := 811) (by decide +kernel) rfl
theorem im_X5_leastWanting : Cond.instanceMethod yX5_leastWanting ∈ z_F := z_inF (i := 812) (by decide +kernel) rfl
theorem se_X5_leastWanting : Cond.selects RX5 yX5_leastWanting yX5_leastWanting ∈ z_F := z_inF (i := 813) (by decide +kernel) rfl
theorem ym_X5_leastWanting : z_ym yX5_leastWanting cX5_leastWanting 2 (some .int) 0 := ⟨z_inF (i := 814) (by decide +kernel) rfl, z_inF (i := 43) (by decide +kernel) rfl, by decide +kernel, by decide +kernel, by decide +kernel, by decide +kernel, by decide⟩
theorem mlX5_90 : Cond.methodLink RX5 90 yX5_barsFor ∈ z_F := z_inF (i := 815) (by decide +kernel) rfl
theorem im_X5_barsFor : Cond.instanceMethod yX5_barsFor ∈ z_F := z_inF (i := 817) (by decide +kernel) rfl
theorem ym_X5_barsFor : z_ym yX5_barsFor cX5_barsFor 4 (some .int) 1 := ⟨z_inF (i := 818) (by decide +kernel) rfl, z_inF (i := 43) (by decide +kernel) rfl, by decide +kernel, by decide +kernel, by decide +kernel, by decide +kernel, by decide⟩
theorem mlX5_94 : Cond.methodLink RX5 94 yJ6_bitCount_0f7a4 ∈ z_F := z_inF (i := 819) (by decide +kernel) rfl
theorem sm_J6_bitCount_0f7a4 : Cond.static yJ6_bitCount_0f7a4 ∈ z_F := z_inF (i := 820) (by decide +kernel) rfl
theorem ym_J6_bitCount_0f7a4 : z_ym yJ6_bitCount_0f7a4 cJ6_bitCount_0f7a4 1 (some .int) 1 := ⟨z_inF (i := 821) (by decide +kernel) rfl, z_inF (i := 52) (by decide +kernel) rfl, by decide +kernel, by decide +kernel, by decide +kernel, by decide +kernel, by decide⟩
theorem kcJ6_265 : Cond.constant RJ6 265 (1431655765) ∈ lw_tbl := List.mem_of_getElem? (i := 822) (by decide +kernel)
theorem kcJ6_266 : Cond.constant RJ6 266 (858993459) ∈ lw_tbl := List.mem_of_getElem? (i := 823) (by decide +kernel)
theorem kcJ6_267 : Cond.constant RJ6 267 (252645135) ∈ lw_tbl := List.mem_of_getElem? (i := 824) (by decide +kernel)
theorem mlL_139 : Cond.methodLink RL 139 yX11_count ∈ z_F := z_inF (i := 825) (by decide +kernel) rfl
theorem im_X11_count : Cond.instanceMethod yX11_count ∈ z_F := z_inF (i := 826) (by decide +kernel) rfl
theorem se_X11_count : Cond.selects RX11 yX11_count yX11_count ∈ z_F := z_inF (i := 827) (by decide +kernel) rfl
theorem ym_X11_count : z_ym yX11_count cX11_count 2 (some .int) 1 := ⟨z_inF (i := 828) (by decide +kernel) rfl, z_inF (i := 36) (by decide +kernel) rfl, by decide +kernel, by decide +kernel, by decide +kernel, by decide +kernel, by decide⟩
theorem mlX11_358 : Cond.methodLink RX11 358 yX5_metCount ∈ z_F := z_inF (i := 829) (by decide +kernel) rfl
theorem im_X5_metCount : Cond.instanceMethod yX5_metCount ∈ z_F := z_inF (i := 830) (by decide +kernel) rfl
theorem se_X5_metCount : Cond.selects RX5 yX5_metCount yX5_metCount ∈ z_F := z_inF (i := 831) (by decide +kernel) rfl
theorem ym_X5_metCount : z_ym yX5_metCount cX5_metCount 3 (some .int) 0 := ⟨z_inF (i := 832) (by decide +kernel) rfl, z_inF (i := 43) (by decide +kernel) rfl, by decide +kernel, by decide +kernel, by decide +kernel, by decide +kernel, by decide⟩
theorem clL_10 : Cond.classLink RL 10 RX12 ∈ z_F := z_inF (i := 833) (by decide +kernel) rfl
theorem insX12 : Cond.instantiable RX12 69 ∈ z_F := z_inF (i := 834) (by decide +kernel) rfl
theorem mlL_12 : Cond.methodLink RL 12 yX12_init ∈ z_F := z_inF (i := 835) (by decide +kernel) rfl
theorem im_X12_init : Cond.instanceMethod yX12_init ∈ z_F := z_inF (i := 836) (by decide +kernel) rfl
theorem ym_X12_init : z_ym yX12_init cX12_init 1 none 0 := ⟨z_inF (i := 837) (by decide +kernel) rfl, z_inF (i := 45) (by decide +kernel) rfl, by decide +kernel, by decide +kernel, by decide +kernel, by decide +kernel, by decide⟩
theorem mlX12_1 : Cond.methodLink RX12 1 objectInit ∈ z_F := z_inF (i := 838) (by decide +kernel) rfl
theorem flX12_191 : z_FL RX12 191 12 0 .int 0 := ⟨_, _, _, tyX12, rfl, fcX12, by decide, z_inF (i := 839) (by decide +kernel) rfl, tyX12_ok, nmX12, by decide +kernel, by decide +kernel, by decide +kernel⟩
theorem flX12_166 : z_FL RX12 166 12 1 .int 0 := ⟨_, _, _, tyX12, rfl, fcX12, by decide, z_inF (i := 840) (by decide +kernel) rfl, tyX12_ok, nmX12, by decide +kernel, by decide +kernel, by decide +kernel⟩
theorem flX12_257 : z_FL RX12 257 12 2 .int 0 := ⟨_, _, _, tyX12, rfl, fcX12, by decide, z_inF (i := 841) (by decide +kernel) rfl, tyX12_ok, nmX12, by decide +kernel, by decide +kernel, by decide +kernel⟩
theorem flX12_294 : z_FL RX12 294 12 3 .int 0 := ⟨_, _, _, tyX12, rfl, fcX12, by decide, z_inF (i := 842) (by decide +kernel) rfl, tyX12_ok, nmX12, by decide +kernel, by decide +kernel, by decide +kernel⟩
theorem flX12_287 : z_FL RX12 287 12 4 .int 0 := ⟨_, _, _, tyX12, rfl, fcX12, by decide, z_inF (i := 843) (by decide +kernel) rfl, tyX12_ok, nmX12, by decide +kernel, by decide +kernel, by decide +kernel⟩
theorem flX12_300 : z_FL RX12 300 12 5 .int 0 := ⟨_, _, _, tyX12, rfl, fcX12, by decide, z_inF (i := 844) (by decide +kernel) rfl, tyX12_ok, nmX12, by decide +kernel, by decide +kernel, by decide +kernel⟩
theorem flX12_280 : z_FL RX12 280 12 6 .int 0 := ⟨_, _, _, tyX12, rfl, fcX12, by decide, z_inF (i := 845) (by decide +kernel) rfl, tyX12_ok, nmX12, by decide +kernel, by decide +kernel, by decide +kernel⟩
theorem flX12_264 : z_FL RX12 264 12 7 .int 0 := ⟨_, _, _, tyX12, rfl, fcX12, by decide, z_inF (i := 846) (by decide +kernel) rfl, tyX12_ok, nmX12, by decide +kernel, by decide +kernel, by decide +kernel⟩
theorem flX12_9 : z_FL RX12 9 12 8 (.array .int) 1 := ⟨_, _, _, tyX12, rfl, fcX12, by decide, z_inF (i := 847) (by decide +kernel) rfl, tyX12_ok, nmX12, by decide +kernel, by decide +kernel, by decide +kernel⟩
theorem flX12_13 : z_FL RX12 13 12 9 (.array .int) 1 := ⟨_, _, _, tyX12, rfl, fcX12, by decide, z_inF (i := 848) (by decide +kernel) rfl, tyX12_ok, nmX12, by decide +kernel, by decide +kernel, by decide +kernel⟩
theorem flX12_16 : z_FL RX12 16 12 10 (.array .int) 1 := ⟨_, _, _, tyX12, rfl, fcX12, by decide, z_inF (i := 849) (by decide +kernel) rfl, tyX12_ok, nmX12, by decide +kernel, by decide +kernel, by decide +kernel⟩
theorem flX12_19 : z_FL RX12 19 12 11 (.array .int) 1 := ⟨_, _, _, tyX12, rfl, fcX12, by decide, z_inF (i := 850) (by decide +kernel) rfl, tyX12_ok, nmX12, by decide +kernel, by decide +kernel, by decide +kernel⟩
theorem flX12_22 : z_FL RX12 22 12 12 (.array .int) 1 := ⟨_, _, _, tyX12, rfl, fcX12, by decide, z_inF (i := 851) (by decide +kernel) rfl, tyX12_ok, nmX12, by decide +kernel, by decide +kernel, by decide +kernel⟩
theorem flX12_25 : z_FL RX12 25 12 13 (.array .int) 1 := ⟨_, _, _, tyX12, rfl, fcX12, by decide, z_inF (i := 852) (by decide +kernel) rfl, tyX12_ok, nmX12, by decide +kernel, by decide +kernel, by decide +kernel⟩
theorem flX12_28 : z_FL RX12 28 12 14 (.array .int) 1 := ⟨_, _, _, tyX12, rfl, fcX12, by decide, z_inF (i := 853) (by decide +kernel) rfl, tyX12_ok, nmX12, by decide +kernel, by decide +kernel, by decide +kernel⟩
theorem flX12_31 : z_FL RX12 31 12 15 (.array .int) 1 := ⟨_, _, _, tyX12, rfl, fcX12, by decide, z_inF (i := 854) (by decide +kernel) rfl, tyX12_ok, nmX12, by decide +kernel, by decide +kernel, by decide +kernel⟩
theorem flX12_34 : z_FL RX12 34 12 16 (.array .long) 1 := ⟨_, _, _, tyX12, rfl, fcX12, by decide, z_inF (i := 855) (by decide +kernel) rfl, tyX12_ok, nmX12, by decide +kernel, by decide +kernel, by decide +kernel⟩
theorem flX12_38 : z_FL RX12 38 12 17 (.array .int) 1 := ⟨_, _, _, tyX12, rfl, fcX12, by decide, z_inF (i := 856) (by decide +kernel) rfl, tyX12_ok, nmX12, by decide +kernel, by decide +kernel, by decide +kernel⟩
theorem flX12_41 : z_FL RX12 41 12 18 (.array .boolean) 1 := ⟨_, _, _, tyX12, rfl, fcX12, by decide, z_inF (i := 857) (by decide +kernel) rfl, tyX12_ok, nmX12, by decide +kernel, by decide +kernel, by decide +kernel⟩
theorem flX12_45 : z_FL RX12 45 12 19 (.array .int) 1 := ⟨_, _, _, tyX12, rfl, fcX12, by decide, z_inF (i := 858) (by decide +kernel) rfl, tyX12_ok, nmX12, by decide +kernel, by decide +kernel, by decide +kernel⟩
theorem flX12_48 : z_FL RX12 48 12 20 (.array .int) 1 := ⟨_, _, _, tyX12, rfl, fcX12, by decide, z_inF (i := 859) (by decide +kernel) rfl, tyX12_ok, nmX12, by decide +kernel, by decide +kernel, by decide +kernel⟩
theorem flX12_51 : z_FL RX12 51 12 21 (.array .int) 1 := ⟨_, _, _, tyX12, rfl, fcX12, by decide, z_inF (i := 860) (by decide +kernel) rfl, tyX12_ok, nmX12, by decide +kernel, by decide +kernel, by decide +kernel⟩
theorem flX12_199 : z_FL RX12 199 12 22 .int 0 := ⟨_, _, _, tyX12, rfl, fcX12, by decide, z_inF (i := 861) (by decide +kernel) rfl, tyX12_ok, nmX12, by decide +kernel, by decide +kernel, by decide +kernel⟩
theorem flX12_209 : z_FL RX12 209 12 23 .int 0 := ⟨_, _, _, tyX12, rfl, fcX12, by decide, z_inF (i := 862) (by decide +kernel) rfl, tyX12_ok, nmX12, by decide +kernel, by decide +kernel, by decide +kernel⟩
theorem flX12_206 : z_FL RX12 206 12 24 .int 0 := ⟨_, _, _, tyX12, rfl, fcX12, by decide, z_inF (i := 863) (by decide +kernel) rfl, tyX12_ok, nmX12, by decide +kernel, by decide +kernel, by decide +kernel⟩
theorem flX12_212 : z_FL RX12 212 12 25 .int 0 := ⟨_, _, _, tyX12, rfl, fcX12, by decide, z_inF (i := 864) (by decide +kernel) rfl, tyX12_ok, nmX12, by decide +kernel, by decide +kernel, by decide +kernel⟩
theorem flX12_221 : z_FL RX12 221 12 26 .int 0 := ⟨_, _, _, tyX12, rfl, fcX12, by decide, z_inF (i := 865) (by decide +kernel) rfl, tyX12_ok, nmX12, by decide +kernel, by decide +kernel, by decide +kernel⟩
theorem flX12_224 : z_FL RX12 224 12 27 .int 0 := ⟨_, _, _, tyX12, rfl, fcX12, by decide, z_inF (i := 866) (by decide +kernel) rfl, tyX12_ok, nmX12, by decide +kernel, by decide +kernel, by decide +kernel⟩
theorem flX12_54 : z_FL RX12 54 12 28 .int 0 := ⟨_, _, _, tyX12, rfl, fcX12, by decide, z_inF (i := 867) (by decide +kernel) rfl, tyX12_ok, nmX12, by decide +kernel, by decide +kernel, by decide +kernel⟩
theorem flX12_58 : z_FL RX12 58 12 29 .int 0 := ⟨_, _, _, tyX12, rfl, fcX12, by decide, z_inF (i := 868) (by decide +kernel) rfl, tyX12_ok, nmX12, by decide +kernel, by decide +kernel, by decide +kernel⟩
theorem flX12_61 : z_FL RX12 61 12 30 .int 0 := ⟨_, _, _, tyX12, rfl, fcX12, by decide, z_inF (i := 869) (by decide +kernel) rfl, tyX12_ok, nmX12, by decide +kernel, by decide +kernel, by decide +kernel⟩
theorem flX12_64 : z_FL RX12 64 12 31 (.array .int) 1 := ⟨_, _, _, tyX12, rfl, fcX12, by decide, z_inF (i := 870) (by decide +kernel) rfl, tyX12_ok, nmX12, by decide +kernel, by decide +kernel, by decide +kernel⟩
theorem flX12_234 : z_FL RX12 234 12 32 .int 0 := ⟨_, _, _, tyX12, rfl, fcX12, by decide, z_inF (i := 871) (by decide +kernel) rfl, tyX12_ok, nmX12, by decide +kernel, by decide +kernel, by decide +kernel⟩
theorem flX12_237 : z_FL RX12 237 12 33 .int 0 := ⟨_, _, _, tyX12, rfl, fcX12, by decide, z_inF (i := 872) (by decide +kernel) rfl, tyX12_ok, nmX12, by decide +kernel, by decide +kernel, by decide +kernel⟩
theorem flX12_215 : z_FL RX12 215 12 34 .int 0 := ⟨_, _, _, tyX12, rfl, fcX12, by decide, z_inF (i := 873) (by decide +kernel) rfl, tyX12_ok, nmX12, by decide +kernel, by decide +kernel, by decide +kernel⟩
theorem flX12_247 : z_FL RX12 247 12 35 .int 0 := ⟨_, _, _, tyX12, rfl, fcX12, by decide, z_inF (i := 874) (by decide +kernel) rfl, tyX12_ok, nmX12, by decide +kernel, by decide +kernel, by decide +kernel⟩
theorem flX12_67 : z_FL RX12 67 12 36 (.array .int) 1 := ⟨_, _, _, tyX12, rfl, fcX12, by decide, z_inF (i := 875) (by decide +kernel) rfl, tyX12_ok, nmX12, by decide +kernel, by decide +kernel, by decide +kernel⟩
theorem flX12_70 : z_FL RX12 70 12 37 (.array .int) 1 := ⟨_, _, _, tyX12, rfl, fcX12, by decide, z_inF (i := 876) (by decide +kernel) rfl, tyX12_ok, nmX12, by decide +kernel, by decide +kernel, by decide +kernel⟩
theorem flX12_73 : z_FL RX12 73 12 38 (.array .int) 1 := ⟨_, _, _, tyX12, rfl, fcX12, by decide, z_inF (i := 877) (by decide +kernel) rfl, tyX12_ok, nmX12, by decide +kernel, by decide +kernel, by decide +kernel⟩
theorem flX12_76 : z_FL RX12 76 12 39 (.array .int) 1 := ⟨_, _, _, tyX12, rfl, fcX12, by decide, z_inF (i := 878) (by decide +kernel) rfl, tyX12_ok, nmX12, by decide +kernel, by decide +kernel, by decide +kernel⟩
theorem flX12_79 : z_FL RX12 79 12 40 (.array .int) 1 := ⟨_, _, _, tyX12, rfl, fcX12, by decide, z_inF (i := 879) (by decide +kernel) rfl, tyX12_ok, nmX12, by decide +kernel, by decide +kernel, by decide +kernel⟩
theorem flX12_82 : z_FL RX12 82 12 41 (.array .int) 1 := ⟨_, _, _, tyX12, rfl, fcX12, by decide, z_inF (i := 880) (by decide +kernel) rfl, tyX12_ok, nmX12, by decide +kernel, by decide +kernel, by decide +kernel⟩
theorem flX12_85 : z_FL RX12 85 12 42 (.array .int) 1 := ⟨_, _, _, tyX12, rfl, fcX12, by decide, z_inF (i := 881) (by decide +kernel) rfl, tyX12_ok, nmX12, by decide +kernel, by decide +kernel, by decide +kernel⟩
theorem flX12_88 : z_FL RX12 88 12 43 (.array .int) 1 := ⟨_, _, _, tyX12, rfl, fcX12, by decide, z_inF (i := 882) (by decide +kernel) rfl, tyX12_ok, nmX12, by decide +kernel, by decide +kernel, by decide +kernel⟩
theorem flX12_91 : z_FL RX12 91 12 44 (.array .int) 1 := ⟨_, _, _, tyX12, rfl, fcX12, by decide, z_inF (i := 883) (by decide +kernel) rfl, tyX12_ok, nmX12, by decide +kernel, by decide +kernel, by decide +kernel⟩
theorem flX12_94 : z_FL RX12 94 12 45 (.array .int) 1 := ⟨_, _, _, tyX12, rfl, fcX12, by decide, z_inF (i := 884) (by decide +kernel) rfl, tyX12_ok, nmX12, by decide +kernel, by decide +kernel, by decide +kernel⟩
theorem flX12_97 : z_FL RX12 97 12 46 (.array .int) 1 := ⟨_, _, _, tyX12, rfl, fcX12, by decide, z_inF (i := 885) (by decide +kernel) rfl, tyX12_ok, nmX12, by decide +kernel, by decide +kernel, by decide +kernel⟩
theorem flX12_100 : z_FL RX12 100 12 47 (.array .int) 1 := ⟨_, _, _, tyX12, rfl, fcX12, by decide, z_inF (i := 886) (by decide +kernel) rfl, tyX12_ok, nmX12, by decide +kernel, by decide +kernel, by decide +kernel⟩
theorem flX12_103 : z_FL RX12 103 12 48 (.array .int) 1 := ⟨_, _, _, tyX12, rfl, fcX12, by decide, z_inF (i := 887) (by decide +kernel) rfl, tyX12_ok, nmX12, by decide +kernel, by decide +kernel, by decide +kernel⟩
theorem flX12_106 : z_FL RX12 106 12 49 (.array .int) 1 := ⟨_, _, _, tyX12, rfl, fcX12, by decide, z_inF (i := 888) (by decide +kernel) rfl, tyX12_ok, nmX12, by decide +kernel, by decide +kernel, by decide +kernel⟩
theorem flX12_109 : z_FL RX12 109 12 50 (.array .int) 1 := ⟨_, _, _, tyX12, rfl, fcX12, by decide, z_inF (i := 889) (by decide +kernel) rfl, tyX12_ok, nmX12, by decide +kernel, by decide +kernel, by decide +kernel⟩
theorem flX12_112 : z_FL RX12 112 12 51 (.array .int) 1 := ⟨_, _, _, tyX12, rfl, fcX12, by decide, z_inF (i := 890) (by decide +kernel) rfl, tyX12_ok, nmX12, by decide +kernel, by decide +kernel, by decide +kernel⟩
theorem flX12_115 : z_FL RX12 115 12 52 (.array .int) 1 := ⟨_, _, _, tyX12, rfl, fcX12, by decide, z_inF (i := 891) (by decide +kernel) rfl, tyX12_ok, nmX12, by decide +kernel, by decide +kernel, by decide +kernel⟩
theorem flX12_118 : z_FL RX12 118 12 53 (.array .int) 1 := ⟨_, _, _, tyX12, rfl, fcX12, by decide, z_inF (i := 892) (by decide +kernel) rfl, tyX12_ok, nmX12, by decide +kernel, by decide +kernel, by decide +kernel⟩
theorem flX12_121 : z_FL RX12 121 12 54 (.array .int) 1 := ⟨_, _, _, tyX12, rfl, fcX12, by decide, z_inF (i := 893) (by decide +kernel) rfl, tyX12_ok, nmX12, by decide +kernel, by decide +kernel, by decide +kernel⟩
theorem flX12_124 : z_FL RX12 124 12 55 (.array .int) 1 := ⟨_, _, _, tyX12, rfl, fcX12, by decide, z_inF (i := 894) (by decide +kernel) rfl, tyX12_ok, nmX12, by decide +kernel, by decide +kernel, by decide +kernel⟩
theorem flX12_127 : z_FL RX12 127 12 56 (.array .int) 1 := ⟨_, _, _, tyX12, rfl, fcX12, by decide, z_inF (i := 895) (by decide +kernel) rfl, tyX12_ok, nmX12, by decide +kernel, by decide +kernel, by decide +kernel⟩
theorem flX12_130 : z_FL RX12 130 12 57 (.array .int) 1 := ⟨_, _, _, tyX12, rfl, fcX12, by decide, z_inF (i := 896) (by decide +kernel) rfl, tyX12_ok, nmX12, by decide +kernel, by decide +kernel, by decide +kernel⟩
theorem flX12_133 : z_FL RX12 133 12 58 (.array .int) 1 := ⟨_, _, _, tyX12, rfl, fcX12, by decide, z_inF (i := 897) (by decide +kernel) rfl, tyX12_ok, nmX12, by decide +kernel, by decide +kernel, by decide +kernel⟩
theorem flX12_136 : z_FL RX12 136 12 59 (.array .int) 1 := ⟨_, _, _, tyX12, rfl, fcX12, by decide, z_inF (i := 898) (by decide +kernel) rfl, tyX12_ok, nmX12, by decide +kernel, by decide +kernel, by decide +kernel⟩
theorem flX12_139 : z_FL RX12 139 12 60 (.array .int) 0 := ⟨_, _, _, tyX12, rfl, fcX12, by decide, z_inF (i := 899) (by decide +kernel) rfl, tyX12_ok, nmX12, by decide +kernel, by decide +kernel, by decide +kernel⟩
theorem flX12_142 : z_FL RX12 142 12 61 (.array .int) 0 := ⟨_, _, _, tyX12, rfl, fcX12, by decide, z_inF (i := 900) (by decide +kernel) rfl, tyX12_ok, nmX12, by decide +kernel, by decide +kernel, by decide +kernel⟩
theorem flX12_145 : z_FL RX12 145 12 62 (.array .int) 0 := ⟨_, _, _, tyX12, rfl, fcX12, by decide, z_inF (i := 901) (by decide +kernel) rfl, tyX12_ok, nmX12, by decide +kernel, by decide +kernel, by decide +kernel⟩
theorem flX12_148 : z_FL RX12 148 12 63 (.array .int) 0 := ⟨_, _, _, tyX12, rfl, fcX12, by decide, z_inF (i := 902) (by decide +kernel) rfl, tyX12_ok, nmX12, by decide +kernel, by decide +kernel, by decide +kernel⟩
theorem flX12_151 : z_FL RX12 151 12 64 (.array .int) 1 := ⟨_, _, _, tyX12, rfl, fcX12, by decide, z_inF (i := 903) (by decide +kernel) rfl, tyX12_ok, nmX12, by decide +kernel, by decide +kernel, by decide +kernel⟩
theorem flX12_154 : z_FL RX12 154 12 65 (.array .int) 1 := ⟨_, _, _, tyX12, rfl, fcX12, by decide, z_inF (i := 904) (by decide +kernel) rfl, tyX12_ok, nmX12, by decide +kernel, by decide +kernel, by decide +kernel⟩
theorem flX12_157 : z_FL RX12 157 12 66 (.array .int) 1 := ⟨_, _, _, tyX12, rfl, fcX12, by decide, z_inF (i := 905) (by decide +kernel) rfl, tyX12_ok, nmX12, by decide +kernel, by decide +kernel, by decide +kernel⟩
theorem flX12_160 : z_FL RX12 160 12 67 (.array .int) 1 := ⟨_, _, _, tyX12, rfl, fcX12, by decide, z_inF (i := 906) (by decide +kernel) rfl, tyX12_ok, nmX12, by decide +kernel, by decide +kernel, by decide +kernel⟩
theorem flX12_163 : z_FL RX12 163 12 68 (.array .boolean) 1 := ⟨_, _, _, tyX12, rfl, fcX12, by decide, z_inF (i := 907) (by decide +kernel) rfl, tyX12_ok, nmX12, by decide +kernel, by decide +kernel, by decide +kernel⟩
theorem mlL_17 : Cond.methodLink RL 17 yX12_bog ∈ z_F := z_inF (i := 1047) (by decide +kernel) rfl
theorem im_X12_bog : Cond.instanceMethod yX12_bog ∈ z_F := z_inF (i := 1048) (by decide +kernel) rfl
theorem se_X12_bog : Cond.selects RX12 yX12_bog yX12_bog ∈ z_F := z_inF (i := 1049) (by decide +kernel) rfl
theorem ym_X12_bog : z_ym yX12_bog cX12_bog 4 (some .int) 3 := ⟨z_inF (i := 1050) (by decide +kernel) rfl, z_inF (i := 45) (by decide +kernel) rfl, by decide +kernel, by decide +kernel, by decide +kernel, by decide +kernel, by decide⟩
theorem kcX12_177 : Cond.constant RX12 177 (100000) ∈ lw_tbl := List.mem_of_getElem? (i := 1051) (by decide +kernel)
theorem mlX12_169 : Cond.methodLink RX12 169 yX12_in ∈ z_F := z_inF (i := 1052) (by decide +kernel) rfl
theorem sm_X12_in : Cond.static yX12_in ∈ z_F := z_inF (i := 1053) (by decide +kernel) rfl
theorem ym_X12_in : z_ym yX12_in cX12_in 3 (some .boolean) 3 := ⟨z_inF (i := 1054) (by decide +kernel) rfl, z_inF (i := 45) (by decide +kernel) rfl, by decide +kernel, by decide +kernel, by decide +kernel, by decide +kernel, by decide⟩
theorem mlL_22 : Cond.methodLink RL 22 yX12_test ∈ z_F := z_inF (i := 1055) (by decide +kernel) rfl
theorem im_X12_test : Cond.instanceMethod yX12_test ∈ z_F := z_inF (i := 1056) (by decide +kernel) rfl
theorem se_X12_test : Cond.selects RX12 yX12_test yX12_test ∈ z_F := z_inF (i := 1057) (by decide +kernel) rfl
theorem ym_X12_test : z_ym yX12_test cX12_test 4 (some .boolean) 3 := ⟨z_inF (i := 1058) (by decide +kernel) rfl, z_inF (i := 45) (by decide +kernel) rfl, by decide +kernel, by decide +kernel, by decide +kernel, by decide +kernel, by decide⟩
theorem mlX12_178 : Cond.methodLink RX12 178 yX12_isBog ∈ z_F := z_inF (i := 1059) (by decide +kernel) rfl
theorem im_X12_isBog : Cond.instanceMethod yX12_isBog ∈ z_F := z_inF (i := 1061) (by decide +kernel) rfl
theorem ym_X12_isBog : z_ym yX12_isBog cX12_isBog 2 (some .boolean) 1 := ⟨z_inF (i := 1062) (by decide +kernel) rfl, z_inF (i := 45) (by decide +kernel) rfl, by decide +kernel, by decide +kernel, by decide +kernel, by decide +kernel, by decide⟩
theorem mlX12_182 : Cond.methodLink RX12 182 Lib.Math.max.name ∈ z_F := z_inF (i := 1063) (by decide +kernel) rfl
theorem mlX12_188 : Cond.methodLink RX12 188 Lib.Math.min.name ∈ z_F := z_inF (i := 1064) (by decide +kernel) rfl
theorem mlL_27 : Cond.methodLink RL 27 yX12_dig ∈ z_F := z_inF (i := 1065) (by decide +kernel) rfl
theorem im_X12_dig : Cond.instanceMethod yX12_dig ∈ z_F := z_inF (i := 1066) (by decide +kernel) rfl
theorem se_X12_dig : Cond.selects RX12 yX12_dig yX12_dig ∈ z_F := z_inF (i := 1067) (by decide +kernel) rfl
theorem ym_X12_dig : z_ym yX12_dig cX12_dig 4 (some .int) 2 := ⟨z_inF (i := 1068) (by decide +kernel) rfl, z_inF (i := 45) (by decide +kernel) rfl, by decide +kernel, by decide +kernel, by decide +kernel, by decide +kernel, by decide⟩
theorem mlL_31 : Cond.methodLink RL 31 yX12_coal ∈ z_F := z_inF (i := 1069) (by decide +kernel) rfl
theorem im_X12_coal : Cond.instanceMethod yX12_coal ∈ z_F := z_inF (i := 1070) (by decide +kernel) rfl
theorem se_X12_coal : Cond.selects RX12 yX12_coal yX12_coal ∈ z_F := z_inF (i := 1071) (by decide +kernel) rfl
theorem ym_X12_coal : z_ym yX12_coal cX12_coal 3 (some .int) 2 := ⟨z_inF (i := 1072) (by decide +kernel) rfl, z_inF (i := 45) (by decide +kernel) rfl, by decide +kernel, by decide +kernel, by decide +kernel, by decide +kernel, by decide⟩
theorem kcX12_194 : Cond.constant RX12 194 (1000000) ∈ lw_tbl := List.mem_of_getElem? (i := 1073) (by decide +kernel)
theorem mlL_36 : Cond.methodLink RL 36 yX12_year ∈ z_F := z_inF (i := 1074) (by decide +kernel) rfl
theorem im_X12_year : Cond.instanceMethod yX12_year ∈ z_F := z_inF (i := 1075) (by decide +kernel) rfl
theorem se_X12_year : Cond.selects RX12 yX12_year yX12_year ∈ z_F := z_inF (i := 1076) (by decide +kernel) rfl
theorem ym_X12_year : z_ym yX12_year cX12_year 2 (some .int) 0 := ⟨z_inF (i := 1077) (by decide +kernel) rfl, z_inF (i := 45) (by decide +kernel) rfl, by decide +kernel, by decide +kernel, by decide +kernel, by decide +kernel, by decide⟩
theorem mlX12_195 : Cond.methodLink RX12 195 yX12_sum ∈ z_F := z_inF (i := 1078) (by decide +kernel) rfl
theorem sm_X12_sum : Cond.static yX12_sum ∈ z_F := z_inF (i := 1079) (by decide +kernel) rfl
theorem ym_X12_sum : z_ym yX12_sum cX12_sum 3 (some .int) 1 := ⟨z_inF (i := 1080) (by decide +kernel) rfl, z_inF (i := 45) (by decide +kernel) rfl, by decide +kernel, by decide +kernel, by decide +kernel, by decide +kernel, by decide⟩
theorem mlL_41 : Cond.methodLink RL 41 yX12_water ∈ z_F := z_inF (i := 1081) (by decide +kernel) rfl
theorem im_X12_water : Cond.instanceMethod yX12_water ∈ z_F := z_inF (i := 1082) (by decide +kernel) rfl
theorem se_X12_water : Cond.selects RX12 yX12_water yX12_water ∈ z_F := z_inF (i := 1083) (by decide +kernel) rfl
theorem ym_X12_water : z_ym yX12_water cX12_water 2 (some .boolean) 1 := ⟨z_inF (i := 1084) (by decide +kernel) rfl, z_inF (i := 45) (by decide +kernel) rfl, by decide +kernel, by decide +kernel, by decide +kernel, by decide +kernel, by decide⟩
theorem mlL_45 : Cond.methodLink RL 45 yX12_gap ∈ z_F := z_inF (i := 1085) (by decide +kernel) rfl
theorem im_X12_gap : Cond.instanceMethod yX12_gap ∈ z_F := z_inF (i := 1086) (by decide +kernel) rfl
theorem se_X12_gap : Cond.selects RX12 yX12_gap yX12_gap ∈ z_F := z_inF (i := 1087) (by decide +kernel) rfl
theorem ym_X12_gap : z_ym yX12_gap cX12_gap 2 (some .boolean) 1 := ⟨z_inF (i := 1088) (by decide +kernel) rfl, z_inF (i := 45) (by decide +kernel) rfl, by decide +kernel, by decide +kernel, by decide +kernel, by decide +kernel, by decide⟩
theorem mlL_68 : Cond.methodLink RL 68 yX12_charge ∈ z_F := z_inF (i := 1089) (by decide +kernel) rfl
theorem im_X12_charge : Cond.instanceMethod yX12_charge ∈ z_F := z_inF (i := 1090) (by decide +kernel) rfl
theorem se_X12_charge : Cond.selects RX12 yX12_charge yX12_charge ∈ z_F := z_inF (i := 1091) (by decide +kernel) rfl
theorem ym_X12_charge : z_ym yX12_charge cX12_charge 4 (some .boolean) 2 := ⟨z_inF (i := 1092) (by decide +kernel) rfl, z_inF (i := 45) (by decide +kernel) rfl, by decide +kernel, by decide +kernel, by decide +kernel, by decide +kernel, by decide⟩
theorem mlX12_202 : Cond.methodLink RX12 202 yX12_partBy ∈ z_F := z_inF (i := 1093) (by decide +kernel) rfl
theorem im_X12_partBy : Cond.instanceMethod yX12_partBy ∈ z_F := z_inF (i := 1095) (by decide +kernel) rfl
theorem ym_X12_partBy : z_ym yX12_partBy cX12_partBy 4 none 2 := ⟨z_inF (i := 1096) (by decide +kernel) rfl, z_inF (i := 45) (by decide +kernel) rfl, by decide +kernel, by decide +kernel, by decide +kernel, by decide +kernel, by decide⟩
theorem mlX12_173 : Cond.methodLink RX12 173 yX12_partAmong ∈ z_F := z_inF (i := 1097) (by decide +kernel) rfl
theorem im_X12_partAmong : Cond.instanceMethod yX12_partAmong ∈ z_F := z_inF (i := 1099) (by decide +kernel) rfl
theorem ym_X12_partAmong : z_ym yX12_partAmong cX12_partAmong 14 none 2 := ⟨z_inF (i := 1100) (by decide +kernel) rfl, z_inF (i := 45) (by decide +kernel) rfl, by decide +kernel, by decide +kernel, by decide +kernel, by decide +kernel, by decide⟩
theorem mlL_73 : Cond.methodLink RL 73 yX12_blow ∈ z_F := z_inF (i := 1101) (by decide +kernel) rfl
theorem im_X12_blow : Cond.instanceMethod yX12_blow ∈ z_F := z_inF (i := 1102) (by decide +kernel) rfl
theorem se_X12_blow : Cond.selects RX12 yX12_blow yX12_blow ∈ z_F := z_inF (i := 1103) (by decide +kernel) rfl
theorem ym_X12_blow : z_ym yX12_blow cX12_blow 3 (some .int) 1 := ⟨z_inF (i := 1104) (by decide +kernel) rfl, z_inF (i := 45) (by decide +kernel) rfl, by decide +kernel, by decide +kernel, by decide +kernel, by decide +kernel, by decide⟩
theorem mlX12_227 : Cond.methodLink RX12 227 yX12_minute ∈ z_F := z_inF (i := 1105) (by decide +kernel) rfl
theorem im_X12_minute : Cond.instanceMethod yX12_minute ∈ z_F := z_inF (i := 1107) (by decide +kernel) rfl
theorem ym_X12_minute : z_ym yX12_minute cX12_minute 3 none 0 := ⟨z_inF (i := 1108) (by decide +kernel) rfl, z_inF (i := 45) (by decide +kernel) rfl, by decide +kernel, by decide +kernel, by decide +kernel, by decide +kernel, by decide⟩
theorem mlX12_218 : Cond.methodLink RX12 218 yX12_holds ∈ z_F := z_inF (i := 1109) (by decide +kernel) rfl
theorem im_X12_holds : Cond.instanceMethod yX12_holds ∈ z_F := z_inF (i := 1111) (by decide +kernel) rfl
theorem ym_X12_holds : z_ym yX12_holds cX12_holds 4 (some .boolean) 1 := ⟨z_inF (i := 1112) (by decide +kernel) rfl, z_inF (i := 45) (by decide +kernel) rfl, by decide +kernel, by decide +kernel, by decide +kernel, by decide +kernel, by decide⟩
theorem mlL_81 : Cond.methodLink RL 81 yX12_furnace ∈ z_F := z_inF (i := 1113) (by decide +kernel) rfl
theorem im_X12_furnace : Cond.instanceMethod yX12_furnace ∈ z_F := z_inF (i := 1114) (by decide +kernel) rfl
theorem se_X12_furnace : Cond.selects RX12 yX12_furnace yX12_furnace ∈ z_F := z_inF (i := 1115) (by decide +kernel) rfl
theorem ym_X12_furnace : z_ym yX12_furnace cX12_furnace 2 (some .int) 1 := ⟨z_inF (i := 1116) (by decide +kernel) rfl, z_inF (i := 45) (by decide +kernel) rfl, by decide +kernel, by decide +kernel, by decide +kernel, by decide +kernel, by decide⟩
theorem mlL_50 : Cond.methodLink RL 50 yX12_feed ∈ z_F := z_inF (i := 1117) (by decide +kernel) rfl
theorem im_X12_feed : Cond.instanceMethod yX12_feed ∈ z_F := z_inF (i := 1118) (by decide +kernel) rfl
theorem se_X12_feed : Cond.selects RX12 yX12_feed yX12_feed ∈ z_F := z_inF (i := 1119) (by decide +kernel) rfl
theorem ym_X12_feed : z_ym yX12_feed cX12_feed 9 (some .int) 5 := ⟨z_inF (i := 1120) (by decide +kernel) rfl, z_inF (i := 45) (by decide +kernel) rfl, by decide +kernel, by decide +kernel, by decide +kernel, by decide +kernel, by decide⟩
theorem mlX12_230 : Cond.methodLink RX12 230 yX12_byteOf ∈ z_F := z_inF (i := 1121) (by decide +kernel) rfl
theorem sm_X12_byteOf : Cond.static yX12_byteOf ∈ z_F := z_inF (i := 1122) (by decide +kernel) rfl
theorem ym_X12_byteOf : z_ym yX12_byteOf cX12_byteOf 7 (some .int) 6 := ⟨z_inF (i := 1123) (by decide +kernel) rfl, z_inF (i := 45) (by decide +kernel) rfl, by decide +kernel, by decide +kernel, by decide +kernel, by decide +kernel, by decide⟩
theorem mlL_54 : Cond.methodLink RL 54 yX12_end ∈ z_F := z_inF (i := 1124) (by decide +kernel) rfl
theorem im_X12_end : Cond.instanceMethod yX12_end ∈ z_F := z_inF (i := 1125) (by decide +kernel) rfl
theorem se_X12_end : Cond.selects RX12 yX12_end yX12_end ∈ z_F := z_inF (i := 1126) (by decide +kernel) rfl
theorem ym_X12_end : z_ym yX12_end cX12_end 2 (some .boolean) 1 := ⟨z_inF (i := 1127) (by decide +kernel) rfl, z_inF (i := 45) (by decide +kernel) rfl, by decide +kernel, by decide +kernel, by decide +kernel, by decide +kernel, by decide⟩
theorem mlL_58 : Cond.methodLink RL 58 yX12_fault ∈ z_F := z_inF (i := 1128) (by decide +kernel) rfl
theorem im_X12_fault : Cond.instanceMethod yX12_fault ∈ z_F := z_inF (i := 1129) (by decide +kernel) rfl
theorem se_X12_fault : Cond.selects RX12 yX12_fault yX12_fault ∈ z_F := z_inF (i := 1130) (by decide +kernel) rfl
theorem ym_X12_fault : z_ym yX12_fault cX12_fault 2 (some .int) 0 := ⟨z_inF (i := 1131) (by decide +kernel) rfl, z_inF (i := 45) (by decide +kernel) rfl, by decide +kernel, by decide +kernel, by decide +kernel, by decide +kernel, by decide⟩
theorem mlX12_240 : Cond.methodLink RX12 240 yX12_look ∈ z_F := z_inF (i := 1132) (by decide +kernel) rfl
theorem im_X12_look : Cond.instanceMethod yX12_look ∈ z_F := z_inF (i := 1134) (by decide +kernel) rfl
theorem ym_X12_look : z_ym yX12_look cX12_look 1 (some .int) 0 := ⟨z_inF (i := 1135) (by decide +kernel) rfl, z_inF (i := 45) (by decide +kernel) rfl, by decide +kernel, by decide +kernel, by decide +kernel, by decide +kernel, by decide⟩
theorem mlX12_250 : Cond.methodLink RX12 250 yX12_clause ∈ z_F := z_inF (i := 1136) (by decide +kernel) rfl
theorem im_X12_clause : Cond.instanceMethod yX12_clause ∈ z_F := z_inF (i := 1138) (by decide +kernel) rfl
theorem ym_X12_clause : z_ym yX12_clause cX12_clause 5 (some .boolean) 0 := ⟨z_inF (i := 1139) (by decide +kernel) rfl, z_inF (i := 45) (by decide +kernel) rfl, by decide +kernel, by decide +kernel, by decide +kernel, by decide +kernel, by decide⟩
theorem mlX12_244 : Cond.methodLink RX12 244 yX12_isDigit ∈ z_F := z_inF (i := 1140) (by decide +kernel) rfl
theorem sm_X12_isDigit : Cond.static yX12_isDigit ∈ z_F := z_inF (i := 1141) (by decide +kernel) rfl
theorem ym_X12_isDigit : z_ym yX12_isDigit cX12_isDigit 1 (some .boolean) 1 := ⟨z_inF (i := 1142) (by decide +kernel) rfl, z_inF (i := 45) (by decide +kernel) rfl, by decide +kernel, by decide +kernel, by decide +kernel, by decide +kernel, by decide⟩
theorem mlL_63 : Cond.methodLink RL 63 yX12_rules ∈ z_F := z_inF (i := 1143) (by decide +kernel) rfl
theorem im_X12_rules : Cond.instanceMethod yX12_rules ∈ z_F := z_inF (i := 1144) (by decide +kernel) rfl
theorem se_X12_rules : Cond.selects RX12 yX12_rules yX12_rules ∈ z_F := z_inF (i := 1145) (by decide +kernel) rfl
theorem ym_X12_rules : z_ym yX12_rules cX12_rules 2 (some .boolean) 0 := ⟨z_inF (i := 1146) (by decide +kernel) rfl, z_inF (i := 45) (by decide +kernel) rfl, by decide +kernel, by decide +kernel, by decide +kernel, by decide +kernel, by decide⟩
theorem mlX12_254 : Cond.methodLink RX12 254 yX12_fault ∈ z_F := z_inF (i := 1147) (by decide +kernel) rfl
theorem mlL_77 : Cond.methodLink RL 77 yX12_draw ∈ z_F := z_inF (i := 1148) (by decide +kernel) rfl
theorem im_X12_draw : Cond.instanceMethod yX12_draw ∈ z_F := z_inF (i := 1149) (by decide +kernel) rfl
theorem se_X12_draw : Cond.selects RX12 yX12_draw yX12_draw ∈ z_F := z_inF (i := 1150) (by decide +kernel) rfl
theorem ym_X12_draw : z_ym yX12_draw cX12_draw 6 (some .int) 0 := ⟨z_inF (i := 1151) (by decide +kernel) rfl, z_inF (i := 45) (by decide +kernel) rfl, by decide +kernel, by decide +kernel, by decide +kernel, by decide +kernel, by decide⟩
theorem klX12_260 : Cond.constantLong RX12 260 (1000) ∈ lw_tbl := List.mem_of_getElem? (i := 1152) (by decide +kernel)
theorem klX12_262 : Cond.constantLong RX12 262 (999) ∈ lw_tbl := List.mem_of_getElem? (i := 1153) (by decide +kernel)
theorem mlL_85 : Cond.methodLink RL 85 yX12_forge ∈ z_F := z_inF (i := 1154) (by decide +kernel) rfl
theorem im_X12_forge : Cond.instanceMethod yX12_forge ∈ z_F := z_inF (i := 1155) (by decide +kernel) rfl
theorem se_X12_forge : Cond.selects RX12 yX12_forge yX12_forge ∈ z_F := z_inF (i := 1156) (by decide +kernel) rfl
theorem ym_X12_forge : z_ym yX12_forge cX12_forge 4 (some .int) 2 := ⟨z_inF (i := 1157) (by decide +kernel) rfl, z_inF (i := 45) (by decide +kernel) rfl, by decide +kernel, by decide +kernel, by decide +kernel, by decide +kernel, by decide⟩
theorem mlX12_267 : Cond.methodLink RX12 267 yX12_isBar ∈ z_F := z_inF (i := 1158) (by decide +kernel) rfl
theorem im_X12_isBar : Cond.instanceMethod yX12_isBar ∈ z_F := z_inF (i := 1160) (by decide +kernel) rfl
theorem ym_X12_isBar : z_ym yX12_isBar cX12_isBar 2 (some .boolean) 1 := ⟨z_inF (i := 1161) (by decide +kernel) rfl, z_inF (i := 45) (by decide +kernel) rfl, by decide +kernel, by decide +kernel, by decide +kernel, by decide +kernel, by decide⟩
theorem klX12_270 : Cond.constantLong RX12 270 (97) ∈ lw_tbl := List.mem_of_getElem? (i := 1162) (by decide +kernel)
theorem klX12_272 : Cond.constantLong RX12 272 (100) ∈ lw_tbl := List.mem_of_getElem? (i := 1163) (by decide +kernel)
theorem klX12_274 : Cond.constantLong RX12 274 (99) ∈ lw_tbl := List.mem_of_getElem? (i := 1164) (by decide +kernel)
theorem mlX12_276 : Cond.methodLink RX12 276 yX12_sortOf ∈ z_F := z_inF (i := 1165) (by decide +kernel) rfl
theorem im_X12_sortOf : Cond.instanceMethod yX12_sortOf ∈ z_F := z_inF (i := 1167) (by decide +kernel) rfl
theorem ym_X12_sortOf : z_ym yX12_sortOf cX12_sortOf 2 (some .int) 1 := ⟨z_inF (i := 1168) (by decide +kernel) rfl, z_inF (i := 45) (by decide +kernel) rfl, by decide +kernel, by decide +kernel, by decide +kernel, by decide +kernel, by decide⟩
theorem mlL_89 : Cond.methodLink RL 89 yX12_bar ∈ z_F := z_inF (i := 1169) (by decide +kernel) rfl
theorem im_X12_bar : Cond.instanceMethod yX12_bar ∈ z_F := z_inF (i := 1170) (by decide +kernel) rfl
theorem se_X12_bar : Cond.selects RX12 yX12_bar yX12_bar ∈ z_F := z_inF (i := 1171) (by decide +kernel) rfl
theorem ym_X12_bar : z_ym yX12_bar cX12_bar 6 (some .int) 2 := ⟨z_inF (i := 1172) (by decide +kernel) rfl, z_inF (i := 45) (by decide +kernel) rfl, by decide +kernel, by decide +kernel, by decide +kernel, by decide +kernel, by decide⟩
theorem mlL_93 : Cond.methodLink RL 93 yX12_part ∈ z_F := z_inF (i := 1173) (by decide +kernel) rfl
theorem im_X12_part : Cond.instanceMethod yX12_part ∈ z_F := z_inF (i := 1174) (by decide +kernel) rfl
theorem se_X12_part : Cond.selects RX12 yX12_part yX12_part ∈ z_F := z_inF (i := 1175) (by decide +kernel) rfl
theorem ym_X12_part : z_ym yX12_part cX12_part 3 (some .int) 2 := ⟨z_inF (i := 1176) (by decide +kernel) rfl, z_inF (i := 45) (by decide +kernel) rfl, by decide +kernel, by decide +kernel, by decide +kernel, by decide +kernel, by decide⟩
theorem mlL_97 : Cond.methodLink RL 97 yX12_burnt ∈ z_F := z_inF (i := 1177) (by decide +kernel) rfl
theorem im_X12_burnt : Cond.instanceMethod yX12_burnt ∈ z_F := z_inF (i := 1178) (by decide +kernel) rfl
theorem se_X12_burnt : Cond.selects RX12 yX12_burnt yX12_burnt ∈ z_F := z_inF (i := 1179) (by decide +kernel) rfl
theorem ym_X12_burnt : z_ym yX12_burnt cX12_burnt 3 (some .int) 2 := ⟨z_inF (i := 1180) (by decide +kernel) rfl, z_inF (i := 45) (by decide +kernel) rfl, by decide +kernel, by decide +kernel, by decide +kernel, by decide +kernel, by decide⟩
theorem mlL_102 : Cond.methodLink RL 102 yX12_right ∈ z_F := z_inF (i := 1181) (by decide +kernel) rfl
theorem im_X12_right : Cond.instanceMethod yX12_right ∈ z_F := z_inF (i := 1182) (by decide +kernel) rfl
theorem se_X12_right : Cond.selects RX12 yX12_right yX12_right ∈ z_F := z_inF (i := 1183) (by decide +kernel) rfl
theorem ym_X12_right : z_ym yX12_right cX12_right 5 (some .boolean) 4 := ⟨z_inF (i := 1184) (by decide +kernel) rfl, z_inF (i := 45) (by decide +kernel) rfl, by decide +kernel, by decide +kernel, by decide +kernel, by decide +kernel, by decide⟩
theorem mlL_106 : Cond.methodLink RL 106 yX12_pay ∈ z_F := z_inF (i := 1185) (by decide +kernel) rfl
theorem im_X12_pay : Cond.instanceMethod yX12_pay ∈ z_F := z_inF (i := 1186) (by decide +kernel) rfl
theorem se_X12_pay : Cond.selects RX12 yX12_pay yX12_pay ∈ z_F := z_inF (i := 1187) (by decide +kernel) rfl
theorem ym_X12_pay : z_ym yX12_pay cX12_pay 3 (some .int) 2 := ⟨z_inF (i := 1188) (by decide +kernel) rfl, z_inF (i := 45) (by decide +kernel) rfl, by decide +kernel, by decide +kernel, by decide +kernel, by decide +kernel, by decide⟩
theorem mlX12_297 : Cond.methodLink RX12 297 yX12_settle ∈ z_F := z_inF (i := 1189) (by decide +kernel) rfl
theorem im_X12_settle : Cond.instanceMethod yX12_settle ∈ z_F := z_inF (i := 1191) (by decide +kernel) rfl
theorem ym_X12_settle : z_ym yX12_settle cX12_settle 7 (some .int) 1 := ⟨z_inF (i := 1192) (by decide +kernel) rfl, z_inF (i := 45) (by decide +kernel) rfl, by decide +kernel, by decide +kernel, by decide +kernel, by decide +kernel, by decide⟩
theorem mlX12_283 : Cond.methodLink RX12 283 yX12_inForce ∈ z_F := z_inF (i := 1193) (by decide +kernel) rfl
theorem im_X12_inForce : Cond.instanceMethod yX12_inForce ∈ z_F := z_inF (i := 1195) (by decide +kernel) rfl
theorem ym_X12_inForce : z_ym yX12_inForce cX12_inForce 7 (some .int) 3 := ⟨z_inF (i := 1196) (by decide +kernel) rfl, z_inF (i := 45) (by decide +kernel) rfl, by decide +kernel, by decide +kernel, by decide +kernel, by decide +kernel, by decide⟩
theorem mlX12_290 : Cond.methodLink RX12 290 yX12_longer ∈ z_F := z_inF (i := 1197) (by decide +kernel) rfl
theorem sm_X12_longer : Cond.static yX12_longer ∈ z_F := z_inF (i := 1198) (by decide +kernel) rfl
theorem ym_X12_longer : z_ym yX12_longer cX12_longer 3 (some (.array .int)) 1 := ⟨z_inF (i := 1199) (by decide +kernel) rfl, z_inF (i := 45) (by decide +kernel) rfl, by decide +kernel, by decide +kernel, by decide +kernel, by decide +kernel, by decide⟩
theorem mlL_110 : Cond.methodLink RL 110 yX12_again ∈ z_F := z_inF (i := 1200) (by decide +kernel) rfl
theorem im_X12_again : Cond.instanceMethod yX12_again ∈ z_F := z_inF (i := 1201) (by decide +kernel) rfl
theorem se_X12_again : Cond.selects RX12 yX12_again yX12_again ∈ z_F := z_inF (i := 1202) (by decide +kernel) rfl
theorem ym_X12_again : z_ym yX12_again cX12_again 2 (some .int) 1 := ⟨z_inF (i := 1203) (by decide +kernel) rfl, z_inF (i := 45) (by decide +kernel) rfl, by decide +kernel, by decide +kernel, by decide +kernel, by decide +kernel, by decide⟩
theorem mlL_114 : Cond.methodLink RL 114 yX12_line ∈ z_F := z_inF (i := 1204) (by decide +kernel) rfl
theorem im_X12_line : Cond.instanceMethod yX12_line ∈ z_F := z_inF (i := 1205) (by decide +kernel) rfl
theorem se_X12_line : Cond.selects RX12 yX12_line yX12_line ∈ z_F := z_inF (i := 1206) (by decide +kernel) rfl
theorem ym_X12_line : z_ym yX12_line cX12_line 3 (some .int) 2 := ⟨z_inF (i := 1207) (by decide +kernel) rfl, z_inF (i := 45) (by decide +kernel) rfl, by decide +kernel, by decide +kernel, by decide +kernel, by decide +kernel, by decide⟩
theorem mlL_118 : Cond.methodLink RL 118 yX12_coins ∈ z_F := z_inF (i := 1208) (by decide +kernel) rfl
theorem im_X12_coins : Cond.instanceMethod yX12_coins ∈ z_F := z_inF (i := 1209) (by decide +kernel) rfl
theorem se_X12_coins : Cond.selects RX12 yX12_coins yX12_coins ∈ z_F := z_inF (i := 1210) (by decide +kernel) rfl
theorem ym_X12_coins : z_ym yX12_coins cX12_coins 2 (some .int) 1 := ⟨z_inF (i := 1211) (by decide +kernel) rfl, z_inF (i := 45) (by decide +kernel) rfl, by decide +kernel, by decide +kernel, by decide +kernel, by decide +kernel, by decide⟩
theorem mlL_122 : Cond.methodLink RL 122 yX12_order ∈ z_F := z_inF (i := 1212) (by decide +kernel) rfl
theorem im_X12_order : Cond.instanceMethod yX12_order ∈ z_F := z_inF (i := 1213) (by decide +kernel) rfl
theorem se_X12_order : Cond.selects RX12 yX12_order yX12_order ∈ z_F := z_inF (i := 1214) (by decide +kernel) rfl
theorem ym_X12_order : z_ym yX12_order cX12_order 3 (some .int) 2 := ⟨z_inF (i := 1215) (by decide +kernel) rfl, z_inF (i := 45) (by decide +kernel) rfl, by decide +kernel, by decide +kernel, by decide +kernel, by decide +kernel, by decide⟩
theorem mlL_126 : Cond.methodLink RL 126 yX12_clear ∈ z_F := z_inF (i := 1216) (by decide +kernel) rfl
theorem im_X12_clear : Cond.instanceMethod yX12_clear ∈ z_F := z_inF (i := 1217) (by decide +kernel) rfl
theorem se_X12_clear : Cond.selects RX12 yX12_clear yX12_clear ∈ z_F := z_inF (i := 1218) (by decide +kernel) rfl
theorem ym_X12_clear : z_ym yX12_clear cX12_clear 1 none 0 := ⟨z_inF (i := 1219) (by decide +kernel) rfl, z_inF (i := 45) (by decide +kernel) rfl, by decide +kernel, by decide +kernel, by decide +kernel, by decide +kernel, by decide⟩
theorem mlL_130 : Cond.methodLink RL 130 yX12_met ∈ z_F := z_inF (i := 1220) (by decide +kernel) rfl
theorem im_X12_met : Cond.instanceMethod yX12_met ∈ z_F := z_inF (i := 1221) (by decide +kernel) rfl
theorem se_X12_met : Cond.selects RX12 yX12_met yX12_met ∈ z_F := z_inF (i := 1222) (by decide +kernel) rfl
theorem ym_X12_met : z_ym yX12_met cX12_met 2 (some .int) 1 := ⟨z_inF (i := 1223) (by decide +kernel) rfl, z_inF (i := 45) (by decide +kernel) rfl, by decide +kernel, by decide +kernel, by decide +kernel, by decide +kernel, by decide⟩
theorem mlX12_316 : Cond.methodLink RX12 316 yX12_giveAll ∈ z_F := z_inF (i := 1224) (by decide +kernel) rfl
theorem im_X12_giveAll : Cond.instanceMethod yX12_giveAll ∈ z_F := z_inF (i := 1226) (by decide +kernel) rfl
theorem ym_X12_giveAll : z_ym yX12_giveAll cX12_giveAll 5 (some .int) 0 := ⟨z_inF (i := 1227) (by decide +kernel) rfl, z_inF (i := 45) (by decide +kernel) rfl, by decide +kernel, by decide +kernel, by decide +kernel, by decide +kernel, by decide⟩
theorem mlX12_310 : Cond.methodLink RX12 310 yX12_most ∈ z_F := z_inF (i := 1228) (by decide +kernel) rfl
theorem im_X12_most : Cond.instanceMethod yX12_most ∈ z_F := z_inF (i := 1230) (by decide +kernel) rfl
theorem ym_X12_most : z_ym yX12_most cX12_most 5 (some .int) 1 := ⟨z_inF (i := 1231) (by decide +kernel) rfl, z_inF (i := 45) (by decide +kernel) rfl, by decide +kernel, by decide +kernel, by decide +kernel, by decide +kernel, by decide⟩
theorem mlX12_307 : Cond.methodLink RX12 307 yX12_finds ∈ z_F := z_inF (i := 1232) (by decide +kernel) rfl
theorem im_X12_finds : Cond.instanceMethod yX12_finds ∈ z_F := z_inF (i := 1234) (by decide +kernel) rfl
theorem ym_X12_finds : z_ym yX12_finds cX12_finds 5 (some .boolean) 2 := ⟨z_inF (i := 1235) (by decide +kernel) rfl, z_inF (i := 45) (by decide +kernel) rfl, by decide +kernel, by decide +kernel, by decide +kernel, by decide +kernel, by decide⟩
theorem mlX12_303 : Cond.methodLink RX12 303 yX12_fits ∈ z_F := z_inF (i := 1236) (by decide +kernel) rfl
theorem im_X12_fits : Cond.instanceMethod yX12_fits ∈ z_F := z_inF (i := 1238) (by decide +kernel) rfl
theorem ym_X12_fits : z_ym yX12_fits cX12_fits 3 (some .boolean) 2 := ⟨z_inF (i := 1239) (by decide +kernel) rfl, z_inF (i := 45) (by decide +kernel) rfl, by decide +kernel, by decide +kernel, by decide +kernel, by decide +kernel, by decide⟩
theorem mlX12_313 : Cond.methodLink RX12 313 yX12_isGiven ∈ z_F := z_inF (i := 1240) (by decide +kernel) rfl
theorem im_X12_isGiven : Cond.instanceMethod yX12_isGiven ∈ z_F := z_inF (i := 1242) (by decide +kernel) rfl
theorem ym_X12_isGiven : z_ym yX12_isGiven cX12_isGiven 4 (some .boolean) 2 := ⟨z_inF (i := 1243) (by decide +kernel) rfl, z_inF (i := 45) (by decide +kernel) rfl, by decide +kernel, by decide +kernel, by decide +kernel, by decide +kernel, by decide⟩
theorem mlL_134 : Cond.methodLink RL 134 yX12_want ∈ z_F := z_inF (i := 1244) (by decide +kernel) rfl
theorem im_X12_want : Cond.instanceMethod yX12_want ∈ z_F := z_inF (i := 1245) (by decide +kernel) rfl
theorem se_X12_want : Cond.selects RX12 yX12_want yX12_want ∈ z_F := z_inF (i := 1246) (by decide +kernel) rfl
theorem ym_X12_want : z_ym yX12_want cX12_want 2 (some .int) 0 := ⟨z_inF (i := 1247) (by decide +kernel) rfl, z_inF (i := 45) (by decide +kernel) rfl, by decide +kernel, by decide +kernel, by decide +kernel, by decide +kernel, by decide⟩
theorem mlX12_319 : Cond.methodLink RX12 319 yJ6_bitCount_0f7a4 ∈ z_F := z_inF (i := 1248) (by decide +kernel) rfl
theorem mlX12_324 : Cond.methodLink RX12 324 yX12_couldHave ∈ z_F := z_inF (i := 1249) (by decide +kernel) rfl
theorem im_X12_couldHave : Cond.instanceMethod yX12_couldHave ∈ z_F := z_inF (i := 1251) (by decide +kernel) rfl
theorem ym_X12_couldHave : z_ym yX12_couldHave cX12_couldHave 6 (some .int) 1 := ⟨z_inF (i := 1252) (by decide +kernel) rfl, z_inF (i := 45) (by decide +kernel) rfl, by decide +kernel, by decide +kernel, by decide +kernel, by decide +kernel, by decide⟩
theorem mlL_138 : Cond.methodLink RL 138 yX12_ground ∈ z_F := z_inF (i := 1253) (by decide +kernel) rfl
theorem im_X12_ground : Cond.instanceMethod yX12_ground ∈ z_F := z_inF (i := 1254) (by decide +kernel) rfl
theorem se_X12_ground : Cond.selects RX12 yX12_ground yX12_ground ∈ z_F := z_inF (i := 1255) (by decide +kernel) rfl
theorem ym_X12_ground : z_ym yX12_ground cX12_ground 3 (some .int) 2 := ⟨z_inF (i := 1256) (by decide +kernel) rfl, z_inF (i := 45) (by decide +kernel) rfl, by decide +kernel, by decide +kernel, by decide +kernel, by decide +kernel, by decide⟩
theorem mlL_142 : Cond.methodLink RL 142 yX12_count ∈ z_F := z_inF (i := 1257) (by decide +kernel) rfl
theorem im_X12_count : Cond.instanceMethod yX12_count ∈ z_F := z_inF (i := 1258) (by decide +kernel) rfl
theorem se_X12_count : Cond.selects RX12 yX12_count yX12_count ∈ z_F := z_inF (i := 1259) (by decide +kernel) rfl
theorem ym_X12_count : z_ym yX12_count cX12_count 2 (some .int) 1 := ⟨z_inF (i := 1260) (by decide +kernel) rfl, z_inF (i := 45) (by decide +kernel) rfl, by decide +kernel, by decide +kernel, by decide +kernel, by decide +kernel, by decide⟩
theorem se_X11_bogAt : Cond.selects RX11 yX11_bogAt yX11_bogAt ∈ z_F := z_inF (i := 0) (by decide +kernel) rfl
theorem se_X2_open : Cond.selects RX2 yX2_open yX2_open ∈ z_F := z_inF (i := 1) (by decide +kernel) rfl
theorem se_X2_learnWithin : Cond.selects RX2 yX2_learnWithin yX2_learnWithin ∈ z_F := z_inF (i := 2) (by decide +kernel) rfl
theorem se_X6_greatestRest : Cond.selects RX6 yX6_greatestRest yX6_greatestRest ∈ z_F := z_inF (i := 3) (by decide +kernel) rfl
theorem se_X3_reduce : Cond.selects RX3 yX3_reduce yX3_reduce ∈ z_F := z_inF (i := 4) (by decide +kernel) rfl
theorem se_X3_noteScorch : Cond.selects RX3 yX3_noteScorch yX3_noteScorch ∈ z_F := z_inF (i := 5) (by decide +kernel) rfl
theorem se_X11_ironInBloom : Cond.selects RX11 yX11_ironInBloom yX11_ironInBloom ∈ z_F := z_inF (i := 6) (by decide +kernel) rfl
theorem se_X11_barAt : Cond.selects RX11 yX11_barAt yX11_barAt ∈ z_F := z_inF (i := 7) (by decide +kernel) rfl
theorem se_X11_settle : Cond.selects RX11 yX11_settle yX11_settle ∈ z_F := z_inF (i := 8) (by decide +kernel) rfl
theorem se_X8_inForce : Cond.selects RX8 yX8_inForce yX8_inForce ∈ z_F := z_inF (i := 9) (by decide +kernel) rfl
theorem se_X4_grow : Cond.selects RX4 yX4_grow yX4_grow ∈ z_F := z_inF (i := 10) (by decide +kernel) rfl
theorem se_X5_ordersThatFit : Cond.selects RX5 yX5_ordersThatFit yX5_ordersThatFit ∈ z_F := z_inF (i := 11) (by decide +kernel) rfl
theorem se_X5_findBar : Cond.selects RX5 yX5_findBar yX5_findBar ∈ z_F := z_inF (i := 12) (by decide +kernel) rfl
theorem se_X5_handOver : Cond.selects RX5 yX5_handOver yX5_handOver ∈ z_F := z_inF (i := 13) (by decide +kernel) rfl
theorem se_X5_promiseLowest : Cond.selects RX5 yX5_promiseLowest yX5_promiseLowest ∈ z_F := z_inF (i := 14) (by decide +kernel) rfl
theorem se_X5_moveTo : Cond.selects RX5 yX5_moveTo yX5_moveTo ∈ z_F := z_inF (i := 15) (by decide +kernel) rfl
theorem se_X5_findBarAfter : Cond.selects RX5 yX5_findBarAfter yX5_findBarAfter ∈ z_F := z_inF (i := 16) (by decide +kernel) rfl
theorem se_X5_barsFor : Cond.selects RX5 yX5_barsFor yX5_barsFor ∈ z_F := z_inF (i := 17) (by decide +kernel) rfl
theorem se_X12_isBog : Cond.selects RX12 yX12_isBog yX12_isBog ∈ z_F := z_inF (i := 18) (by decide +kernel) rfl
theorem se_X12_partBy : Cond.selects RX12 yX12_partBy yX12_partBy ∈ z_F := z_inF (i := 19) (by decide +kernel) rfl
theorem se_X12_partAmong : Cond.selects RX12 yX12_partAmong yX12_partAmong ∈ z_F := z_inF (i := 20) (by decide +kernel) rfl
theorem se_X12_minute : Cond.selects RX12 yX12_minute yX12_minute ∈ z_F := z_inF (i := 21) (by decide +kernel) rfl
theorem se_X12_holds : Cond.selects RX12 yX12_holds yX12_holds ∈ z_F := z_inF (i := 22) (by decide +kernel) rfl
theorem se_X12_look : Cond.selects RX12 yX12_look yX12_look ∈ z_F := z_inF (i := 23) (by decide +kernel) rfl
theorem se_X12_clause : Cond.selects RX12 yX12_clause yX12_clause ∈ z_F := z_inF (i := 24) (by decide +kernel) rfl
theorem se_X12_isBar : Cond.selects RX12 yX12_isBar yX12_isBar ∈ z_F := z_inF (i := 25) (by decide +kernel) rfl
theorem se_X12_sortOf : Cond.selects RX12 yX12_sortOf yX12_sortOf ∈ z_F := z_inF (i := 26) (by decide +kernel) rfl
theorem se_X12_settle : Cond.selects RX12 yX12_settle yX12_settle ∈ z_F := z_inF (i := 27) (by decide +kernel) rfl
theorem se_X12_inForce : Cond.selects RX12 yX12_inForce yX12_inForce ∈ z_F := z_inF (i := 28) (by decide +kernel) rfl
theorem se_X12_giveAll : Cond.selects RX12 yX12_giveAll yX12_giveAll ∈ z_F := z_inF (i := 29) (by decide +kernel) rfl
theorem se_X12_most : Cond.selects RX12 yX12_most yX12_most ∈ z_F := z_inF (i := 30) (by decide +kernel) rfl
theorem se_X12_finds : Cond.selects RX12 yX12_finds yX12_finds ∈ z_F := z_inF (i := 31) (by decide +kernel) rfl
theorem se_X12_fits : Cond.selects RX12 yX12_fits yX12_fits ∈ z_F := z_inF (i := 32) (by decide +kernel) rfl
theorem se_X12_isGiven : Cond.selects RX12 yX12_isGiven yX12_isGiven ∈ z_F := z_inF (i := 33) (by decide +kernel) rfl
theorem se_X12_couldHave : Cond.selects RX12 yX12_couldHave yX12_couldHave ∈ z_F := z_inF (i := 34) (by decide +kernel) rfl
theorem ic_Math : Cond.initialized "java/lang/Math" ∈ z_F := z_inF (i := 47) (by decide +kernel) rfl
theorem ic_System : Cond.initialized "java/lang/System" ∈ z_F := z_inF (i := 50) (by decide +kernel) rfl
theorem ic_Arrays : Cond.initialized "java/util/Arrays" ∈ z_F := z_inF (i := 48) (by decide +kernel) rfl
theorem ic_Integer : Cond.initialized "java/lang/Integer" ∈ z_F := z_inF (i := 52) (by decide +kernel) rfl
theorem nwL_7 : z_NW RL 7 11 17 [vi 0, vn, vi 0, vn, vn, vn, vn, vn, vi 0, vi 0, vn, vn, vi 0, vn, vn, vn, vn] := ⟨_, _, tyX11, rfl, fcX11, tyX11_ok, clL_7, insX11, icX11, fun ad j hj => by
  have := (List.range 17).all_eq_true.mp (show (List.range 17).all (fun j => decide (defaultValue (tyX11 j) = vp_V ([vi 0, vn, vi 0, vn, vn, vn, vn, vn, vi 0, vi 0, vn, vn, vi 0, vn, vn, vn, vn].map (z_cv (fun _ => 0))) j)) = true by decide +kernel) j (List.mem_range.mpr hj)
  exact of_decide_eq_true this, by simp [z_oks, z_okv]⟩
theorem nwX11_9 : z_NW RX11 9 1 6 [vi 0, vi 0, vi 0, vi 0, vi 0, vi 0] := ⟨_, _, tyX1, rfl, fcX1, tyX1_ok, clX11_9, insX1, icX1, fun ad j hj => by
  have := (List.range 6).all_eq_true.mp (show (List.range 6).all (fun j => decide (defaultValue (tyX1 j) = vp_V ([vi 0, vi 0, vi 0, vi 0, vi 0, vi 0].map (z_cv (fun _ => 0))) j)) = true by decide +kernel) j (List.mem_range.mpr hj)
  exact of_decide_eq_true this, by simp [z_oks, z_okv]⟩
theorem nwX11_15 : z_NW RX11 15 10 2 [vn, vn] := ⟨_, _, tyX10, rfl, fcX10, tyX10_ok, clX11_15, insX10, icX10, fun ad j hj => by
  have := (List.range 2).all_eq_true.mp (show (List.range 2).all (fun j => decide (defaultValue (tyX10 j) = vp_V ([vn, vn].map (z_cv (fun _ => 0))) j)) = true by decide +kernel) j (List.mem_range.mpr hj)
  exact of_decide_eq_true this, by simp [z_oks, z_okv]⟩
theorem nwX11_22 : z_NW RX11 22 9 2 [vn, vi 0] := ⟨_, _, tyX9, rfl, fcX9, tyX9_ok, clX11_22, insX9, icX9, fun ad j hj => by
  have := (List.range 2).all_eq_true.mp (show (List.range 2).all (fun j => decide (defaultValue (tyX9 j) = vp_V ([vn, vi 0].map (z_cv (fun _ => 0))) j)) = true by decide +kernel) j (List.mem_range.mpr hj)
  exact of_decide_eq_true this, by simp [z_oks, z_okv]⟩
theorem nwX11_29 : z_NW RX11 29 2 5 [vn, vn, vn, vn, vi 0] := ⟨_, _, tyX2, rfl, fcX2, tyX2_ok, clX11_29, insX2, icX2, fun ad j hj => by
  have := (List.range 5).all_eq_true.mp (show (List.range 5).all (fun j => decide (defaultValue (tyX2 j) = vp_V ([vn, vn, vn, vn, vi 0].map (z_cv (fun _ => 0))) j)) = true by decide +kernel) j (List.mem_range.mpr hj)
  exact of_decide_eq_true this, by simp [z_oks, z_okv]⟩
theorem nwX11_36 : z_NW RX11 36 3 14 [vn, vn, vn, vi 0, vi 0, vi 0, vi 0, vi 0, vi 0, vi 0, vi 0, vi 0, vi 0, vi 0] := ⟨_, _, tyX3, rfl, fcX3, tyX3_ok, clX11_36, insX3, icX3, fun ad j hj => by
  have := (List.range 14).all_eq_true.mp (show (List.range 14).all (fun j => decide (defaultValue (tyX3 j) = vp_V ([vn, vn, vn, vi 0, vi 0, vi 0, vi 0, vi 0, vi 0, vi 0, vi 0, vi 0, vi 0, vi 0].map (z_cv (fun _ => 0))) j)) = true by decide +kernel) j (List.mem_range.mpr hj)
  exact of_decide_eq_true this, by simp [z_oks, z_okv]⟩
theorem nwX11_43 : z_NW RX11 43 0 7 [vn, vn, vi 0, vi 0, vi 0, vi 0, vi 0] := ⟨_, _, tyX0, rfl, fcX0, tyX0_ok, clX11_43, insX0, icX0, fun ad j hj => by
  have := (List.range 7).all_eq_true.mp (show (List.range 7).all (fun j => decide (defaultValue (tyX0 j) = vp_V ([vn, vn, vi 0, vi 0, vi 0, vi 0, vi 0].map (z_cv (fun _ => 0))) j)) = true by decide +kernel) j (List.mem_range.mpr hj)
  exact of_decide_eq_true this, by simp [z_oks, z_okv]⟩
theorem nwX11_49 : z_NW RX11 49 8 5 [vn, vn, vn, vn, vi 0] := ⟨_, _, tyX8, rfl, fcX8, tyX8_ok, clX11_49, insX8, icX8, fun ad j hj => by
  have := (List.range 5).all_eq_true.mp (show (List.range 5).all (fun j => decide (defaultValue (tyX8 j) = vp_V ([vn, vn, vn, vn, vi 0].map (z_cv (fun _ => 0))) j)) = true by decide +kernel) j (List.mem_range.mpr hj)
  exact of_decide_eq_true this, by simp [z_oks, z_okv]⟩
theorem nwX11_56 : z_NW RX11 56 7 4 [vi 0, vi 0, vi 0, vn] := ⟨_, _, tyX7, rfl, fcX7, tyX7_ok, clX11_56, insX7, icX7, fun ad j hj => by
  have := (List.range 4).all_eq_true.mp (show (List.range 4).all (fun j => decide (defaultValue (tyX7 j) = vp_V ([vi 0, vi 0, vi 0, vn].map (z_cv (fun _ => 0))) j)) = true by decide +kernel) j (List.mem_range.mpr hj)
  exact of_decide_eq_true this, by simp [z_oks, z_okv]⟩
theorem nwX11_62 : z_NW RX11 62 4 6 [vn, vn, vn, vn, vn, vi 0] := ⟨_, _, tyX4, rfl, fcX4, tyX4_ok, clX11_62, insX4, icX4, fun ad j hj => by
  have := (List.range 6).all_eq_true.mp (show (List.range 6).all (fun j => decide (defaultValue (tyX4 j) = vp_V ([vn, vn, vn, vn, vn, vi 0].map (z_cv (fun _ => 0))) j)) = true by decide +kernel) j (List.mem_range.mpr hj)
  exact of_decide_eq_true this, by simp [z_oks, z_okv]⟩
theorem nwX11_69 : z_NW RX11 69 5 10 [vn, vn, vn, vi 0, vn, vn, vn, vn, vn, vi 0] := ⟨_, _, tyX5, rfl, fcX5, tyX5_ok, clX11_69, insX5, icX5, fun ad j hj => by
  have := (List.range 10).all_eq_true.mp (show (List.range 10).all (fun j => decide (defaultValue (tyX5 j) = vp_V ([vn, vn, vn, vi 0, vn, vn, vn, vn, vn, vi 0].map (z_cv (fun _ => 0))) j)) = true by decide +kernel) j (List.mem_range.mpr hj)
  exact of_decide_eq_true this, by simp [z_oks, z_okv]⟩
theorem nwX11_76 : z_NW RX11 76 6 2 [vn, vn] := ⟨_, _, tyX6, rfl, fcX6, tyX6_ok, clX11_76, insX6, icX6, fun ad j hj => by
  have := (List.range 2).all_eq_true.mp (show (List.range 2).all (fun j => decide (defaultValue (tyX6 j) = vp_V ([vn, vn].map (z_cv (fun _ => 0))) j)) = true by decide +kernel) j (List.mem_range.mpr hj)
  exact of_decide_eq_true this, by simp [z_oks, z_okv]⟩
theorem nwL_10 : z_NW RL 10 12 69 [vi 0, vi 0, vi 0, vi 0, vi 0, vi 0, vi 0, vi 0, vn, vn, vn, vn, vn, vn, vn, vn, vn, vn, vn, vn, vn, vn, vi 0, vi 0, vi 0, vi 0, vi 0, vi 0, vi 0, vi 0, vi 0, vn, vi 0, vi 0, vi 0, vi 0, vn, vn, vn, vn, vn, vn, vn, vn, vn, vn, vn, vn, vn, vn, vn, vn, vn, vn, vn, vn, vn, vn, vn, vn, vn, vn, vn, vn, vn, vn, vn, vn, vn] := ⟨_, _, tyX12, rfl, fcX12, tyX12_ok, clL_10, insX12, icX12, fun ad j hj => by
  have := (List.range 69).all_eq_true.mp (show (List.range 69).all (fun j => decide (defaultValue (tyX12 j) = vp_V ([vi 0, vi 0, vi 0, vi 0, vi 0, vi 0, vi 0, vi 0, vn, vn, vn, vn, vn, vn, vn, vn, vn, vn, vn, vn, vn, vn, vi 0, vi 0, vi 0, vi 0, vi 0, vi 0, vi 0, vi 0, vi 0, vn, vi 0, vi 0, vi 0, vi 0, vn, vn, vn, vn, vn, vn, vn, vn, vn, vn, vn, vn, vn, vn, vn, vn, vn, vn, vn, vn, vn, vn, vn, vn, vn, vn, vn, vn, vn, vn, vn, vn, vn].map (z_cv (fun _ => 0))) j)) = true by decide +kernel) j (List.mem_range.mpr hj)
  exact of_decide_eq_true this, by simp [z_oks, z_okv]⟩
