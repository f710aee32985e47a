def hFl (own : String) (idx : Nat) (t : String × String × String × Bool) : Prop := Cond.fieldLink own idx t.1 t.2.1 t.2.2.1 ∈ lw_tbl ∨ ∃ host, Cond.fieldLinkNest own idx t.1 t.2.1 t.2.2.1 host ∈ lw_tbl
def hCl (y : MethodName) (bytes : ByteArray) (maxL : Nat) (ret : Option FieldType) (n : Nat) : Prop := Cond.code y bytes maxL ret ∈ lw_tbl ∧ Cond.initialized y.cls ∈ lw_tbl ∧ (y.cls ≠ "java/lang/invoke/MethodHandle" ∧ y.cls ≠ "java/lang/invoke/VarHandle") ∧ (parseMethodDescriptor y.desc).map (fun d => d.parameters.length) = some n
def hLk (own : String) (idx : Nat) (y : MethodName) : Prop := Cond.methodLink own idx y ∈ lw_tbl ∨ ∃ host, Cond.methodLinkNest own idx y host ∈ lw_tbl
def hIv (y : MethodName) : Prop := Cond.instanceMethod y ∈ lw_tbl ∧ Cond.selects y.cls y y ∈ lw_tbl
theorem lclaw_7 : Cond.classLink R_law 7 "SalvageCourt" ∈ lw_tbl := List.mem_of_getElem? (i := 53) (by decide +kernel)
theorem in11 : Cond.instantiable RX11 14 ∈ lw_tbl := List.mem_of_getElem? (i := 54) (by decide +kernel)
theorem lklaw_9 : hLk R_law 9 yX11_init := Or.inl (List.mem_of_getElem? (i := 55) (by decide +kernel))
theorem lo11_1 : Cond.methodLink RX11 1 objectInit ∈ lw_tbl := List.mem_of_getElem? (i := 58) (by decide +kernel)
theorem lc11_7 : Cond.classLink RX11 7 "SalvageCourt$Tale" ∈ lw_tbl := List.mem_of_getElem? (i := 61) (by decide +kernel)
theorem in8 : Cond.instantiable RX8 15 ∈ lw_tbl := List.mem_of_getElem? (i := 62) (by decide +kernel)
theorem lk11_9 : hLk RX11 9 yX8_init := Or.inl (List.mem_of_getElem? (i := 63) (by decide +kernel))
theorem lo8_3 : Cond.methodLink RX8 3 objectInit ∈ lw_tbl := List.mem_of_getElem? (i := 66) (by decide +kernel)
theorem lc8_30 : Cond.classLink RX8 30 "SalvageCourt$Bounds" ∈ lw_tbl := List.mem_of_getElem? (i := 67) (by decide +kernel)
theorem in0 : Cond.instantiable RX0 1 ∈ lw_tbl := List.mem_of_getElem? (i := 68) (by decide +kernel)
theorem lk8_32 : hLk RX8 32 yX0_init := Or.inr ⟨"SalvageCourt", List.mem_of_getElem? (i := 69) (by decide +kernel)⟩
theorem lo0_3 : Cond.methodLink RX0 3 objectInit ∈ lw_tbl := List.mem_of_getElem? (i := 72) (by decide +kernel)
theorem fl0_9 : hFl RX0 9 (TX0 0) := Or.inl (List.mem_of_getElem? (i := 73) (by decide +kernel))
theorem ac_int : Cond.arrayClass .int ∈ lw_tbl := List.mem_of_getElem? (i := 77) (by decide +kernel)
theorem lk8_47 : hLk RX8 47 yJ7_fill_53178 := Or.inl (List.mem_of_getElem? (i := 78) (by decide +kernel))
theorem fl8_9 : hFl RX8 9 (TX8 0) := Or.inl (List.mem_of_getElem? (i := 81) (by decide +kernel))
theorem fl8_15 : hFl RX8 15 (TX8 1) := Or.inl (List.mem_of_getElem? (i := 82) (by decide +kernel))
theorem fl8_18 : hFl RX8 18 (TX8 2) := Or.inl (List.mem_of_getElem? (i := 83) (by decide +kernel))
theorem fl8_21 : hFl RX8 21 (TX8 3) := Or.inl (List.mem_of_getElem? (i := 84) (by decide +kernel))
theorem fl8_24 : hFl RX8 24 (TX8 4) := Or.inl (List.mem_of_getElem? (i := 85) (by decide +kernel))
theorem fl8_27 : hFl RX8 27 (TX8 5) := Or.inl (List.mem_of_getElem? (i := 86) (by decide +kernel))
theorem fl8_57 : hFl RX8 57 (TX8 6) := Or.inl (List.mem_of_getElem? (i := 87) (by decide +kernel))
theorem fl11_290 : hFl RX11 290 (TX8 6) := Or.inr ⟨"SalvageCourt", List.mem_of_getElem? (i := 88) (by decide +kernel)⟩
theorem fl8_33 : hFl RX8 33 (TX8 7) := Or.inl (List.mem_of_getElem? (i := 89) (by decide +kernel))
theorem fl8_37 : hFl RX8 37 (TX8 8) := Or.inl (List.mem_of_getElem? (i := 90) (by decide +kernel))
theorem fl8_71 : hFl RX8 71 (TX8 9) := Or.inl (List.mem_of_getElem? (i := 91) (by decide +kernel))
theorem fl8_53 : hFl RX8 53 (TX8 10) := Or.inl (List.mem_of_getElem? (i := 92) (by decide +kernel))
theorem fl8_41 : hFl RX8 41 (TX8 11) := Or.inl (List.mem_of_getElem? (i := 93) (by decide +kernel))
theorem fl8_44 : hFl RX8 44 (TX8 12) := Or.inl (List.mem_of_getElem? (i := 94) (by decide +kernel))
theorem fl8_84 : hFl RX8 84 (TX8 13) := Or.inl (List.mem_of_getElem? (i := 95) (by decide +kernel))
theorem fl8_61 : hFl RX8 61 (TX8 14) := Or.inl (List.mem_of_getElem? (i := 96) (by decide +kernel))
theorem ac_boolean : Cond.arrayClass .boolean ∈ lw_tbl := List.mem_of_getElem? (i := 128) (by decide +kernel)
theorem lc11_16 : Cond.classLink RX11 16 "SalvageCourt$Goods" ∈ lw_tbl := List.mem_of_getElem? (i := 129) (by decide +kernel)
theorem in3 : Cond.instantiable RX3 4 ∈ lw_tbl := List.mem_of_getElem? (i := 130) (by decide +kernel)
theorem lk11_18 : hLk RX11 18 yX3_init := Or.inr ⟨"SalvageCourt", List.mem_of_getElem? (i := 131) (by decide +kernel)⟩
theorem lo3_3 : Cond.methodLink RX3 3 objectInit ∈ lw_tbl := List.mem_of_getElem? (i := 134) (by decide +kernel)
theorem lc3_18 : Cond.classLink RX3 18 "SalvageCourt$Times" ∈ lw_tbl := List.mem_of_getElem? (i := 135) (by decide +kernel)
theorem in10 : Cond.instantiable RX10 2 ∈ lw_tbl := List.mem_of_getElem? (i := 136) (by decide +kernel)
theorem lk3_20 : hLk RX3 20 yX10_init := Or.inl (List.mem_of_getElem? (i := 137) (by decide +kernel))
theorem lo10_3 : Cond.methodLink RX10 3 objectInit ∈ lw_tbl := List.mem_of_getElem? (i := 140) (by decide +kernel)
theorem lk10_18 : hLk RX10 18 yJ7_fill_53178 := Or.inl (List.mem_of_getElem? (i := 141) (by decide +kernel))
theorem fl10_9 : hFl RX10 9 (TX10 0) := Or.inl (List.mem_of_getElem? (i := 142) (by decide +kernel))
theorem fl10_15 : hFl RX10 15 (TX10 1) := Or.inl (List.mem_of_getElem? (i := 143) (by decide +kernel))
theorem fl3_9 : hFl RX3 9 (TX3 0) := Or.inl (List.mem_of_getElem? (i := 149) (by decide +kernel))
theorem fl3_15 : hFl RX3 15 (TX3 1) := Or.inl (List.mem_of_getElem? (i := 150) (by decide +kernel))
theorem fl3_23 : hFl RX3 23 (TX3 2) := Or.inl (List.mem_of_getElem? (i := 151) (by decide +kernel))
theorem fl3_27 : hFl RX3 27 (TX3 3) := Or.inl (List.mem_of_getElem? (i := 152) (by decide +kernel))
theorem fl11_296 : hFl RX11 296 (TX3 3) := Or.inr ⟨"SalvageCourt", List.mem_of_getElem? (i := 153) (by decide +kernel)⟩
theorem lc11_23 : Cond.classLink RX11 23 "SalvageCourt$Cases" ∈ lw_tbl := List.mem_of_getElem? (i := 163) (by decide +kernel)
theorem in1 : Cond.instantiable RX1 5 ∈ lw_tbl := List.mem_of_getElem? (i := 164) (by decide +kernel)
theorem lk11_25 : hLk RX11 25 yX1_init := Or.inr ⟨"SalvageCourt", List.mem_of_getElem? (i := 165) (by decide +kernel)⟩
theorem lo1_3 : Cond.methodLink RX1 3 objectInit ∈ lw_tbl := List.mem_of_getElem? (i := 168) (by decide +kernel)
theorem lc1_18 : Cond.classLink RX1 18 "SalvageCourt$Times" ∈ lw_tbl := List.mem_of_getElem? (i := 169) (by decide +kernel)
theorem lk1_20 : hLk RX1 20 yX10_init := Or.inl (List.mem_of_getElem? (i := 170) (by decide +kernel))
theorem fl1_9 : hFl RX1 9 (TX1 0) := Or.inl (List.mem_of_getElem? (i := 171) (by decide +kernel))
theorem fl1_15 : hFl RX1 15 (TX1 1) := Or.inl (List.mem_of_getElem? (i := 172) (by decide +kernel))
theorem fl1_23 : hFl RX1 23 (TX1 2) := Or.inl (List.mem_of_getElem? (i := 173) (by decide +kernel))
theorem fl1_27 : hFl RX1 27 (TX1 3) := Or.inl (List.mem_of_getElem? (i := 174) (by decide +kernel))
theorem fl1_30 : hFl RX1 30 (TX1 4) := Or.inl (List.mem_of_getElem? (i := 175) (by decide +kernel))
theorem fl11_297 : hFl RX11 297 (TX1 4) := Or.inr ⟨"SalvageCourt", List.mem_of_getElem? (i := 176) (by decide +kernel)⟩
theorem lc11_30 : Cond.classLink RX11 30 "SalvageCourt$Tape" ∈ lw_tbl := List.mem_of_getElem? (i := 188) (by decide +kernel)
theorem in9 : Cond.instantiable RX9 6 ∈ lw_tbl := List.mem_of_getElem? (i := 189) (by decide +kernel)
theorem lk11_32 : hLk RX11 32 yX9_init := Or.inr ⟨"SalvageCourt", List.mem_of_getElem? (i := 190) (by decide +kernel)⟩
theorem lo9_3 : Cond.methodLink RX9 3 objectInit ∈ lw_tbl := List.mem_of_getElem? (i := 193) (by decide +kernel)
theorem fl9_9 : hFl RX9 9 (TX9 0) := Or.inl (List.mem_of_getElem? (i := 194) (by decide +kernel))
theorem fl9_15 : hFl RX9 15 (TX9 1) := Or.inl (List.mem_of_getElem? (i := 195) (by decide +kernel))
theorem fl11_141 : hFl RX11 141 (TX9 1) := Or.inr ⟨"SalvageCourt", List.mem_of_getElem? (i := 196) (by decide +kernel)⟩
theorem fl9_24 : hFl RX9 24 (TX9 2) := Or.inl (List.mem_of_getElem? (i := 197) (by decide +kernel))
theorem fl9_92 : hFl RX9 92 (TX9 3) := Or.inl (List.mem_of_getElem? (i := 198) (by decide +kernel))
theorem fl9_27 : hFl RX9 27 (TX9 4) := Or.inl (List.mem_of_getElem? (i := 199) (by decide +kernel))
theorem fl9_30 : hFl RX9 30 (TX9 5) := Or.inl (List.mem_of_getElem? (i := 200) (by decide +kernel))
theorem ac_byte : Cond.arrayClass .byte ∈ lw_tbl := List.mem_of_getElem? (i := 214) (by decide +kernel)
theorem lc11_37 : Cond.classLink RX11 37 "SalvageCourt$Law" ∈ lw_tbl := List.mem_of_getElem? (i := 215) (by decide +kernel)
theorem lc11_43 : Cond.classLink RX11 43 "SalvageCourt$Times" ∈ lw_tbl := List.mem_of_getElem? (i := 217) (by decide +kernel)
theorem lk11_45 : hLk RX11 45 yX10_init := Or.inl (List.mem_of_getElem? (i := 218) (by decide +kernel))
theorem lc11_52 : Cond.classLink RX11 52 "SalvageCourt$Crew" ∈ lw_tbl := List.mem_of_getElem? (i := 219) (by decide +kernel)
theorem in2 : Cond.instantiable RX2 3 ∈ lw_tbl := List.mem_of_getElem? (i := 220) (by decide +kernel)
theorem lk11_54 : hLk RX11 54 yX2_init := Or.inr ⟨"SalvageCourt", List.mem_of_getElem? (i := 221) (by decide +kernel)⟩
theorem lo2_3 : Cond.methodLink RX2 3 objectInit ∈ lw_tbl := List.mem_of_getElem? (i := 224) (by decide +kernel)
theorem fl2_9 : hFl RX2 9 (TX2 0) := Or.inl (List.mem_of_getElem? (i := 225) (by decide +kernel))
theorem fl6_76 : hFl RX6 76 (TX2 0) := Or.inr ⟨"SalvageCourt", List.mem_of_getElem? (i := 226) (by decide +kernel)⟩
theorem fl2_15 : hFl RX2 15 (TX2 1) := Or.inl (List.mem_of_getElem? (i := 227) (by decide +kernel))
theorem fl6_67 : hFl RX6 67 (TX2 1) := Or.inr ⟨"SalvageCourt", List.mem_of_getElem? (i := 228) (by decide +kernel)⟩
theorem fl11_170 : hFl RX11 170 (TX2 1) := Or.inr ⟨"SalvageCourt", List.mem_of_getElem? (i := 229) (by decide +kernel)⟩
theorem fl2_19 : hFl RX2 19 (TX2 2) := Or.inl (List.mem_of_getElem? (i := 230) (by decide +kernel))
theorem fl6_73 : hFl RX6 73 (TX2 2) := Or.inr ⟨"SalvageCourt", List.mem_of_getElem? (i := 231) (by decide +kernel)⟩
theorem lc11_59 : Cond.classLink RX11 59 "SalvageCourt$Ship" ∈ lw_tbl := List.mem_of_getElem? (i := 239) (by decide +kernel)
theorem lc11_65 : Cond.classLink RX11 65 "SalvageCourt$Judgement" ∈ lw_tbl := List.mem_of_getElem? (i := 241) (by decide +kernel)
theorem in4 : Cond.instantiable RX4 11 ∈ lw_tbl := List.mem_of_getElem? (i := 242) (by decide +kernel)
theorem lk11_67 : hLk RX11 67 yX4_init := Or.inl (List.mem_of_getElem? (i := 243) (by decide +kernel))
theorem lo4_3 : Cond.methodLink RX4 3 objectInit ∈ lw_tbl := List.mem_of_getElem? (i := 246) (by decide +kernel)
theorem lc4_18 : Cond.classLink RX4 18 "SalvageCourt$Part" ∈ lw_tbl := List.mem_of_getElem? (i := 247) (by decide +kernel)
theorem in6 : Cond.instantiable RX6 10 ∈ lw_tbl := List.mem_of_getElem? (i := 249) (by decide +kernel)
theorem lk4_28 : hLk RX4 28 yX6_init := Or.inr ⟨"SalvageCourt", List.mem_of_getElem? (i := 250) (by decide +kernel)⟩
theorem lo6_3 : Cond.methodLink RX6 3 objectInit ∈ lw_tbl := List.mem_of_getElem? (i := 253) (by decide +kernel)
theorem fl6_9 : hFl RX6 9 (TX6 0) := Or.inl (List.mem_of_getElem? (i := 254) (by decide +kernel))
theorem fl11_283 : hFl RX11 283 (TX6 0) := Or.inr ⟨"SalvageCourt", List.mem_of_getElem? (i := 255) (by decide +kernel)⟩
theorem fl4_55 : hFl RX4 55 (TX6 1) := Or.inr ⟨"SalvageCourt", List.mem_of_getElem? (i := 256) (by decide +kernel)⟩
theorem fl11_262 : hFl RX11 262 (TX6 1) := Or.inr ⟨"SalvageCourt", List.mem_of_getElem? (i := 257) (by decide +kernel)⟩
theorem fl4_61 : hFl RX4 61 (TX6 2) := Or.inr ⟨"SalvageCourt", List.mem_of_getElem? (i := 258) (by decide +kernel)⟩
theorem fl11_267 : hFl RX11 267 (TX6 2) := Or.inr ⟨"SalvageCourt", List.mem_of_getElem? (i := 259) (by decide +kernel)⟩
theorem fl4_78 : hFl RX4 78 (TX6 3) := Or.inr ⟨"SalvageCourt", List.mem_of_getElem? (i := 260) (by decide +kernel)⟩
theorem fl6_27 : hFl RX6 27 (TX6 4) := Or.inl (List.mem_of_getElem? (i := 261) (by decide +kernel))
theorem fl4_75 : hFl RX4 75 (TX6 4) := Or.inr ⟨"SalvageCourt", List.mem_of_getElem? (i := 262) (by decide +kernel)⟩
theorem fl11_270 : hFl RX11 270 (TX6 4) := Or.inr ⟨"SalvageCourt", List.mem_of_getElem? (i := 263) (by decide +kernel)⟩
theorem fl6_40 : hFl RX6 40 (TX6 5) := Or.inl (List.mem_of_getElem? (i := 264) (by decide +kernel))
theorem fl4_97 : hFl RX4 97 (TX6 5) := Or.inr ⟨"SalvageCourt", List.mem_of_getElem? (i := 265) (by decide +kernel)⟩
theorem fl11_279 : hFl RX11 279 (TX6 5) := Or.inr ⟨"SalvageCourt", List.mem_of_getElem? (i := 266) (by decide +kernel)⟩
theorem fl6_50 : hFl RX6 50 (TX6 6) := Or.inl (List.mem_of_getElem? (i := 267) (by decide +kernel))
theorem fl11_273 : hFl RX11 273 (TX6 6) := Or.inr ⟨"SalvageCourt", List.mem_of_getElem? (i := 268) (by decide +kernel)⟩
theorem fl6_55 : hFl RX6 55 (TX6 7) := Or.inl (List.mem_of_getElem? (i := 269) (by decide +kernel))
theorem fl11_275 : hFl RX11 275 (TX6 7) := Or.inr ⟨"SalvageCourt", List.mem_of_getElem? (i := 270) (by decide +kernel)⟩
theorem fl6_57 : hFl RX6 57 (TX6 8) := Or.inl (List.mem_of_getElem? (i := 271) (by decide +kernel))
theorem fl11_277 : hFl RX11 277 (TX6 8) := Or.inr ⟨"SalvageCourt", List.mem_of_getElem? (i := 272) (by decide +kernel)⟩
theorem fl6_72 : hFl RX6 72 (TX6 9) := Or.inl (List.mem_of_getElem? (i := 273) (by decide +kernel))
theorem fl11_282 : hFl RX11 282 (TX6 9) := Or.inr ⟨"SalvageCourt", List.mem_of_getElem? (i := 274) (by decide +kernel)⟩
theorem ac_long : Cond.arrayClass .long ∈ lw_tbl := List.mem_of_getElem? (i := 296) (by decide +kernel)
theorem fl4_9 : hFl RX4 9 (TX4 0) := Or.inl (List.mem_of_getElem? (i := 297) (by decide +kernel))
theorem fl11_205 : hFl RX11 205 (TX4 0) := Or.inr ⟨"SalvageCourt", List.mem_of_getElem? (i := 298) (by decide +kernel)⟩
theorem fl4_15 : hFl RX4 15 (TX4 1) := Or.inl (List.mem_of_getElem? (i := 299) (by decide +kernel))
theorem fl11_216 : hFl RX11 216 (TX4 1) := Or.inr ⟨"SalvageCourt", List.mem_of_getElem? (i := 300) (by decide +kernel)⟩
theorem fl4_20 : hFl RX4 20 (TX4 2) := Or.inl (List.mem_of_getElem? (i := 301) (by decide +kernel))
theorem fl11_258 : hFl RX11 258 (TX4 2) := Or.inr ⟨"SalvageCourt", List.mem_of_getElem? (i := 302) (by decide +kernel)⟩
theorem fl4_24 : hFl RX4 24 (TX4 3) := Or.inl (List.mem_of_getElem? (i := 303) (by decide +kernel))
theorem fl11_202 : hFl RX11 202 (TX4 3) := Or.inr ⟨"SalvageCourt", List.mem_of_getElem? (i := 304) (by decide +kernel)⟩
theorem fl11_213 : hFl RX11 213 (TX4 4) := Or.inr ⟨"SalvageCourt", List.mem_of_getElem? (i := 305) (by decide +kernel)⟩
theorem fl4_67 : hFl RX4 67 (TX4 5) := Or.inl (List.mem_of_getElem? (i := 306) (by decide +kernel))
theorem fl11_227 : hFl RX11 227 (TX4 5) := Or.inr ⟨"SalvageCourt", List.mem_of_getElem? (i := 307) (by decide +kernel)⟩
theorem fl4_64 : hFl RX4 64 (TX4 6) := Or.inl (List.mem_of_getElem? (i := 308) (by decide +kernel))
theorem fl11_234 : hFl RX11 234 (TX4 6) := Or.inr ⟨"SalvageCourt", List.mem_of_getElem? (i := 309) (by decide +kernel)⟩
theorem fl4_72 : hFl RX4 72 (TX4 7) := Or.inl (List.mem_of_getElem? (i := 310) (by decide +kernel))
theorem fl11_251 : hFl RX11 251 (TX4 7) := Or.inr ⟨"SalvageCourt", List.mem_of_getElem? (i := 311) (by decide +kernel)⟩
theorem fl4_87 : hFl RX4 87 (TX4 8) := Or.inl (List.mem_of_getElem? (i := 312) (by decide +kernel))
theorem fl11_254 : hFl RX11 254 (TX4 8) := Or.inr ⟨"SalvageCourt", List.mem_of_getElem? (i := 313) (by decide +kernel)⟩
theorem fl4_29 : hFl RX4 29 (TX4 9) := Or.inl (List.mem_of_getElem? (i := 314) (by decide +kernel))
theorem fl11_257 : hFl RX11 257 (TX4 9) := Or.inr ⟨"SalvageCourt", List.mem_of_getElem? (i := 315) (by decide +kernel)⟩
theorem fl4_32 : hFl RX4 32 (TX4 10) := Or.inl (List.mem_of_getElem? (i := 316) (by decide +kernel))
theorem in5 : Cond.instantiable RX5 7 ∈ lw_tbl := List.mem_of_getElem? (i := 340) (by decide +kernel)
theorem lk11_72 : hLk RX11 72 yX5_init := Or.inr ⟨"SalvageCourt", List.mem_of_getElem? (i := 341) (by decide +kernel)⟩
theorem lo5_3 : Cond.methodLink RX5 3 objectInit ∈ lw_tbl := List.mem_of_getElem? (i := 344) (by decide +kernel)
theorem fl5_9 : hFl RX5 9 (TX5 0) := Or.inl (List.mem_of_getElem? (i := 345) (by decide +kernel))
theorem fl9_88 : hFl RX9 88 (TX5 0) := Or.inr ⟨"SalvageCourt", List.mem_of_getElem? (i := 346) (by decide +kernel)⟩
theorem fl5_21 : hFl RX5 21 (TX5 1) := Or.inl (List.mem_of_getElem? (i := 347) (by decide +kernel))
theorem fl9_61 : hFl RX9 61 (TX5 1) := Or.inr ⟨"SalvageCourt", List.mem_of_getElem? (i := 348) (by decide +kernel)⟩
theorem fl1_55 : hFl RX1 55 (TX5 1) := Or.inr ⟨"SalvageCourt", List.mem_of_getElem? (i := 349) (by decide +kernel)⟩
theorem fl5_25 : hFl RX5 25 (TX5 2) := Or.inl (List.mem_of_getElem? (i := 350) (by decide +kernel))
theorem fl9_66 : hFl RX9 66 (TX5 2) := Or.inr ⟨"SalvageCourt", List.mem_of_getElem? (i := 351) (by decide +kernel)⟩
theorem fl5_28 : hFl RX5 28 (TX5 3) := Or.inl (List.mem_of_getElem? (i := 352) (by decide +kernel))
theorem fl9_69 : hFl RX9 69 (TX5 3) := Or.inr ⟨"SalvageCourt", List.mem_of_getElem? (i := 353) (by decide +kernel)⟩
theorem fl5_31 : hFl RX5 31 (TX5 4) := Or.inl (List.mem_of_getElem? (i := 354) (by decide +kernel))
theorem fl9_72 : hFl RX9 72 (TX5 4) := Or.inr ⟨"SalvageCourt", List.mem_of_getElem? (i := 355) (by decide +kernel)⟩
theorem fl6_33 : hFl RX6 33 (TX5 5) := Or.inr ⟨"SalvageCourt", List.mem_of_getElem? (i := 356) (by decide +kernel)⟩
theorem fl5_34 : hFl RX5 34 (TX5 5) := Or.inl (List.mem_of_getElem? (i := 357) (by decide +kernel))
theorem fl9_75 : hFl RX9 75 (TX5 5) := Or.inr ⟨"SalvageCourt", List.mem_of_getElem? (i := 358) (by decide +kernel)⟩
theorem fl6_15 : hFl RX6 15 (TX5 6) := Or.inr ⟨"SalvageCourt", List.mem_of_getElem? (i := 359) (by decide +kernel)⟩
theorem fl5_37 : hFl RX5 37 (TX5 6) := Or.inl (List.mem_of_getElem? (i := 360) (by decide +kernel))
theorem fl9_80 : hFl RX9 80 (TX5 6) := Or.inr ⟨"SalvageCourt", List.mem_of_getElem? (i := 361) (by decide +kernel)⟩
theorem in7 : Cond.instantiable RX7 7 ∈ lw_tbl := List.mem_of_getElem? (i := 377) (by decide +kernel)
theorem lk11_73 : hLk RX11 73 yX7_init := Or.inr ⟨"SalvageCourt", List.mem_of_getElem? (i := 378) (by decide +kernel)⟩
theorem lo7_1 : Cond.methodLink RX7 1 objectInit ∈ lw_tbl := List.mem_of_getElem? (i := 381) (by decide +kernel)
theorem lc7_7 : Cond.classLink RX7 7 "SalvageCourt$Crew" ∈ lw_tbl := List.mem_of_getElem? (i := 382) (by decide +kernel)
theorem lk7_9 : hLk RX7 9 yX2_init := Or.inr ⟨"SalvageCourt", List.mem_of_getElem? (i := 383) (by decide +kernel)⟩
theorem fl7_10 : hFl RX7 10 (TX7 0) := Or.inl (List.mem_of_getElem? (i := 384) (by decide +kernel))
theorem fl6_60 : hFl RX6 60 (TX7 0) := Or.inr ⟨"SalvageCourt", List.mem_of_getElem? (i := 385) (by decide +kernel)⟩
theorem fl11_191 : hFl RX11 191 (TX7 0) := Or.inr ⟨"SalvageCourt", List.mem_of_getElem? (i := 386) (by decide +kernel)⟩
theorem fl4_58 : hFl RX4 58 (TX7 1) := Or.inr ⟨"SalvageCourt", List.mem_of_getElem? (i := 387) (by decide +kernel)⟩
theorem fl11_173 : hFl RX11 173 (TX7 1) := Or.inr ⟨"SalvageCourt", List.mem_of_getElem? (i := 388) (by decide +kernel)⟩
theorem fl4_36 : hFl RX4 36 (TX7 2) := Or.inr ⟨"SalvageCourt", List.mem_of_getElem? (i := 389) (by decide +kernel)⟩
theorem fl11_176 : hFl RX11 176 (TX7 2) := Or.inr ⟨"SalvageCourt", List.mem_of_getElem? (i := 390) (by decide +kernel)⟩
theorem fl4_41 : hFl RX4 41 (TX7 3) := Or.inr ⟨"SalvageCourt", List.mem_of_getElem? (i := 391) (by decide +kernel)⟩
theorem fl11_179 : hFl RX11 179 (TX7 3) := Or.inr ⟨"SalvageCourt", List.mem_of_getElem? (i := 392) (by decide +kernel)⟩
theorem fl4_90 : hFl RX4 90 (TX7 4) := Or.inr ⟨"SalvageCourt", List.mem_of_getElem? (i := 393) (by decide +kernel)⟩
theorem fl11_182 : hFl RX11 182 (TX7 4) := Or.inr ⟨"SalvageCourt", List.mem_of_getElem? (i := 394) (by decide +kernel)⟩
theorem fl6_43 : hFl RX6 43 (TX7 5) := Or.inr ⟨"SalvageCourt", List.mem_of_getElem? (i := 395) (by decide +kernel)⟩
theorem fl11_185 : hFl RX11 185 (TX7 5) := Or.inr ⟨"SalvageCourt", List.mem_of_getElem? (i := 396) (by decide +kernel)⟩
theorem fl6_52 : hFl RX6 52 (TX7 6) := Or.inr ⟨"SalvageCourt", List.mem_of_getElem? (i := 397) (by decide +kernel)⟩
theorem fl11_188 : hFl RX11 188 (TX7 6) := Or.inr ⟨"SalvageCourt", List.mem_of_getElem? (i := 398) (by decide +kernel)⟩
theorem fl11_10 : hFl RX11 10 (TX11 0) := Or.inl (List.mem_of_getElem? (i := 414) (by decide +kernel))
theorem fl11_19 : hFl RX11 19 (TX11 1) := Or.inl (List.mem_of_getElem? (i := 415) (by decide +kernel))
theorem fl11_26 : hFl RX11 26 (TX11 2) := Or.inl (List.mem_of_getElem? (i := 416) (by decide +kernel))
theorem fl11_33 : hFl RX11 33 (TX11 3) := Or.inl (List.mem_of_getElem? (i := 417) (by decide +kernel))
theorem fl11_39 : hFl RX11 39 (TX11 4) := Or.inl (List.mem_of_getElem? (i := 418) (by decide +kernel))
theorem fl11_48 : hFl RX11 48 (TX11 5) := Or.inl (List.mem_of_getElem? (i := 419) (by decide +kernel))
theorem fl11_55 : hFl RX11 55 (TX11 6) := Or.inl (List.mem_of_getElem? (i := 420) (by decide +kernel))
theorem fl11_61 : hFl RX11 61 (TX11 7) := Or.inl (List.mem_of_getElem? (i := 421) (by decide +kernel))
theorem fl11_68 : hFl RX11 68 (TX11 8) := Or.inl (List.mem_of_getElem? (i := 422) (by decide +kernel))
theorem fl11_74 : hFl RX11 74 (TX11 9) := Or.inl (List.mem_of_getElem? (i := 423) (by decide +kernel))
theorem fl11_135 : hFl RX11 135 (TX11 10) := Or.inl (List.mem_of_getElem? (i := 424) (by decide +kernel))
theorem fl11_138 : hFl RX11 138 (TX11 11) := Or.inl (List.mem_of_getElem? (i := 425) (by decide +kernel))
theorem fl11_147 : hFl RX11 147 (TX11 12) := Or.inl (List.mem_of_getElem? (i := 426) (by decide +kernel))
theorem fl11_167 : hFl RX11 167 (TX11 13) := Or.inl (List.mem_of_getElem? (i := 427) (by decide +kernel))
theorem lklaw_13 : hLk R_law 13 yX11_clock := Or.inl (List.mem_of_getElem? (i := 457) (by decide +kernel))
theorem lk11_78 : hLk RX11 78 yX11_isWithin := Or.inl (List.mem_of_getElem? (i := 461) (by decide +kernel))
theorem lklaw_18 : hLk R_law 18 yX11_trust := Or.inl (List.mem_of_getElem? (i := 464) (by decide +kernel))
theorem lk11_82 : hLk RX11 82 yX8_setTrust := Or.inl (List.mem_of_getElem? (i := 468) (by decide +kernel))
theorem lklaw_23 : hLk R_law 23 yX11_says := Or.inl (List.mem_of_getElem? (i := 472) (by decide +kernel))
theorem lk11_86 : hLk RX11 86 yX11_isThing := Or.inl (List.mem_of_getElem? (i := 476) (by decide +kernel))
theorem lk11_90 : hLk RX11 90 yX8_add := Or.inl (List.mem_of_getElem? (i := 479) (by decide +kernel))
theorem lklaw_28 : hLk R_law 28 yX11_believed := Or.inl (List.mem_of_getElem? (i := 483) (by decide +kernel))
theorem lk11_94 : hLk RX11 94 yX8_has := Or.inl (List.mem_of_getElem? (i := 487) (by decide +kernel))
theorem lk8_64 : hLk RX8 64 yX11_isWithin := Or.inr ⟨"SalvageCourt", List.mem_of_getElem? (i := 491) (by decide +kernel)⟩
theorem lk11_97 : hLk RX11 97 yX8_believes := Or.inl (List.mem_of_getElem? (i := 492) (by decide +kernel))
theorem lk8_68 : hLk RX8 68 yX8_settleBelief := Or.inl (List.mem_of_getElem? (i := 496) (by decide +kernel))
theorem lk8_87 : hLk RX8 87 yX0_clear := Or.inl (List.mem_of_getElem? (i := 500) (by decide +kernel))
theorem kc0_15 : Cond.constant RX0 15 (2147483647) ∈ lw_tbl := List.mem_of_getElem? (i := 504) (by decide +kernel)
theorem lk0_16 : hLk RX0 16 yJ7_fill_53178 := Or.inl (List.mem_of_getElem? (i := 505) (by decide +kernel))
theorem lk8_90 : hLk RX8 90 yX8_takes := Or.inl (List.mem_of_getElem? (i := 506) (by decide +kernel))
theorem lk8_98 : hLk RX8 98 yX0_narrow := Or.inl (List.mem_of_getElem? (i := 510) (by decide +kernel))
theorem lk0_23 : hLk RX0 23 yX0_limit := Or.inl (List.mem_of_getElem? (i := 514) (by decide +kernel))
theorem lklaw_33 : hLk R_law 33 yX11_spans := Or.inl (List.mem_of_getElem? (i := 518) (by decide +kernel))
theorem kc11_100 : Cond.constant RX11 100 (-2147483648) ∈ lw_tbl := List.mem_of_getElem? (i := 522) (by decide +kernel)
theorem lk11_101 : hLk RX11 101 yX8_leastSpan := Or.inl (List.mem_of_getElem? (i := 523) (by decide +kernel))
theorem lk8_74 : hLk RX8 74 yX0_least := Or.inl (List.mem_of_getElem? (i := 527) (by decide +kernel))
theorem kc0_22 : Cond.constant RX0 22 (-2147483648) ∈ lw_tbl := List.mem_of_getElem? (i := 531) (by decide +kernel)
theorem lk11_104 : hLk RX11 104 yX8_greatestSpan := Or.inl (List.mem_of_getElem? (i := 532) (by decide +kernel))
theorem lk8_78 : hLk RX8 78 yX0_greatest := Or.inl (List.mem_of_getElem? (i := 536) (by decide +kernel))
theorem lklaw_38 : hLk R_law 38 yX11_quarrel := Or.inl (List.mem_of_getElem? (i := 540) (by decide +kernel))
theorem lk11_107 : hLk RX11 107 yX8_quarrelSize := Or.inl (List.mem_of_getElem? (i := 544) (by decide +kernel))
theorem lk8_81 : hLk RX8 81 yX8_settleQuarrel := Or.inl (List.mem_of_getElem? (i := 548) (by decide +kernel))
theorem lk8_94 : hLk RX8 94 yX8_firstToBreak := Or.inl (List.mem_of_getElem? (i := 552) (by decide +kernel))
theorem lklaw_43 : hLk R_law 43 yX11_quarrels := Or.inl (List.mem_of_getElem? (i := 556) (by decide +kernel))
theorem lk11_111 : hLk RX11 111 yX8_quarrelling := Or.inl (List.mem_of_getElem? (i := 560) (by decide +kernel))
theorem lklaw_47 : hLk R_law 47 yX11_value := Or.inl (List.mem_of_getElem? (i := 564) (by decide +kernel))
theorem kc11_115 : Cond.constant RX11 115 (1000000) ∈ lw_tbl := List.mem_of_getElem? (i := 568) (by decide +kernel)
theorem lk11_116 : hLk RX11 116 yX11_isGood := Or.inl (List.mem_of_getElem? (i := 569) (by decide +kernel))
theorem lk11_119 : hLk RX11 119 yX11_isDay := Or.inl (List.mem_of_getElem? (i := 572) (by decide +kernel))
theorem lk11_122 : hLk RX11 122 yJ9_max_7cf53 := Or.inl (List.mem_of_getElem? (i := 575) (by decide +kernel))
theorem lk11_127 : hLk RX11 127 yX3_add := Or.inl (List.mem_of_getElem? (i := 578) (by decide +kernel))
theorem lk3_31 : hLk RX3 31 yX10_set := Or.inl (List.mem_of_getElem? (i := 582) (by decide +kernel))
theorem lklaw_52 : hLk R_law 52 yX11_earlier := Or.inl (List.mem_of_getElem? (i := 586) (by decide +kernel))
theorem kc11_130 : Cond.constant RX11 130 (99999) ∈ lw_tbl := List.mem_of_getElem? (i := 590) (by decide +kernel)
theorem lk11_131 : hLk RX11 131 yX1_add := Or.inl (List.mem_of_getElem? (i := 591) (by decide +kernel))
theorem lk1_34 : hLk RX1 34 yX10_set := Or.inl (List.mem_of_getElem? (i := 595) (by decide +kernel))
theorem lklaw_56 : hLk R_law 56 yX11_overrule := Or.inl (List.mem_of_getElem? (i := 596) (by decide +kernel))
theorem lk11_132 : hLk RX11 132 yX1_setOverruled := Or.inl (List.mem_of_getElem? (i := 600) (by decide +kernel))
theorem lk1_38 : hLk RX1 38 yX11_isWithin := Or.inr ⟨"SalvageCourt", List.mem_of_getElem? (i := 604) (by decide +kernel)⟩
theorem lk1_42 : hLk RX1 42 yX10_isSet := Or.inl (List.mem_of_getElem? (i := 605) (by decide +kernel))
theorem lklaw_61 : hLk R_law 61 yX11_suit := Or.inl (List.mem_of_getElem? (i := 609) (by decide +kernel))
theorem lklaw_65 : hLk R_law 65 yX11_feed := Or.inl (List.mem_of_getElem? (i := 613) (by decide +kernel))
theorem lk11_144 : hLk RX11 144 yX9_append := Or.inl (List.mem_of_getElem? (i := 617) (by decide +kernel))
theorem lklaw_69 : hLk R_law 69 yX11_end := Or.inl (List.mem_of_getElem? (i := 621) (by decide +kernel))
theorem lklaw_73 : hLk R_law 73 yX11_law := Or.inl (List.mem_of_getElem? (i := 625) (by decide +kernel))
theorem lk11_150 : hLk RX11 150 yX9_readInto := Or.inl (List.mem_of_getElem? (i := 629) (by decide +kernel))
theorem lk9_19 : hLk RX9 19 yX5_clear := Or.inl (List.mem_of_getElem? (i := 633) (by decide +kernel))
theorem lk5_15 : hLk RX5 15 yJ7_fill_53178 := Or.inl (List.mem_of_getElem? (i := 637) (by decide +kernel))
theorem lk9_33 : hLk RX9 33 yX9_skipBlanks := Or.inl (List.mem_of_getElem? (i := 638) (by decide +kernel))
theorem lk9_36 : hLk RX9 36 yX9_readClause := Or.inl (List.mem_of_getElem? (i := 642) (by decide +kernel))
theorem lk9_46 : hLk RX9 46 yX9_readWord := Or.inl (List.mem_of_getElem? (i := 647) (by decide +kernel))
theorem lk9_95 : hLk RX9 95 yX9_isBetween := Or.inl (List.mem_of_getElem? (i := 651) (by decide +kernel))
theorem lk9_99 : hLk RX9 99 yX9_numberOfWord := Or.inl (List.mem_of_getElem? (i := 654) (by decide +kernel))
theorem lk9_102 : hLk RX9 102 yJ0_length_8abf5 := Or.inl (List.mem_of_getElem? (i := 658) (by decide +kernel))
theorem lkJ0_335 : hLk RJ0 335 yJ0_coder_7d493 := Or.inl (List.mem_of_getElem? (i := 662) (by decide +kernel))
theorem kfJ0_38 : Cond.fieldLink RJ0 38 "java/lang/String" "COMPACT_STRINGS" "Z" ∈ lw_tbl := List.mem_of_getElem? (i := 666) (by decide +kernel)
theorem lk9_107 : hLk RX9 107 yJ0_charAt_5068e := Or.inl (List.mem_of_getElem? (i := 668) (by decide +kernel))
theorem lkJ0_492 : hLk RJ0 492 yJ0_isLatin1_aae02 := Or.inl (List.mem_of_getElem? (i := 672) (by decide +kernel))
theorem lkJ0_495 : hLk RJ0 495 yJ1_charAt_3b067 := Or.inl (List.mem_of_getElem? (i := 676) (by decide +kernel))
theorem lkJ1_9 : hLk RJ1 9 yJ0_checkIndex_df160 := Or.inl (List.mem_of_getElem? (i := 679) (by decide +kernel))
theorem kfJ0_1053 : Cond.fieldLink RJ0 1053 "jdk/internal/util/Preconditions" "SIOOBE_FORMATTER" "Ljava/util/function/BiFunction;" ∈ lw_tbl := List.mem_of_getElem? (i := 682) (by decide +kernel)
theorem lkJ0_1059 : hLk RJ0 1059 yJ3_checkIndex_8e157 := Or.inl (List.mem_of_getElem? (i := 684) (by decide +kernel))
theorem lkJ0_498 : hLk RJ0 498 yJ2_charAt_3b067 := Or.inl (List.mem_of_getElem? (i := 687) (by decide +kernel))
theorem lkJ2_67 : hLk RJ2 67 yJ2_checkIndex_2214a := Or.inl (List.mem_of_getElem? (i := 690) (by decide +kernel))
theorem lkJ2_48 : hLk RJ2 48 yJ2_length_9d52b := Or.inl (List.mem_of_getElem? (i := 693) (by decide +kernel))
theorem lkJ2_414 : hLk RJ2 414 yJ0_checkIndex_df160 := Or.inl (List.mem_of_getElem? (i := 696) (by decide +kernel))
theorem lkJ2_71 : hLk RJ2 71 yJ2_getChar_3b067 := Or.inl (List.mem_of_getElem? (i := 697) (by decide +kernel))
theorem kfJ2_44 : Cond.fieldLink RJ2 44 "java/lang/StringUTF16" "$assertionsDisabled" "Z" ∈ lw_tbl := List.mem_of_getElem? (i := 700) (by decide +kernel)
theorem kfJ2_59 : Cond.fieldLink RJ2 59 "java/lang/StringUTF16" "HI_BYTE_SHIFT" "I" ∈ lw_tbl := List.mem_of_getElem? (i := 702) (by decide +kernel)
theorem kfJ2_63 : Cond.fieldLink RJ2 63 "java/lang/StringUTF16" "LO_BYTE_SHIFT" "I" ∈ lw_tbl := List.mem_of_getElem? (i := 704) (by decide +kernel)
theorem lk9_40 : hLk RX9 40 yX9_refuse := Or.inl (List.mem_of_getElem? (i := 706) (by decide +kernel))
theorem lk9_50 : hLk RX9 50 yX9_tellOnce := Or.inl (List.mem_of_getElem? (i := 710) (by decide +kernel))
theorem lk9_54 : hLk RX9 54 yX9_readWeight := Or.inl (List.mem_of_getElem? (i := 714) (by decide +kernel))
theorem lk9_57 : hLk RX9 57 yX9_readNumber := Or.inl (List.mem_of_getElem? (i := 719) (by decide +kernel))
theorem lk9_83 : hLk RX9 83 yX9_readSemicolon := Or.inl (List.mem_of_getElem? (i := 725) (by decide +kernel))
theorem lk11_154 : hLk RX11 154 yX10_set := Or.inl (List.mem_of_getElem? (i := 729) (by decide +kernel))
theorem lklaw_79 : hLk R_law 79 yX11_sheet := Or.inl (List.mem_of_getElem? (i := 730) (by decide +kernel))
theorem lk11_158 : hLk RX11 158 yX11_handWeight := Or.inl (List.mem_of_getElem? (i := 734) (by decide +kernel))
theorem lk11_162 : hLk RX11 162 yX2_clear := Or.inl (List.mem_of_getElem? (i := 737) (by decide +kernel))
theorem lk11_165 : hLk RX11 165 yX2_add := Or.inl (List.mem_of_getElem? (i := 741) (by decide +kernel))
theorem lklaw_84 : hLk R_law 84 yX11_ship := Or.inl (List.mem_of_getElem? (i := 745) (by decide +kernel))
theorem lk11_194 : hLk RX11 194 yX2_copy := Or.inl (List.mem_of_getElem? (i := 749) (by decide +kernel))
theorem lk2_22 : hLk RX2 22 yX2_clear := Or.inl (List.mem_of_getElem? (i := 753) (by decide +kernel))
theorem lk2_25 : hLk RX2 25 yX2_add := Or.inl (List.mem_of_getElem? (i := 754) (by decide +kernel))
theorem lklaw_89 : hLk R_law 89 yX11_judge := Or.inl (List.mem_of_getElem? (i := 755) (by decide +kernel))
theorem lk11_198 : hLk RX11 198 yX10_latestOf := Or.inl (List.mem_of_getElem? (i := 759) (by decide +kernel))
theorem lk10_24 : hLk RX10 24 yX10_holds := Or.inl (List.mem_of_getElem? (i := 763) (by decide +kernel))
theorem lk10_28 : hLk RX10 28 yX10_supersedes := Or.inl (List.mem_of_getElem? (i := 767) (by decide +kernel))
theorem lk11_209 : hLk RX11 209 yX1_findLike := Or.inl (List.mem_of_getElem? (i := 771) (by decide +kernel))
theorem lk1_46 : hLk RX1 46 yX10_holds := Or.inl (List.mem_of_getElem? (i := 775) (by decide +kernel))
theorem lk1_49 : hLk RX1 49 yX5_distance := Or.inl (List.mem_of_getElem? (i := 776) (by decide +kernel))
theorem lk5_40 : hLk RX5 40 yJ9_abs_0f7a4 := Or.inl (List.mem_of_getElem? (i := 780) (by decide +kernel))
theorem lk11_219 : hLk RX11 219 yX1_sortAwards := Or.inl (List.mem_of_getElem? (i := 783) (by decide +kernel))
theorem lk11_223 : hLk RX11 223 yX5_rateOf := Or.inl (List.mem_of_getElem? (i := 787) (by decide +kernel))
theorem lk5_46 : hLk RX5 46 yX5_givenOf := Or.inl (List.mem_of_getElem? (i := 791) (by decide +kernel))
theorem lk5_54 : hLk RX5 54 yX5_mean := Or.inl (List.mem_of_getElem? (i := 795) (by decide +kernel))
theorem lk5_50 : hLk RX5 50 yJ9_min_7cf53 := Or.inl (List.mem_of_getElem? (i := 798) (by decide +kernel))
theorem lk11_230 : hLk RX11 230 yX3_worthOfAll := Or.inl (List.mem_of_getElem? (i := 801) (by decide +kernel))
theorem lk3_43 : hLk RX3 43 yX3_worthOf := Or.inl (List.mem_of_getElem? (i := 805) (by decide +kernel))
theorem lk3_35 : hLk RX3 35 yX10_holds := Or.inl (List.mem_of_getElem? (i := 809) (by decide +kernel))
theorem lk3_39 : hLk RX3 39 yX10_supersedes := Or.inl (List.mem_of_getElem? (i := 810) (by decide +kernel))
theorem lk11_238 : hLk RX11 238 yX4_weighShips := Or.inl (List.mem_of_getElem? (i := 811) (by decide +kernel))
theorem lk4_44 : hLk RX4 44 yX8_leastSpan := Or.inl (List.mem_of_getElem? (i := 815) (by decide +kernel))
theorem lk4_50 : hLk RX4 50 yJ9_max_7cf53 := Or.inl (List.mem_of_getElem? (i := 816) (by decide +kernel))
theorem lk11_242 : hLk RX11 242 yX4_partAmongShips := Or.inl (List.mem_of_getElem? (i := 817) (by decide +kernel))
theorem kc4_70 : Cond.constantLong RX4 70 (1000) ∈ lw_tbl := List.mem_of_getElem? (i := 821) (by decide +kernel)
theorem lk4_81 : hLk RX4 81 yX4_greatestRest := Or.inl (List.mem_of_getElem? (i := 822) (by decide +kernel))
theorem kc4_85 : Cond.constantLong RX4 85 (-1) ∈ lw_tbl := List.mem_of_getElem? (i := 826) (by decide +kernel)
theorem lk11_245 : hLk RX11 245 yX4_settle := Or.inl (List.mem_of_getElem? (i := 827) (by decide +kernel))
theorem lk4_93 : hLk RX4 93 yX6_loseLate := Or.inl (List.mem_of_getElem? (i := 831) (by decide +kernel))
theorem lk6_21 : hLk RX6 21 yJ9_max_7cf53 := Or.inl (List.mem_of_getElem? (i := 835) (by decide +kernel))
theorem kc6_31 : Cond.constantLong RX6 31 (1000) ∈ lw_tbl := List.mem_of_getElem? (i := 836) (by decide +kernel)
theorem lk6_36 : hLk RX6 36 yJ9_min_f86c9 := Or.inl (List.mem_of_getElem? (i := 837) (by decide +kernel))
theorem lk4_100 : hLk RX4 100 yX6_pay := Or.inl (List.mem_of_getElem? (i := 840) (by decide +kernel))
theorem kc6_48 : Cond.constantLong RX6 48 (100) ∈ lw_tbl := List.mem_of_getElem? (i := 844) (by decide +kernel)
theorem lk6_63 : hLk RX6 63 yX6_payHands := Or.inl (List.mem_of_getElem? (i := 845) (by decide +kernel))
theorem lklaw_93 : hLk R_law 93 yX11_judged := Or.inl (List.mem_of_getElem? (i := 849) (by decide +kernel))
theorem kc11_249 : Cond.constantLong RX11 249 (-1) ∈ lw_tbl := List.mem_of_getElem? (i := 853) (by decide +kernel)
theorem lklaw_98 : hLk R_law 98 yX11_like := Or.inl (List.mem_of_getElem? (i := 854) (by decide +kernel))
theorem lklaw_102 : hLk R_law 102 yX11_share := Or.inl (List.mem_of_getElem? (i := 858) (by decide +kernel))
theorem lklaw_107 : hLk R_law 107 yX11_hand := Or.inl (List.mem_of_getElem? (i := 862) (by decide +kernel))
theorem lklaw_111 : hLk R_law 111 yX11_saved := Or.inl (List.mem_of_getElem? (i := 866) (by decide +kernel))
theorem lk11_287 : hLk RX11 287 yX3_worthOf := Or.inl (List.mem_of_getElem? (i := 870) (by decide +kernel))
theorem lklaw_115 : hLk R_law 115 yX11_count := Or.inl (List.mem_of_getElem? (i := 871) (by decide +kernel))
theorem lk11_293 : hLk RX11 293 yX8_howManyBelieved := Or.inl (List.mem_of_getElem? (i := 875) (by decide +kernel))
theorem lclaw_10 : Cond.classLink R_law 10 "SalvageCourtModel" ∈ lw_tbl := List.mem_of_getElem? (i := 879) (by decide +kernel)
theorem in12 : Cond.instantiable RX12 59 ∈ lw_tbl := List.mem_of_getElem? (i := 880) (by decide +kernel)
theorem lklaw_12 : hLk R_law 12 yX12_init := Or.inl (List.mem_of_getElem? (i := 881) (by decide +kernel))
theorem lo12_1 : Cond.methodLink RX12 1 objectInit ∈ lw_tbl := List.mem_of_getElem? (i := 884) (by decide +kernel)
theorem lc12_28 : Cond.classLink RX12 28 "[[J" ∈ lw_tbl := List.mem_of_getElem? (i := 885) (by decide +kernel)
theorem lc12_76 : Cond.classLink RX12 76 "[[I" ∈ lw_tbl := List.mem_of_getElem? (i := 887) (by decide +kernel)
theorem fl12_128 : hFl RX12 128 (TX12 1) := Or.inl (List.mem_of_getElem? (i := 889) (by decide +kernel))
theorem fl12_7 : hFl RX12 7 (TX12 2) := Or.inl (List.mem_of_getElem? (i := 890) (by decide +kernel))
theorem fl12_135 : hFl RX12 135 (TX12 3) := Or.inl (List.mem_of_getElem? (i := 891) (by decide +kernel))
theorem fl12_13 : hFl RX12 13 (TX12 4) := Or.inl (List.mem_of_getElem? (i := 892) (by decide +kernel))
theorem fl12_16 : hFl RX12 16 (TX12 5) := Or.inl (List.mem_of_getElem? (i := 893) (by decide +kernel))
theorem fl12_19 : hFl RX12 19 (TX12 6) := Or.inl (List.mem_of_getElem? (i := 894) (by decide +kernel))
theorem fl12_22 : hFl RX12 22 (TX12 7) := Or.inl (List.mem_of_getElem? (i := 895) (by decide +kernel))
theorem fl12_25 : hFl RX12 25 (TX12 8) := Or.inl (List.mem_of_getElem? (i := 896) (by decide +kernel))
theorem fl12_30 : hFl RX12 30 (TX12 9) := Or.inl (List.mem_of_getElem? (i := 897) (by decide +kernel))
theorem fl12_33 : hFl RX12 33 (TX12 10) := Or.inl (List.mem_of_getElem? (i := 898) (by decide +kernel))
theorem fl12_152 : hFl RX12 152 (TX12 11) := Or.inl (List.mem_of_getElem? (i := 899) (by decide +kernel))
theorem fl12_37 : hFl RX12 37 (TX12 12) := Or.inl (List.mem_of_getElem? (i := 900) (by decide +kernel))
theorem fl12_40 : hFl RX12 40 (TX12 13) := Or.inl (List.mem_of_getElem? (i := 901) (by decide +kernel))
theorem fl12_43 : hFl RX12 43 (TX12 14) := Or.inl (List.mem_of_getElem? (i := 902) (by decide +kernel))
theorem fl12_46 : hFl RX12 46 (TX12 15) := Or.inl (List.mem_of_getElem? (i := 903) (by decide +kernel))
theorem fl12_49 : hFl RX12 49 (TX12 16) := Or.inl (List.mem_of_getElem? (i := 904) (by decide +kernel))
theorem fl12_156 : hFl RX12 156 (TX12 17) := Or.inl (List.mem_of_getElem? (i := 905) (by decide +kernel))
theorem fl12_52 : hFl RX12 52 (TX12 18) := Or.inl (List.mem_of_getElem? (i := 906) (by decide +kernel))
theorem fl12_55 : hFl RX12 55 (TX12 19) := Or.inl (List.mem_of_getElem? (i := 907) (by decide +kernel))
theorem fl12_58 : hFl RX12 58 (TX12 20) := Or.inl (List.mem_of_getElem? (i := 908) (by decide +kernel))
theorem fl12_61 : hFl RX12 61 (TX12 21) := Or.inl (List.mem_of_getElem? (i := 909) (by decide +kernel))
theorem fl12_64 : hFl RX12 64 (TX12 22) := Or.inl (List.mem_of_getElem? (i := 910) (by decide +kernel))
theorem fl12_67 : hFl RX12 67 (TX12 23) := Or.inl (List.mem_of_getElem? (i := 911) (by decide +kernel))
theorem fl12_160 : hFl RX12 160 (TX12 24) := Or.inl (List.mem_of_getElem? (i := 912) (by decide +kernel))
theorem fl12_163 : hFl RX12 163 (TX12 25) := Or.inl (List.mem_of_getElem? (i := 913) (by decide +kernel))
theorem fl12_250 : hFl RX12 250 (TX12 26) := Or.inl (List.mem_of_getElem? (i := 914) (by decide +kernel))
theorem fl12_70 : hFl RX12 70 (TX12 27) := Or.inl (List.mem_of_getElem? (i := 915) (by decide +kernel))
theorem fl12_73 : hFl RX12 73 (TX12 28) := Or.inl (List.mem_of_getElem? (i := 916) (by decide +kernel))
theorem fl12_78 : hFl RX12 78 (TX12 29) := Or.inl (List.mem_of_getElem? (i := 917) (by decide +kernel))
theorem fl12_81 : hFl RX12 81 (TX12 30) := Or.inl (List.mem_of_getElem? (i := 918) (by decide +kernel))
theorem fl12_166 : hFl RX12 166 (TX12 31) := Or.inl (List.mem_of_getElem? (i := 919) (by decide +kernel))
theorem fl12_176 : hFl RX12 176 (TX12 32) := Or.inl (List.mem_of_getElem? (i := 920) (by decide +kernel))
theorem fl12_179 : hFl RX12 179 (TX12 33) := Or.inl (List.mem_of_getElem? (i := 921) (by decide +kernel))
theorem fl12_173 : hFl RX12 173 (TX12 34) := Or.inl (List.mem_of_getElem? (i := 922) (by decide +kernel))
theorem fl12_262 : hFl RX12 262 (TX12 35) := Or.inl (List.mem_of_getElem? (i := 923) (by decide +kernel))
theorem fl12_259 : hFl RX12 259 (TX12 36) := Or.inl (List.mem_of_getElem? (i := 924) (by decide +kernel))
theorem fl12_85 : hFl RX12 85 (TX12 37) := Or.inl (List.mem_of_getElem? (i := 925) (by decide +kernel))
theorem fl12_266 : hFl RX12 266 (TX12 38) := Or.inl (List.mem_of_getElem? (i := 926) (by decide +kernel))
theorem fl12_88 : hFl RX12 88 (TX12 39) := Or.inl (List.mem_of_getElem? (i := 927) (by decide +kernel))
theorem fl12_91 : hFl RX12 91 (TX12 40) := Or.inl (List.mem_of_getElem? (i := 928) (by decide +kernel))
theorem fl12_94 : hFl RX12 94 (TX12 41) := Or.inl (List.mem_of_getElem? (i := 929) (by decide +kernel))
theorem fl12_97 : hFl RX12 97 (TX12 42) := Or.inl (List.mem_of_getElem? (i := 930) (by decide +kernel))
theorem fl12_100 : hFl RX12 100 (TX12 43) := Or.inl (List.mem_of_getElem? (i := 931) (by decide +kernel))
theorem fl12_103 : hFl RX12 103 (TX12 44) := Or.inl (List.mem_of_getElem? (i := 932) (by decide +kernel))
theorem fl12_106 : hFl RX12 106 (TX12 45) := Or.inl (List.mem_of_getElem? (i := 933) (by decide +kernel))
theorem fl12_109 : hFl RX12 109 (TX12 46) := Or.inl (List.mem_of_getElem? (i := 934) (by decide +kernel))
theorem fl12_272 : hFl RX12 272 (TX12 47) := Or.inl (List.mem_of_getElem? (i := 935) (by decide +kernel))
theorem fl12_275 : hFl RX12 275 (TX12 48) := Or.inl (List.mem_of_getElem? (i := 936) (by decide +kernel))
theorem fl12_269 : hFl RX12 269 (TX12 49) := Or.inl (List.mem_of_getElem? (i := 937) (by decide +kernel))
theorem fl12_286 : hFl RX12 286 (TX12 50) := Or.inl (List.mem_of_getElem? (i := 938) (by decide +kernel))
theorem fl12_301 : hFl RX12 301 (TX12 51) := Or.inl (List.mem_of_getElem? (i := 939) (by decide +kernel))
theorem fl12_112 : hFl RX12 112 (TX12 52) := Or.inl (List.mem_of_getElem? (i := 940) (by decide +kernel))
theorem fl12_289 : hFl RX12 289 (TX12 53) := Or.inl (List.mem_of_getElem? (i := 941) (by decide +kernel))
theorem fl12_306 : hFl RX12 306 (TX12 54) := Or.inl (List.mem_of_getElem? (i := 942) (by decide +kernel))
theorem fl12_309 : hFl RX12 309 (TX12 55) := Or.inl (List.mem_of_getElem? (i := 943) (by decide +kernel))
theorem fl12_115 : hFl RX12 115 (TX12 56) := Or.inl (List.mem_of_getElem? (i := 944) (by decide +kernel))
theorem fl12_118 : hFl RX12 118 (TX12 57) := Or.inl (List.mem_of_getElem? (i := 945) (by decide +kernel))
theorem fl12_121 : hFl RX12 121 (TX12 58) := Or.inl (List.mem_of_getElem? (i := 946) (by decide +kernel))
theorem lklaw_17 : hLk R_law 17 yX12_clock := Or.inl (List.mem_of_getElem? (i := 1066) (by decide +kernel))
theorem lk12_131 : hLk RX12 131 yX12_in := Or.inl (List.mem_of_getElem? (i := 1070) (by decide +kernel))
theorem lklaw_22 : hLk R_law 22 yX12_trust := Or.inl (List.mem_of_getElem? (i := 1073) (by decide +kernel))
theorem lklaw_27 : hLk R_law 27 yX12_says := Or.inl (List.mem_of_getElem? (i := 1077) (by decide +kernel))
theorem lklaw_32 : hLk R_law 32 yX12_believed := Or.inl (List.mem_of_getElem? (i := 1081) (by decide +kernel))
theorem lk12_144 : hLk RX12 144 yX12_believe := Or.inl (List.mem_of_getElem? (i := 1085) (by decide +kernel))
theorem lk12_140 : hLk RX12 140 yX12_canBe := Or.inl (List.mem_of_getElem? (i := 1089) (by decide +kernel))
theorem kc12_138 : Cond.constantLong RX12 138 (1099511627776) ∈ lw_tbl := List.mem_of_getElem? (i := 1093) (by decide +kernel)
theorem lklaw_37 : hLk R_law 37 yX12_spans := Or.inl (List.mem_of_getElem? (i := 1094) (by decide +kernel))
theorem kc12_147 : Cond.constant RX12 147 (-2147483648) ∈ lw_tbl := List.mem_of_getElem? (i := 1098) (by decide +kernel)
theorem lklaw_42 : hLk R_law 42 yX12_quarrel := Or.inl (List.mem_of_getElem? (i := 1099) (by decide +kernel))
theorem lklaw_46 : hLk R_law 46 yX12_quarrels := Or.inl (List.mem_of_getElem? (i := 1103) (by decide +kernel))
theorem lk12_148 : hLk RX12 148 yX12_quarrel := Or.inl (List.mem_of_getElem? (i := 1107) (by decide +kernel))
theorem lklaw_51 : hLk R_law 51 yX12_value := Or.inl (List.mem_of_getElem? (i := 1108) (by decide +kernel))
theorem kc12_155 : Cond.constant RX12 155 (1000000) ∈ lw_tbl := List.mem_of_getElem? (i := 1112) (by decide +kernel)
theorem lklaw_114 : hLk R_law 114 yX12_saved := Or.inl (List.mem_of_getElem? (i := 1113) (by decide +kernel))
theorem lklaw_55 : hLk R_law 55 yX12_earlier := Or.inl (List.mem_of_getElem? (i := 1117) (by decide +kernel))
theorem kc12_159 : Cond.constant RX12 159 (99999) ∈ lw_tbl := List.mem_of_getElem? (i := 1121) (by decide +kernel)
theorem lklaw_60 : hLk R_law 60 yX12_overrule := Or.inl (List.mem_of_getElem? (i := 1122) (by decide +kernel))
theorem lklaw_64 : hLk R_law 64 yX12_suit := Or.inl (List.mem_of_getElem? (i := 1126) (by decide +kernel))
theorem lklaw_68 : hLk R_law 68 yX12_feed := Or.inl (List.mem_of_getElem? (i := 1130) (by decide +kernel))
theorem lk12_169 : hLk RX12 169 yX12_put := Or.inl (List.mem_of_getElem? (i := 1134) (by decide +kernel))
theorem lklaw_72 : hLk R_law 72 yX12_end := Or.inl (List.mem_of_getElem? (i := 1138) (by decide +kernel))
theorem lklaw_76 : hLk R_law 76 yX12_law := Or.inl (List.mem_of_getElem? (i := 1142) (by decide +kernel))
theorem lk12_182 : hLk RX12 182 yX12_isEnd := Or.inl (List.mem_of_getElem? (i := 1146) (by decide +kernel))
theorem lk12_253 : hLk RX12 253 yX12_clause := Or.inl (List.mem_of_getElem? (i := 1150) (by decide +kernel))
theorem lk12_229 : hLk RX12 229 yX12_word := Or.inl (List.mem_of_getElem? (i := 1154) (by decide +kernel))
theorem lk12_185 : hLk RX12 185 yX12_fails := Or.inl (List.mem_of_getElem? (i := 1158) (by decide +kernel))
theorem lk12_219 : hLk RX12 219 yX12_is := Or.inl (List.mem_of_getElem? (i := 1163) (by decide +kernel))
theorem lk12_189 : hLk RX12 189 yJ0_length_8abf5 := Or.inl (List.mem_of_getElem? (i := 1167) (by decide +kernel))
theorem lk12_194 : hLk RX12 194 yJ0_charAt_5068e := Or.inl (List.mem_of_getElem? (i := 1168) (by decide +kernel))
theorem lk12_234 : hLk RX12 234 yX12_markOf := Or.inl (List.mem_of_getElem? (i := 1169) (by decide +kernel))
theorem lk12_238 : hLk RX12 238 yX12_number := Or.inl (List.mem_of_getElem? (i := 1178) (by decide +kernel))
theorem lk12_242 : hLk RX12 242 yX12_clauseOf := Or.inl (List.mem_of_getElem? (i := 1182) (by decide +kernel))
theorem lk12_245 : hLk RX12 245 yX12_gives := Or.inl (List.mem_of_getElem? (i := 1191) (by decide +kernel))
theorem lklaw_83 : hLk R_law 83 yX12_sheet := Or.inl (List.mem_of_getElem? (i := 1200) (by decide +kernel))
theorem kc12_257 : Cond.constantLong RX12 257 (15) ∈ lw_tbl := List.mem_of_getElem? (i := 1204) (by decide +kernel)
theorem lklaw_88 : hLk R_law 88 yX12_ship := Or.inl (List.mem_of_getElem? (i := 1205) (by decide +kernel))
theorem lklaw_92 : hLk R_law 92 yX12_judge := Or.inl (List.mem_of_getElem? (i := 1209) (by decide +kernel))
theorem lk12_278 : hLk RX12 278 yX12_distance := Or.inl (List.mem_of_getElem? (i := 1213) (by decide +kernel))
theorem lk12_282 : hLk RX12 282 yX12_rated := Or.inl (List.mem_of_getElem? (i := 1217) (by decide +kernel))
theorem lk12_293 : hLk RX12 293 yX12_saved := Or.inl (List.mem_of_getElem? (i := 1221) (by decide +kernel))
theorem lk12_297 : hLk RX12 297 yX12_parts := Or.inl (List.mem_of_getElem? (i := 1222) (by decide +kernel))
theorem kc12_304 : Cond.constantLong RX12 304 (1000) ∈ lw_tbl := List.mem_of_getElem? (i := 1226) (by decide +kernel)
theorem lk12_312 : hLk RX12 312 yX12_aboard := Or.inl (List.mem_of_getElem? (i := 1227) (by decide +kernel))
theorem kc12_316 : Cond.constantLong RX12 316 (100) ∈ lw_tbl := List.mem_of_getElem? (i := 1231) (by decide +kernel)
theorem lklaw_97 : hLk R_law 97 yX12_judged := Or.inl (List.mem_of_getElem? (i := 1232) (by decide +kernel))
theorem kc12_318 : Cond.constantLong RX12 318 (-1) ∈ lw_tbl := List.mem_of_getElem? (i := 1236) (by decide +kernel)
theorem lklaw_101 : hLk R_law 101 yX12_like := Or.inl (List.mem_of_getElem? (i := 1237) (by decide +kernel))
theorem lklaw_106 : hLk R_law 106 yX12_share := Or.inl (List.mem_of_getElem? (i := 1241) (by decide +kernel))
theorem lklaw_110 : hLk R_law 110 yX12_hand := Or.inl (List.mem_of_getElem? (i := 1245) (by decide +kernel))
theorem lklaw_118 : hLk R_law 118 yX12_count := Or.inl (List.mem_of_getElem? (i := 1249) (by decide +kernel))
theorem kclaw_77 : Cond.constantLong R_law 77 (4294967295) ∈ lw_tbl := List.mem_of_getElem? (i := 1253) (by decide +kernel)
theorem kfJ0_9 : Cond.fieldLink RJ0 9 "java/lang/String" "value" "[B" ∈ lw_tbl := List.mem_of_getElem? (i := 1254) (by decide +kernel)
theorem kfJ0_15 : Cond.fieldLink RJ0 15 "java/lang/String" "coder" "B" ∈ lw_tbl := List.mem_of_getElem? (i := 1255) (by decide +kernel)
theorem inilaw : Cond.initialized R_law ∈ lw_tbl := List.mem_of_getElem? (i := 33) (by decide +kernel)
theorem ini11 : Cond.initialized RX11 ∈ lw_tbl := List.mem_of_getElem? (i := 34) (by decide +kernel)
theorem ini8 : Cond.initialized RX8 ∈ lw_tbl := List.mem_of_getElem? (i := 35) (by decide +kernel)
theorem ini0 : Cond.initialized RX0 ∈ lw_tbl := List.mem_of_getElem? (i := 36) (by decide +kernel)
theorem iniJ7 : Cond.initialized RJ7 ∈ lw_tbl := List.mem_of_getElem? (i := 37) (by decide +kernel)
theorem ini3 : Cond.initialized RX3 ∈ lw_tbl := List.mem_of_getElem? (i := 38) (by decide +kernel)
theorem ini10 : Cond.initialized RX10 ∈ lw_tbl := List.mem_of_getElem? (i := 39) (by decide +kernel)
theorem ini1 : Cond.initialized RX1 ∈ lw_tbl := List.mem_of_getElem? (i := 40) (by decide +kernel)
theorem ini9 : Cond.initialized RX9 ∈ lw_tbl := List.mem_of_getElem? (i := 41) (by decide +kernel)
theorem ini2 : Cond.initialized RX2 ∈ lw_tbl := List.mem_of_getElem? (i := 42) (by decide +kernel)
theorem ini4 : Cond.initialized RX4 ∈ lw_tbl := List.mem_of_getElem? (i := 43) (by decide +kernel)
theorem ini6 : Cond.initialized RX6 ∈ lw_tbl := List.mem_of_getElem? (i := 44) (by decide +kernel)
theorem ini5 : Cond.initialized RX5 ∈ lw_tbl := List.mem_of_getElem? (i := 45) (by decide +kernel)
theorem ini7 : Cond.initialized RX7 ∈ lw_tbl := List.mem_of_getElem? (i := 46) (by decide +kernel)
theorem ini12 : Cond.initialized RX12 ∈ lw_tbl := List.mem_of_getElem? (i := 47) (by decide +kernel)
theorem iniJ9 : Cond.initialized RJ9 ∈ lw_tbl := List.mem_of_getElem? (i := 48) (by decide +kernel)
theorem iniJ0 : Cond.initialized RJ0 ∈ lw_tbl := List.mem_of_getElem? (i := 49) (by decide +kernel)
theorem iniJ1 : Cond.initialized RJ1 ∈ lw_tbl := List.mem_of_getElem? (i := 50) (by decide +kernel)
theorem iniJ3 : Cond.initialized RJ3 ∈ lw_tbl := List.mem_of_getElem? (i := 51) (by decide +kernel)
theorem iniJ2 : Cond.initialized RJ2 ∈ lw_tbl := List.mem_of_getElem? (i := 52) (by decide +kernel)
theorem clX11_init : hCl yX11_init cX11_init 2 none 0 := ⟨List.mem_of_getElem? (i := 57) (by decide +kernel), ini11, by decide +kernel, by decide +kernel⟩
theorem imX11_init : Cond.instanceMethod yX11_init ∈ lw_tbl := List.mem_of_getElem? (i := 56) (by decide +kernel)
theorem clX8_init : hCl yX8_init cX8_init 1 none 0 := ⟨List.mem_of_getElem? (i := 65) (by decide +kernel), ini8, by decide +kernel, by decide +kernel⟩
theorem imX8_init : Cond.instanceMethod yX8_init ∈ lw_tbl := List.mem_of_getElem? (i := 64) (by decide +kernel)
theorem clX0_init : hCl yX0_init cX0_init 1 none 0 := ⟨List.mem_of_getElem? (i := 71) (by decide +kernel), ini0, by decide +kernel, by decide +kernel⟩
theorem imX0_init : Cond.instanceMethod yX0_init ∈ lw_tbl := List.mem_of_getElem? (i := 70) (by decide +kernel)
theorem clJ7_fill_53178 : hCl yJ7_fill_53178 cJ7_fill_53178 4 none 2 := ⟨List.mem_of_getElem? (i := 80) (by decide +kernel), iniJ7, by decide +kernel, by decide +kernel⟩
theorem stJ7_fill_53178 : Cond.static yJ7_fill_53178 ∈ lw_tbl := List.mem_of_getElem? (i := 79) (by decide +kernel)
theorem clX3_init : hCl yX3_init cX3_init 1 none 0 := ⟨List.mem_of_getElem? (i := 133) (by decide +kernel), ini3, by decide +kernel, by decide +kernel⟩
theorem imX3_init : Cond.instanceMethod yX3_init ∈ lw_tbl := List.mem_of_getElem? (i := 132) (by decide +kernel)
theorem clX10_init : hCl yX10_init cX10_init 2 none 1 := ⟨List.mem_of_getElem? (i := 139) (by decide +kernel), ini10, by decide +kernel, by decide +kernel⟩
theorem imX10_init : Cond.instanceMethod yX10_init ∈ lw_tbl := List.mem_of_getElem? (i := 138) (by decide +kernel)
theorem clX1_init : hCl yX1_init cX1_init 1 none 0 := ⟨List.mem_of_getElem? (i := 167) (by decide +kernel), ini1, by decide +kernel, by decide +kernel⟩
theorem imX1_init : Cond.instanceMethod yX1_init ∈ lw_tbl := List.mem_of_getElem? (i := 166) (by decide +kernel)
theorem clX9_init : hCl yX9_init cX9_init 1 none 0 := ⟨List.mem_of_getElem? (i := 192) (by decide +kernel), ini9, by decide +kernel, by decide +kernel⟩
theorem imX9_init : Cond.instanceMethod yX9_init ∈ lw_tbl := List.mem_of_getElem? (i := 191) (by decide +kernel)
theorem clX2_init : hCl yX2_init cX2_init 1 none 0 := ⟨List.mem_of_getElem? (i := 223) (by decide +kernel), ini2, by decide +kernel, by decide +kernel⟩
theorem imX2_init : Cond.instanceMethod yX2_init ∈ lw_tbl := List.mem_of_getElem? (i := 222) (by decide +kernel)
theorem clX4_init : hCl yX4_init cX4_init 2 none 0 := ⟨List.mem_of_getElem? (i := 245) (by decide +kernel), ini4, by decide +kernel, by decide +kernel⟩
theorem imX4_init : Cond.instanceMethod yX4_init ∈ lw_tbl := List.mem_of_getElem? (i := 244) (by decide +kernel)
theorem clX6_init : hCl yX6_init cX6_init 1 none 0 := ⟨List.mem_of_getElem? (i := 252) (by decide +kernel), ini6, by decide +kernel, by decide +kernel⟩
theorem imX6_init : Cond.instanceMethod yX6_init ∈ lw_tbl := List.mem_of_getElem? (i := 251) (by decide +kernel)
theorem clX5_init : hCl yX5_init cX5_init 1 none 0 := ⟨List.mem_of_getElem? (i := 343) (by decide +kernel), ini5, by decide +kernel, by decide +kernel⟩
theorem imX5_init : Cond.instanceMethod yX5_init ∈ lw_tbl := List.mem_of_getElem? (i := 342) (by decide +kernel)
theorem clX7_init : hCl yX7_init cX7_init 1 none 0 := ⟨List.mem_of_getElem? (i := 380) (by decide +kernel), ini7, by decide +kernel, by decide +kernel⟩
theorem imX7_init : Cond.instanceMethod yX7_init ∈ lw_tbl := List.mem_of_getElem? (i := 379) (by decide +kernel)
theorem clX11_clock : hCl yX11_clock cX11_clock 2 (some .boolean) 1 := ⟨List.mem_of_getElem? (i := 460) (by decide +kernel), ini11, by decide +kernel, by decide +kernel⟩
theorem ivX11_clock : hIv yX11_clock := ⟨List.mem_of_getElem? (i := 458) (by decide +kernel), List.mem_of_getElem? (i := 459) (by decide +kernel)⟩
theorem clX11_isWithin : hCl yX11_isWithin cX11_isWithin 3 (some .boolean) 3 := ⟨List.mem_of_getElem? (i := 463) (by decide +kernel), ini11, by decide +kernel, by decide +kernel⟩
theorem stX11_isWithin : Cond.static yX11_isWithin ∈ lw_tbl := List.mem_of_getElem? (i := 462) (by decide +kernel)
theorem clX11_trust : hCl yX11_trust cX11_trust 3 (some .int) 2 := ⟨List.mem_of_getElem? (i := 467) (by decide +kernel), ini11, by decide +kernel, by decide +kernel⟩
theorem ivX11_trust : hIv yX11_trust := ⟨List.mem_of_getElem? (i := 465) (by decide +kernel), List.mem_of_getElem? (i := 466) (by decide +kernel)⟩
theorem clX8_setTrust : hCl yX8_setTrust cX8_setTrust 4 (some .int) 2 := ⟨List.mem_of_getElem? (i := 471) (by decide +kernel), ini8, by decide +kernel, by decide +kernel⟩
theorem ivX8_setTrust : hIv yX8_setTrust := ⟨List.mem_of_getElem? (i := 469) (by decide +kernel), List.mem_of_getElem? (i := 470) (by decide +kernel)⟩
theorem clX11_says : hCl yX11_says cX11_says 8 (some .int) 5 := ⟨List.mem_of_getElem? (i := 475) (by decide +kernel), ini11, by decide +kernel, by decide +kernel⟩
theorem ivX11_says : hIv yX11_says := ⟨List.mem_of_getElem? (i := 473) (by decide +kernel), List.mem_of_getElem? (i := 474) (by decide +kernel)⟩
theorem clX11_isThing : hCl yX11_isThing cX11_isThing 1 (some .boolean) 1 := ⟨List.mem_of_getElem? (i := 478) (by decide +kernel), ini11, by decide +kernel, by decide +kernel⟩
theorem stX11_isThing : Cond.static yX11_isThing ∈ lw_tbl := List.mem_of_getElem? (i := 477) (by decide +kernel)
theorem clX8_add : hCl yX8_add cX8_add 6 (some .int) 5 := ⟨List.mem_of_getElem? (i := 482) (by decide +kernel), ini8, by decide +kernel, by decide +kernel⟩
theorem ivX8_add : hIv yX8_add := ⟨List.mem_of_getElem? (i := 480) (by decide +kernel), List.mem_of_getElem? (i := 481) (by decide +kernel)⟩
theorem clX11_believed : hCl yX11_believed cX11_believed 2 (some .int) 1 := ⟨List.mem_of_getElem? (i := 486) (by decide +kernel), ini11, by decide +kernel, by decide +kernel⟩
theorem ivX11_believed : hIv yX11_believed := ⟨List.mem_of_getElem? (i := 484) (by decide +kernel), List.mem_of_getElem? (i := 485) (by decide +kernel)⟩
theorem clX8_has : hCl yX8_has cX8_has 2 (some .boolean) 1 := ⟨List.mem_of_getElem? (i := 490) (by decide +kernel), ini8, by decide +kernel, by decide +kernel⟩
theorem ivX8_has : hIv yX8_has := ⟨List.mem_of_getElem? (i := 488) (by decide +kernel), List.mem_of_getElem? (i := 489) (by decide +kernel)⟩
theorem clX8_believes : hCl yX8_believes cX8_believes 2 (some .boolean) 1 := ⟨List.mem_of_getElem? (i := 495) (by decide +kernel), ini8, by decide +kernel, by decide +kernel⟩
theorem ivX8_believes : hIv yX8_believes := ⟨List.mem_of_getElem? (i := 493) (by decide +kernel), List.mem_of_getElem? (i := 494) (by decide +kernel)⟩
theorem clX8_settleBelief : hCl yX8_settleBelief cX8_settleBelief 3 none 0 := ⟨List.mem_of_getElem? (i := 499) (by decide +kernel), ini8, by decide +kernel, by decide +kernel⟩
theorem ivX8_settleBelief : hIv yX8_settleBelief := ⟨List.mem_of_getElem? (i := 498) (by decide +kernel), List.mem_of_getElem? (i := 0) (by decide +kernel)⟩
theorem clX0_clear : hCl yX0_clear cX0_clear 2 none 0 := ⟨List.mem_of_getElem? (i := 503) (by decide +kernel), ini0, by decide +kernel, by decide +kernel⟩
theorem ivX0_clear : hIv yX0_clear := ⟨List.mem_of_getElem? (i := 501) (by decide +kernel), List.mem_of_getElem? (i := 502) (by decide +kernel)⟩
theorem clX8_takes : hCl yX8_takes cX8_takes 3 (some .boolean) 2 := ⟨List.mem_of_getElem? (i := 509) (by decide +kernel), ini8, by decide +kernel, by decide +kernel⟩
theorem ivX8_takes : hIv yX8_takes := ⟨List.mem_of_getElem? (i := 508) (by decide +kernel), List.mem_of_getElem? (i := 1) (by decide +kernel)⟩
theorem clX0_narrow : hCl yX0_narrow cX0_narrow 5 (some .boolean) 4 := ⟨List.mem_of_getElem? (i := 513) (by decide +kernel), ini0, by decide +kernel, by decide +kernel⟩
theorem ivX0_narrow : hIv yX0_narrow := ⟨List.mem_of_getElem? (i := 511) (by decide +kernel), List.mem_of_getElem? (i := 512) (by decide +kernel)⟩
theorem clX0_limit : hCl yX0_limit cX0_limit 8 none 3 := ⟨List.mem_of_getElem? (i := 517) (by decide +kernel), ini0, by decide +kernel, by decide +kernel⟩
theorem ivX0_limit : hIv yX0_limit := ⟨List.mem_of_getElem? (i := 516) (by decide +kernel), List.mem_of_getElem? (i := 2) (by decide +kernel)⟩
theorem clX11_spans : hCl yX11_spans cX11_spans 4 (some .int) 3 := ⟨List.mem_of_getElem? (i := 521) (by decide +kernel), ini11, by decide +kernel, by decide +kernel⟩
theorem ivX11_spans : hIv yX11_spans := ⟨List.mem_of_getElem? (i := 519) (by decide +kernel), List.mem_of_getElem? (i := 520) (by decide +kernel)⟩
theorem clX8_leastSpan : hCl yX8_leastSpan cX8_leastSpan 3 (some .int) 2 := ⟨List.mem_of_getElem? (i := 526) (by decide +kernel), ini8, by decide +kernel, by decide +kernel⟩
theorem ivX8_leastSpan : hIv yX8_leastSpan := ⟨List.mem_of_getElem? (i := 524) (by decide +kernel), List.mem_of_getElem? (i := 525) (by decide +kernel)⟩
theorem clX0_least : hCl yX0_least cX0_least 4 (some .int) 2 := ⟨List.mem_of_getElem? (i := 530) (by decide +kernel), ini0, by decide +kernel, by decide +kernel⟩
theorem ivX0_least : hIv yX0_least := ⟨List.mem_of_getElem? (i := 528) (by decide +kernel), List.mem_of_getElem? (i := 529) (by decide +kernel)⟩
theorem clX8_greatestSpan : hCl yX8_greatestSpan cX8_greatestSpan 3 (some .int) 2 := ⟨List.mem_of_getElem? (i := 535) (by decide +kernel), ini8, by decide +kernel, by decide +kernel⟩
theorem ivX8_greatestSpan : hIv yX8_greatestSpan := ⟨List.mem_of_getElem? (i := 533) (by decide +kernel), List.mem_of_getElem? (i := 534) (by decide +kernel)⟩
theorem clX0_greatest : hCl yX0_greatest cX0_greatest 4 (some .int) 2 := ⟨List.mem_of_getElem? (i := 539) (by decide +kernel), ini0, by decide +kernel, by decide +kernel⟩
theorem ivX0_greatest : hIv yX0_greatest := ⟨List.mem_of_getElem? (i := 537) (by decide +kernel), List.mem_of_getElem? (i := 538) (by decide +kernel)⟩
theorem clX11_quarrel : hCl yX11_quarrel cX11_quarrel 1 (some .int) 0 := ⟨List.mem_of_getElem? (i := 543) (by decide +kernel), ini11, by decide +kernel, by decide +kernel⟩
theorem ivX11_quarrel : hIv yX11_quarrel := ⟨List.mem_of_getElem? (i := 541) (by decide +kernel), List.mem_of_getElem? (i := 542) (by decide +kernel)⟩
theorem clX8_quarrelSize : hCl yX8_quarrelSize cX8_quarrelSize 1 (some .int) 0 := ⟨List.mem_of_getElem? (i := 547) (by decide +kernel), ini8, by decide +kernel, by decide +kernel⟩
theorem ivX8_quarrelSize : hIv yX8_quarrelSize := ⟨List.mem_of_getElem? (i := 545) (by decide +kernel), List.mem_of_getElem? (i := 546) (by decide +kernel)⟩
theorem clX8_settleQuarrel : hCl yX8_settleQuarrel cX8_settleQuarrel 3 none 0 := ⟨List.mem_of_getElem? (i := 551) (by decide +kernel), ini8, by decide +kernel, by decide +kernel⟩
theorem ivX8_settleQuarrel : hIv yX8_settleQuarrel := ⟨List.mem_of_getElem? (i := 550) (by decide +kernel), List.mem_of_getElem? (i := 3) (by decide +kernel)⟩
theorem clX8_firstToBreak : hCl yX8_firstToBreak cX8_firstToBreak 3 (some .int) 1 := ⟨List.mem_of_getElem? (i := 555) (by decide +kernel), ini8, by decide +kernel, by decide +kernel⟩
theorem ivX8_firstToBreak : hIv yX8_firstToBreak := ⟨List.mem_of_getElem? (i := 554) (by decide +kernel), List.mem_of_getElem? (i := 4) (by decide +kernel)⟩
theorem clX11_quarrels : hCl yX11_quarrels cX11_quarrels 2 (some .int) 1 := ⟨List.mem_of_getElem? (i := 559) (by decide +kernel), ini11, by decide +kernel, by decide +kernel⟩
theorem ivX11_quarrels : hIv yX11_quarrels := ⟨List.mem_of_getElem? (i := 557) (by decide +kernel), List.mem_of_getElem? (i := 558) (by decide +kernel)⟩
theorem clX8_quarrelling : hCl yX8_quarrelling cX8_quarrelling 4 (some .int) 1 := ⟨List.mem_of_getElem? (i := 563) (by decide +kernel), ini8, by decide +kernel, by decide +kernel⟩
theorem ivX8_quarrelling : hIv yX8_quarrelling := ⟨List.mem_of_getElem? (i := 561) (by decide +kernel), List.mem_of_getElem? (i := 562) (by decide +kernel)⟩
theorem clX11_value : hCl yX11_value cX11_value 6 (some .int) 4 := ⟨List.mem_of_getElem? (i := 567) (by decide +kernel), ini11, by decide +kernel, by decide +kernel⟩
theorem ivX11_value : hIv yX11_value := ⟨List.mem_of_getElem? (i := 565) (by decide +kernel), List.mem_of_getElem? (i := 566) (by decide +kernel)⟩
theorem clX11_isGood : hCl yX11_isGood cX11_isGood 1 (some .boolean) 1 := ⟨List.mem_of_getElem? (i := 571) (by decide +kernel), ini11, by decide +kernel, by decide +kernel⟩
theorem stX11_isGood : Cond.static yX11_isGood ∈ lw_tbl := List.mem_of_getElem? (i := 570) (by decide +kernel)
theorem clX11_isDay : hCl yX11_isDay cX11_isDay 1 (some .boolean) 1 := ⟨List.mem_of_getElem? (i := 574) (by decide +kernel), ini11, by decide +kernel, by decide +kernel⟩
theorem stX11_isDay : Cond.static yX11_isDay ∈ lw_tbl := List.mem_of_getElem? (i := 573) (by decide +kernel)
theorem clJ9_max_7cf53 : hCl yJ9_max_7cf53 cJ9_max_7cf53 2 (some .int) 2 := ⟨List.mem_of_getElem? (i := 577) (by decide +kernel), iniJ9, by decide +kernel, by decide +kernel⟩
theorem stJ9_max_7cf53 : Cond.static yJ9_max_7cf53 ∈ lw_tbl := List.mem_of_getElem? (i := 576) (by decide +kernel)
theorem clX3_add : hCl yX3_add cX3_add 5 (some .int) 4 := ⟨List.mem_of_getElem? (i := 581) (by decide +kernel), ini3, by decide +kernel, by decide +kernel⟩
theorem ivX3_add : hIv yX3_add := ⟨List.mem_of_getElem? (i := 579) (by decide +kernel), List.mem_of_getElem? (i := 580) (by decide +kernel)⟩
theorem clX10_set : hCl yX10_set cX10_set 4 none 3 := ⟨List.mem_of_getElem? (i := 585) (by decide +kernel), ini10, by decide +kernel, by decide +kernel⟩
theorem ivX10_set : hIv yX10_set := ⟨List.mem_of_getElem? (i := 583) (by decide +kernel), List.mem_of_getElem? (i := 584) (by decide +kernel)⟩
theorem clX11_earlier : hCl yX11_earlier cX11_earlier 4 (some .int) 3 := ⟨List.mem_of_getElem? (i := 589) (by decide +kernel), ini11, by decide +kernel, by decide +kernel⟩
theorem ivX11_earlier : hIv yX11_earlier := ⟨List.mem_of_getElem? (i := 587) (by decide +kernel), List.mem_of_getElem? (i := 588) (by decide +kernel)⟩
theorem clX1_add : hCl yX1_add cX1_add 5 (some .int) 4 := ⟨List.mem_of_getElem? (i := 594) (by decide +kernel), ini1, by decide +kernel, by decide +kernel⟩
theorem ivX1_add : hIv yX1_add := ⟨List.mem_of_getElem? (i := 592) (by decide +kernel), List.mem_of_getElem? (i := 593) (by decide +kernel)⟩
theorem clX11_overrule : hCl yX11_overrule cX11_overrule 3 (some .boolean) 2 := ⟨List.mem_of_getElem? (i := 599) (by decide +kernel), ini11, by decide +kernel, by decide +kernel⟩
theorem ivX11_overrule : hIv yX11_overrule := ⟨List.mem_of_getElem? (i := 597) (by decide +kernel), List.mem_of_getElem? (i := 598) (by decide +kernel)⟩
theorem clX1_setOverruled : hCl yX1_setOverruled cX1_setOverruled 4 (some .boolean) 3 := ⟨List.mem_of_getElem? (i := 603) (by decide +kernel), ini1, by decide +kernel, by decide +kernel⟩
theorem ivX1_setOverruled : hIv yX1_setOverruled := ⟨List.mem_of_getElem? (i := 601) (by decide +kernel), List.mem_of_getElem? (i := 602) (by decide +kernel)⟩
theorem clX10_isSet : hCl yX10_isSet cX10_isSet 2 (some .boolean) 1 := ⟨List.mem_of_getElem? (i := 608) (by decide +kernel), ini10, by decide +kernel, by decide +kernel⟩
theorem ivX10_isSet : hIv yX10_isSet := ⟨List.mem_of_getElem? (i := 606) (by decide +kernel), List.mem_of_getElem? (i := 607) (by decide +kernel)⟩
theorem clX11_suit : hCl yX11_suit cX11_suit 3 (some .boolean) 2 := ⟨List.mem_of_getElem? (i := 612) (by decide +kernel), ini11, by decide +kernel, by decide +kernel⟩
theorem ivX11_suit : hIv yX11_suit := ⟨List.mem_of_getElem? (i := 610) (by decide +kernel), List.mem_of_getElem? (i := 611) (by decide +kernel)⟩
theorem clX11_feed : hCl yX11_feed cX11_feed 6 (some .int) 5 := ⟨List.mem_of_getElem? (i := 616) (by decide +kernel), ini11, by decide +kernel, by decide +kernel⟩
theorem ivX11_feed : hIv yX11_feed := ⟨List.mem_of_getElem? (i := 614) (by decide +kernel), List.mem_of_getElem? (i := 615) (by decide +kernel)⟩
theorem clX9_append : hCl yX9_append cX9_append 3 none 1 := ⟨List.mem_of_getElem? (i := 620) (by decide +kernel), ini9, by decide +kernel, by decide +kernel⟩
theorem ivX9_append : hIv yX9_append := ⟨List.mem_of_getElem? (i := 618) (by decide +kernel), List.mem_of_getElem? (i := 619) (by decide +kernel)⟩
theorem clX11_end : hCl yX11_end cX11_end 2 (some .int) 1 := ⟨List.mem_of_getElem? (i := 624) (by decide +kernel), ini11, by decide +kernel, by decide +kernel⟩
theorem ivX11_end : hIv yX11_end := ⟨List.mem_of_getElem? (i := 622) (by decide +kernel), List.mem_of_getElem? (i := 623) (by decide +kernel)⟩
theorem clX11_law : hCl yX11_law cX11_law 3 (some .int) 1 := ⟨List.mem_of_getElem? (i := 628) (by decide +kernel), ini11, by decide +kernel, by decide +kernel⟩
theorem ivX11_law : hIv yX11_law := ⟨List.mem_of_getElem? (i := 626) (by decide +kernel), List.mem_of_getElem? (i := 627) (by decide +kernel)⟩
theorem clX9_readInto : hCl yX9_readInto cX9_readInto 3 (some .int) 1 := ⟨List.mem_of_getElem? (i := 632) (by decide +kernel), ini9, by decide +kernel, by decide +kernel⟩
theorem ivX9_readInto : hIv yX9_readInto := ⟨List.mem_of_getElem? (i := 630) (by decide +kernel), List.mem_of_getElem? (i := 631) (by decide +kernel)⟩
theorem clX5_clear : hCl yX5_clear cX5_clear 1 none 0 := ⟨List.mem_of_getElem? (i := 636) (by decide +kernel), ini5, by decide +kernel, by decide +kernel⟩
theorem ivX5_clear : hIv yX5_clear := ⟨List.mem_of_getElem? (i := 634) (by decide +kernel), List.mem_of_getElem? (i := 635) (by decide +kernel)⟩
theorem clX9_skipBlanks : hCl yX9_skipBlanks cX9_skipBlanks 1 none 0 := ⟨List.mem_of_getElem? (i := 641) (by decide +kernel), ini9, by decide +kernel, by decide +kernel⟩
theorem ivX9_skipBlanks : hIv yX9_skipBlanks := ⟨List.mem_of_getElem? (i := 640) (by decide +kernel), List.mem_of_getElem? (i := 5) (by decide +kernel)⟩
theorem clX9_readClause : hCl yX9_readClause cX9_readClause 3 none 1 := ⟨List.mem_of_getElem? (i := 645) (by decide +kernel), ini9, by decide +kernel, by decide +kernel⟩
theorem ivX9_readClause : hIv yX9_readClause := ⟨List.mem_of_getElem? (i := 644) (by decide +kernel), List.mem_of_getElem? (i := 6) (by decide +kernel)⟩
theorem clX9_readWord : hCl yX9_readWord cX9_readWord 3 (some .int) 1 := ⟨List.mem_of_getElem? (i := 650) (by decide +kernel), ini9, by decide +kernel, by decide +kernel⟩
theorem ivX9_readWord : hIv yX9_readWord := ⟨List.mem_of_getElem? (i := 649) (by decide +kernel), List.mem_of_getElem? (i := 7) (by decide +kernel)⟩
theorem clX9_isBetween : hCl yX9_isBetween cX9_isBetween 3 (some .boolean) 3 := ⟨List.mem_of_getElem? (i := 653) (by decide +kernel), ini9, by decide +kernel, by decide +kernel⟩
theorem stX9_isBetween : Cond.static yX9_isBetween ∈ lw_tbl := List.mem_of_getElem? (i := 652) (by decide +kernel)
theorem clX9_numberOfWord : hCl yX9_numberOfWord cX9_numberOfWord 7 (some .int) 1 := ⟨List.mem_of_getElem? (i := 657) (by decide +kernel), ini9, by decide +kernel, by decide +kernel⟩
theorem ivX9_numberOfWord : hIv yX9_numberOfWord := ⟨List.mem_of_getElem? (i := 656) (by decide +kernel), List.mem_of_getElem? (i := 8) (by decide +kernel)⟩
theorem clJ0_length_8abf5 : hCl yJ0_length_8abf5 cJ0_length_8abf5 1 (some .int) 0 := ⟨List.mem_of_getElem? (i := 661) (by decide +kernel), iniJ0, by decide +kernel, by decide +kernel⟩
theorem ivJ0_length_8abf5 : hIv yJ0_length_8abf5 := ⟨List.mem_of_getElem? (i := 659) (by decide +kernel), List.mem_of_getElem? (i := 660) (by decide +kernel)⟩
theorem clJ0_coder_7d493 : hCl yJ0_coder_7d493 cJ0_coder_7d493 1 (some .byte) 0 := ⟨List.mem_of_getElem? (i := 665) (by decide +kernel), iniJ0, by decide +kernel, by decide +kernel⟩
theorem ivJ0_coder_7d493 : hIv yJ0_coder_7d493 := ⟨List.mem_of_getElem? (i := 663) (by decide +kernel), List.mem_of_getElem? (i := 664) (by decide +kernel)⟩
theorem clJ0_charAt_5068e : hCl yJ0_charAt_5068e cJ0_charAt_5068e 2 (some .char) 1 := ⟨List.mem_of_getElem? (i := 671) (by decide +kernel), iniJ0, by decide +kernel, by decide +kernel⟩
theorem ivJ0_charAt_5068e : hIv yJ0_charAt_5068e := ⟨List.mem_of_getElem? (i := 669) (by decide +kernel), List.mem_of_getElem? (i := 670) (by decide +kernel)⟩
theorem clJ0_isLatin1_aae02 : hCl yJ0_isLatin1_aae02 cJ0_isLatin1_aae02 1 (some .boolean) 0 := ⟨List.mem_of_getElem? (i := 675) (by decide +kernel), iniJ0, by decide +kernel, by decide +kernel⟩
theorem ivJ0_isLatin1_aae02 : hIv yJ0_isLatin1_aae02 := ⟨List.mem_of_getElem? (i := 673) (by decide +kernel), List.mem_of_getElem? (i := 674) (by decide +kernel)⟩
theorem clJ1_charAt_3b067 : hCl yJ1_charAt_3b067 cJ1_charAt_3b067 2 (some .char) 2 := ⟨List.mem_of_getElem? (i := 678) (by decide +kernel), iniJ1, by decide +kernel, by decide +kernel⟩
theorem stJ1_charAt_3b067 : Cond.static yJ1_charAt_3b067 ∈ lw_tbl := List.mem_of_getElem? (i := 677) (by decide +kernel)
theorem clJ0_checkIndex_df160 : hCl yJ0_checkIndex_df160 cJ0_checkIndex_df160 2 none 2 := ⟨List.mem_of_getElem? (i := 681) (by decide +kernel), iniJ0, by decide +kernel, by decide +kernel⟩
theorem stJ0_checkIndex_df160 : Cond.static yJ0_checkIndex_df160 ∈ lw_tbl := List.mem_of_getElem? (i := 680) (by decide +kernel)
theorem clJ3_checkIndex_8e157 : hCl yJ3_checkIndex_8e157 cJ3_checkIndex_8e157 3 (some .int) 3 := ⟨List.mem_of_getElem? (i := 686) (by decide +kernel), iniJ3, by decide +kernel, by decide +kernel⟩
theorem stJ3_checkIndex_8e157 : Cond.static yJ3_checkIndex_8e157 ∈ lw_tbl := List.mem_of_getElem? (i := 685) (by decide +kernel)
theorem clJ2_charAt_3b067 : hCl yJ2_charAt_3b067 cJ2_charAt_3b067 2 (some .char) 2 := ⟨List.mem_of_getElem? (i := 689) (by decide +kernel), iniJ2, by decide +kernel, by decide +kernel⟩
theorem stJ2_charAt_3b067 : Cond.static yJ2_charAt_3b067 ∈ lw_tbl := List.mem_of_getElem? (i := 688) (by decide +kernel)
theorem clJ2_checkIndex_2214a : hCl yJ2_checkIndex_2214a cJ2_checkIndex_2214a 2 none 2 := ⟨List.mem_of_getElem? (i := 692) (by decide +kernel), iniJ2, by decide +kernel, by decide +kernel⟩
theorem stJ2_checkIndex_2214a : Cond.static yJ2_checkIndex_2214a ∈ lw_tbl := List.mem_of_getElem? (i := 691) (by decide +kernel)
theorem clJ2_length_9d52b : hCl yJ2_length_9d52b cJ2_length_9d52b 1 (some .int) 1 := ⟨List.mem_of_getElem? (i := 695) (by decide +kernel), iniJ2, by decide +kernel, by decide +kernel⟩
theorem stJ2_length_9d52b : Cond.static yJ2_length_9d52b ∈ lw_tbl := List.mem_of_getElem? (i := 694) (by decide +kernel)
theorem clJ2_getChar_3b067 : hCl yJ2_getChar_3b067 cJ2_getChar_3b067 2 (some .char) 2 := ⟨List.mem_of_getElem? (i := 699) (by decide +kernel), iniJ2, by decide +kernel, by decide +kernel⟩
theorem stJ2_getChar_3b067 : Cond.static yJ2_getChar_3b067 ∈ lw_tbl := List.mem_of_getElem? (i := 698) (by decide +kernel)
theorem clX9_refuse : hCl yX9_refuse cX9_refuse 3 none 2 := ⟨List.mem_of_getElem? (i := 709) (by decide +kernel), ini9, by decide +kernel, by decide +kernel⟩
theorem ivX9_refuse : hIv yX9_refuse := ⟨List.mem_of_getElem? (i := 708) (by decide +kernel), List.mem_of_getElem? (i := 9) (by decide +kernel)⟩
theorem clX9_tellOnce : hCl yX9_tellOnce cX9_tellOnce 2 none 1 := ⟨List.mem_of_getElem? (i := 713) (by decide +kernel), ini9, by decide +kernel, by decide +kernel⟩
theorem ivX9_tellOnce : hIv yX9_tellOnce := ⟨List.mem_of_getElem? (i := 712) (by decide +kernel), List.mem_of_getElem? (i := 10) (by decide +kernel)⟩
theorem clX9_readWeight : hCl yX9_readWeight cX9_readWeight 3 none 1 := ⟨List.mem_of_getElem? (i := 717) (by decide +kernel), ini9, by decide +kernel, by decide +kernel⟩
theorem ivX9_readWeight : hIv yX9_readWeight := ⟨List.mem_of_getElem? (i := 716) (by decide +kernel), List.mem_of_getElem? (i := 11) (by decide +kernel)⟩
theorem clX9_readNumber : hCl yX9_readNumber cX9_readNumber 4 (some .int) 1 := ⟨List.mem_of_getElem? (i := 722) (by decide +kernel), ini9, by decide +kernel, by decide +kernel⟩
theorem ivX9_readNumber : hIv yX9_readNumber := ⟨List.mem_of_getElem? (i := 721) (by decide +kernel), List.mem_of_getElem? (i := 12) (by decide +kernel)⟩
theorem clX9_readSemicolon : hCl yX9_readSemicolon cX9_readSemicolon 1 none 0 := ⟨List.mem_of_getElem? (i := 728) (by decide +kernel), ini9, by decide +kernel, by decide +kernel⟩
theorem ivX9_readSemicolon : hIv yX9_readSemicolon := ⟨List.mem_of_getElem? (i := 727) (by decide +kernel), List.mem_of_getElem? (i := 13) (by decide +kernel)⟩
theorem clX11_sheet : hCl yX11_sheet cX11_sheet 11 (some .boolean) 5 := ⟨List.mem_of_getElem? (i := 733) (by decide +kernel), ini11, by decide +kernel, by decide +kernel⟩
theorem ivX11_sheet : hIv yX11_sheet := ⟨List.mem_of_getElem? (i := 731) (by decide +kernel), List.mem_of_getElem? (i := 732) (by decide +kernel)⟩
theorem clX11_handWeight : hCl yX11_handWeight cX11_handWeight 12 (some .int) 5 := ⟨List.mem_of_getElem? (i := 736) (by decide +kernel), ini11, by decide +kernel, by decide +kernel⟩
theorem stX11_handWeight : Cond.static yX11_handWeight ∈ lw_tbl := List.mem_of_getElem? (i := 735) (by decide +kernel)
theorem clX2_clear : hCl yX2_clear cX2_clear 1 none 0 := ⟨List.mem_of_getElem? (i := 740) (by decide +kernel), ini2, by decide +kernel, by decide +kernel⟩
theorem ivX2_clear : hIv yX2_clear := ⟨List.mem_of_getElem? (i := 738) (by decide +kernel), List.mem_of_getElem? (i := 739) (by decide +kernel)⟩
theorem clX2_add : hCl yX2_add cX2_add 2 none 1 := ⟨List.mem_of_getElem? (i := 744) (by decide +kernel), ini2, by decide +kernel, by decide +kernel⟩
theorem ivX2_add : hIv yX2_add := ⟨List.mem_of_getElem? (i := 742) (by decide +kernel), List.mem_of_getElem? (i := 743) (by decide +kernel)⟩
theorem clX11_ship : hCl yX11_ship cX11_ship 10 (some .int) 6 := ⟨List.mem_of_getElem? (i := 748) (by decide +kernel), ini11, by decide +kernel, by decide +kernel⟩
theorem ivX11_ship : hIv yX11_ship := ⟨List.mem_of_getElem? (i := 746) (by decide +kernel), List.mem_of_getElem? (i := 747) (by decide +kernel)⟩
theorem clX2_copy : hCl yX2_copy cX2_copy 3 none 1 := ⟨List.mem_of_getElem? (i := 752) (by decide +kernel), ini2, by decide +kernel, by decide +kernel⟩
theorem ivX2_copy : hIv yX2_copy := ⟨List.mem_of_getElem? (i := 750) (by decide +kernel), List.mem_of_getElem? (i := 751) (by decide +kernel)⟩
theorem clX11_judge : hCl yX11_judge cX11_judge 5 (some .int) 2 := ⟨List.mem_of_getElem? (i := 758) (by decide +kernel), ini11, by decide +kernel, by decide +kernel⟩
theorem ivX11_judge : hIv yX11_judge := ⟨List.mem_of_getElem? (i := 756) (by decide +kernel), List.mem_of_getElem? (i := 757) (by decide +kernel)⟩
theorem clX10_latestOf : hCl yX10_latestOf cX10_latestOf 6 (some .int) 3 := ⟨List.mem_of_getElem? (i := 762) (by decide +kernel), ini10, by decide +kernel, by decide +kernel⟩
theorem ivX10_latestOf : hIv yX10_latestOf := ⟨List.mem_of_getElem? (i := 760) (by decide +kernel), List.mem_of_getElem? (i := 761) (by decide +kernel)⟩
theorem clX10_holds : hCl yX10_holds cX10_holds 4 (some .boolean) 3 := ⟨List.mem_of_getElem? (i := 766) (by decide +kernel), ini10, by decide +kernel, by decide +kernel⟩
theorem ivX10_holds : hIv yX10_holds := ⟨List.mem_of_getElem? (i := 764) (by decide +kernel), List.mem_of_getElem? (i := 765) (by decide +kernel)⟩
theorem clX10_supersedes : hCl yX10_supersedes cX10_supersedes 3 (some .boolean) 2 := ⟨List.mem_of_getElem? (i := 770) (by decide +kernel), ini10, by decide +kernel, by decide +kernel⟩
theorem ivX10_supersedes : hIv yX10_supersedes := ⟨List.mem_of_getElem? (i := 768) (by decide +kernel), List.mem_of_getElem? (i := 769) (by decide +kernel)⟩
theorem clX1_findLike : hCl yX1_findLike cX1_findLike 9 (some .int) 5 := ⟨List.mem_of_getElem? (i := 774) (by decide +kernel), ini1, by decide +kernel, by decide +kernel⟩
theorem ivX1_findLike : hIv yX1_findLike := ⟨List.mem_of_getElem? (i := 772) (by decide +kernel), List.mem_of_getElem? (i := 773) (by decide +kernel)⟩
theorem clX5_distance : hCl yX5_distance cX5_distance 7 (some .int) 2 := ⟨List.mem_of_getElem? (i := 779) (by decide +kernel), ini5, by decide +kernel, by decide +kernel⟩
theorem ivX5_distance : hIv yX5_distance := ⟨List.mem_of_getElem? (i := 777) (by decide +kernel), List.mem_of_getElem? (i := 778) (by decide +kernel)⟩
theorem clJ9_abs_0f7a4 : hCl yJ9_abs_0f7a4 cJ9_abs_0f7a4 1 (some .int) 1 := ⟨List.mem_of_getElem? (i := 782) (by decide +kernel), iniJ9, by decide +kernel, by decide +kernel⟩
theorem stJ9_abs_0f7a4 : Cond.static yJ9_abs_0f7a4 ∈ lw_tbl := List.mem_of_getElem? (i := 781) (by decide +kernel)
theorem clX1_sortAwards : hCl yX1_sortAwards cX1_sortAwards 7 none 3 := ⟨List.mem_of_getElem? (i := 786) (by decide +kernel), ini1, by decide +kernel, by decide +kernel⟩
theorem ivX1_sortAwards : hIv yX1_sortAwards := ⟨List.mem_of_getElem? (i := 784) (by decide +kernel), List.mem_of_getElem? (i := 785) (by decide +kernel)⟩
theorem clX5_rateOf : hCl yX5_rateOf cX5_rateOf 5 (some .int) 3 := ⟨List.mem_of_getElem? (i := 790) (by decide +kernel), ini5, by decide +kernel, by decide +kernel⟩
theorem ivX5_rateOf : hIv yX5_rateOf := ⟨List.mem_of_getElem? (i := 788) (by decide +kernel), List.mem_of_getElem? (i := 789) (by decide +kernel)⟩
theorem clX5_givenOf : hCl yX5_givenOf cX5_givenOf 3 (some .int) 2 := ⟨List.mem_of_getElem? (i := 794) (by decide +kernel), ini5, by decide +kernel, by decide +kernel⟩
theorem ivX5_givenOf : hIv yX5_givenOf := ⟨List.mem_of_getElem? (i := 793) (by decide +kernel), List.mem_of_getElem? (i := 14) (by decide +kernel)⟩
theorem clX5_mean : hCl yX5_mean cX5_mean 4 (some .int) 2 := ⟨List.mem_of_getElem? (i := 797) (by decide +kernel), ini5, by decide +kernel, by decide +kernel⟩
theorem stX5_mean : Cond.static yX5_mean ∈ lw_tbl := List.mem_of_getElem? (i := 796) (by decide +kernel)
theorem clJ9_min_7cf53 : hCl yJ9_min_7cf53 cJ9_min_7cf53 2 (some .int) 2 := ⟨List.mem_of_getElem? (i := 800) (by decide +kernel), iniJ9, by decide +kernel, by decide +kernel⟩
theorem stJ9_min_7cf53 : Cond.static yJ9_min_7cf53 ∈ lw_tbl := List.mem_of_getElem? (i := 799) (by decide +kernel)
theorem clX3_worthOfAll : hCl yX3_worthOfAll cX3_worthOfAll 6 (some .long) 2 := ⟨List.mem_of_getElem? (i := 804) (by decide +kernel), ini3, by decide +kernel, by decide +kernel⟩
theorem ivX3_worthOfAll : hIv yX3_worthOfAll := ⟨List.mem_of_getElem? (i := 802) (by decide +kernel), List.mem_of_getElem? (i := 803) (by decide +kernel)⟩
theorem clX3_worthOf : hCl yX3_worthOf cX3_worthOf 7 (some .int) 3 := ⟨List.mem_of_getElem? (i := 808) (by decide +kernel), ini3, by decide +kernel, by decide +kernel⟩
theorem ivX3_worthOf : hIv yX3_worthOf := ⟨List.mem_of_getElem? (i := 806) (by decide +kernel), List.mem_of_getElem? (i := 807) (by decide +kernel)⟩
theorem clX4_weighShips : hCl yX4_weighShips cX4_weighShips 5 none 3 := ⟨List.mem_of_getElem? (i := 814) (by decide +kernel), ini4, by decide +kernel, by decide +kernel⟩
theorem ivX4_weighShips : hIv yX4_weighShips := ⟨List.mem_of_getElem? (i := 812) (by decide +kernel), List.mem_of_getElem? (i := 813) (by decide +kernel)⟩
theorem clX4_partAmongShips : hCl yX4_partAmongShips cX4_partAmongShips 5 none 0 := ⟨List.mem_of_getElem? (i := 820) (by decide +kernel), ini4, by decide +kernel, by decide +kernel⟩
theorem ivX4_partAmongShips : hIv yX4_partAmongShips := ⟨List.mem_of_getElem? (i := 818) (by decide +kernel), List.mem_of_getElem? (i := 819) (by decide +kernel)⟩
theorem clX4_greatestRest : hCl yX4_greatestRest cX4_greatestRest 3 (some .int) 0 := ⟨List.mem_of_getElem? (i := 825) (by decide +kernel), ini4, by decide +kernel, by decide +kernel⟩
theorem ivX4_greatestRest : hIv yX4_greatestRest := ⟨List.mem_of_getElem? (i := 824) (by decide +kernel), List.mem_of_getElem? (i := 15) (by decide +kernel)⟩
theorem clX4_settle : hCl yX4_settle cX4_settle 4 none 2 := ⟨List.mem_of_getElem? (i := 830) (by decide +kernel), ini4, by decide +kernel, by decide +kernel⟩
theorem ivX4_settle : hIv yX4_settle := ⟨List.mem_of_getElem? (i := 828) (by decide +kernel), List.mem_of_getElem? (i := 829) (by decide +kernel)⟩
theorem clX6_loseLate : hCl yX6_loseLate cX6_loseLate 5 none 2 := ⟨List.mem_of_getElem? (i := 834) (by decide +kernel), ini6, by decide +kernel, by decide +kernel⟩
theorem ivX6_loseLate : hIv yX6_loseLate := ⟨List.mem_of_getElem? (i := 832) (by decide +kernel), List.mem_of_getElem? (i := 833) (by decide +kernel)⟩
theorem clJ9_min_f86c9 : hCl yJ9_min_f86c9 cJ9_min_f86c9 4 (some .long) 2 := ⟨List.mem_of_getElem? (i := 839) (by decide +kernel), iniJ9, by decide +kernel, by decide +kernel⟩
theorem stJ9_min_f86c9 : Cond.static yJ9_min_f86c9 ∈ lw_tbl := List.mem_of_getElem? (i := 838) (by decide +kernel)
theorem clX6_pay : hCl yX6_pay cX6_pay 2 none 1 := ⟨List.mem_of_getElem? (i := 843) (by decide +kernel), ini6, by decide +kernel, by decide +kernel⟩
theorem ivX6_pay : hIv yX6_pay := ⟨List.mem_of_getElem? (i := 841) (by decide +kernel), List.mem_of_getElem? (i := 842) (by decide +kernel)⟩
theorem clX6_payHands : hCl yX6_payHands cX6_payHands 5 none 1 := ⟨List.mem_of_getElem? (i := 848) (by decide +kernel), ini6, by decide +kernel, by decide +kernel⟩
theorem ivX6_payHands : hIv yX6_payHands := ⟨List.mem_of_getElem? (i := 847) (by decide +kernel), List.mem_of_getElem? (i := 16) (by decide +kernel)⟩
theorem clX11_judged : hCl yX11_judged cX11_judged 2 (some .long) 1 := ⟨List.mem_of_getElem? (i := 852) (by decide +kernel), ini11, by decide +kernel, by decide +kernel⟩
theorem ivX11_judged : hIv yX11_judged := ⟨List.mem_of_getElem? (i := 850) (by decide +kernel), List.mem_of_getElem? (i := 851) (by decide +kernel)⟩
theorem clX11_like : hCl yX11_like cX11_like 2 (some .int) 1 := ⟨List.mem_of_getElem? (i := 857) (by decide +kernel), ini11, by decide +kernel, by decide +kernel⟩
theorem ivX11_like : hIv yX11_like := ⟨List.mem_of_getElem? (i := 855) (by decide +kernel), List.mem_of_getElem? (i := 856) (by decide +kernel)⟩
theorem clX11_share : hCl yX11_share cX11_share 4 (some .long) 2 := ⟨List.mem_of_getElem? (i := 861) (by decide +kernel), ini11, by decide +kernel, by decide +kernel⟩
theorem ivX11_share : hIv yX11_share := ⟨List.mem_of_getElem? (i := 859) (by decide +kernel), List.mem_of_getElem? (i := 860) (by decide +kernel)⟩
theorem clX11_hand : hCl yX11_hand cX11_hand 4 (some .long) 2 := ⟨List.mem_of_getElem? (i := 865) (by decide +kernel), ini11, by decide +kernel, by decide +kernel⟩
theorem ivX11_hand : hIv yX11_hand := ⟨List.mem_of_getElem? (i := 863) (by decide +kernel), List.mem_of_getElem? (i := 864) (by decide +kernel)⟩
theorem clX11_saved : hCl yX11_saved cX11_saved 4 (some .int) 3 := ⟨List.mem_of_getElem? (i := 869) (by decide +kernel), ini11, by decide +kernel, by decide +kernel⟩
theorem ivX11_saved : hIv yX11_saved := ⟨List.mem_of_getElem? (i := 867) (by decide +kernel), List.mem_of_getElem? (i := 868) (by decide +kernel)⟩
theorem clX11_count : hCl yX11_count cX11_count 2 (some .int) 1 := ⟨List.mem_of_getElem? (i := 874) (by decide +kernel), ini11, by decide +kernel, by decide +kernel⟩
theorem ivX11_count : hIv yX11_count := ⟨List.mem_of_getElem? (i := 872) (by decide +kernel), List.mem_of_getElem? (i := 873) (by decide +kernel)⟩
theorem clX8_howManyBelieved : hCl yX8_howManyBelieved cX8_howManyBelieved 1 (some .int) 0 := ⟨List.mem_of_getElem? (i := 878) (by decide +kernel), ini8, by decide +kernel, by decide +kernel⟩
theorem ivX8_howManyBelieved : hIv yX8_howManyBelieved := ⟨List.mem_of_getElem? (i := 876) (by decide +kernel), List.mem_of_getElem? (i := 877) (by decide +kernel)⟩
theorem clX12_init : hCl yX12_init cX12_init 2 none 0 := ⟨List.mem_of_getElem? (i := 883) (by decide +kernel), ini12, by decide +kernel, by decide +kernel⟩
theorem imX12_init : Cond.instanceMethod yX12_init ∈ lw_tbl := List.mem_of_getElem? (i := 882) (by decide +kernel)
theorem clX12_clock : hCl yX12_clock cX12_clock 2 (some .boolean) 1 := ⟨List.mem_of_getElem? (i := 1069) (by decide +kernel), ini12, by decide +kernel, by decide +kernel⟩
theorem ivX12_clock : hIv yX12_clock := ⟨List.mem_of_getElem? (i := 1067) (by decide +kernel), List.mem_of_getElem? (i := 1068) (by decide +kernel)⟩
theorem clX12_in : hCl yX12_in cX12_in 3 (some .boolean) 3 := ⟨List.mem_of_getElem? (i := 1072) (by decide +kernel), ini12, by decide +kernel, by decide +kernel⟩
theorem stX12_in : Cond.static yX12_in ∈ lw_tbl := List.mem_of_getElem? (i := 1071) (by decide +kernel)
theorem clX12_trust : hCl yX12_trust cX12_trust 4 (some .int) 2 := ⟨List.mem_of_getElem? (i := 1076) (by decide +kernel), ini12, by decide +kernel, by decide +kernel⟩
theorem ivX12_trust : hIv yX12_trust := ⟨List.mem_of_getElem? (i := 1074) (by decide +kernel), List.mem_of_getElem? (i := 1075) (by decide +kernel)⟩
theorem clX12_says : hCl yX12_says cX12_says 6 (some .int) 5 := ⟨List.mem_of_getElem? (i := 1080) (by decide +kernel), ini12, by decide +kernel, by decide +kernel⟩
theorem ivX12_says : hIv yX12_says := ⟨List.mem_of_getElem? (i := 1078) (by decide +kernel), List.mem_of_getElem? (i := 1079) (by decide +kernel)⟩
theorem clX12_believed : hCl yX12_believed cX12_believed 2 (some .int) 1 := ⟨List.mem_of_getElem? (i := 1084) (by decide +kernel), ini12, by decide +kernel, by decide +kernel⟩
theorem ivX12_believed : hIv yX12_believed := ⟨List.mem_of_getElem? (i := 1082) (by decide +kernel), List.mem_of_getElem? (i := 1083) (by decide +kernel)⟩
theorem clX12_believe : hCl yX12_believe cX12_believe 5 none 0 := ⟨List.mem_of_getElem? (i := 1088) (by decide +kernel), ini12, by decide +kernel, by decide +kernel⟩
theorem ivX12_believe : hIv yX12_believe := ⟨List.mem_of_getElem? (i := 1087) (by decide +kernel), List.mem_of_getElem? (i := 17) (by decide +kernel)⟩
theorem clX12_canBe : hCl yX12_canBe cX12_canBe 4 (some .boolean) 0 := ⟨List.mem_of_getElem? (i := 1092) (by decide +kernel), ini12, by decide +kernel, by decide +kernel⟩
theorem ivX12_canBe : hIv yX12_canBe := ⟨List.mem_of_getElem? (i := 1091) (by decide +kernel), List.mem_of_getElem? (i := 18) (by decide +kernel)⟩
theorem clX12_spans : hCl yX12_spans cX12_spans 6 (some .int) 3 := ⟨List.mem_of_getElem? (i := 1097) (by decide +kernel), ini12, by decide +kernel, by decide +kernel⟩
theorem ivX12_spans : hIv yX12_spans := ⟨List.mem_of_getElem? (i := 1095) (by decide +kernel), List.mem_of_getElem? (i := 1096) (by decide +kernel)⟩
theorem clX12_quarrel : hCl yX12_quarrel cX12_quarrel 3 (some .int) 0 := ⟨List.mem_of_getElem? (i := 1102) (by decide +kernel), ini12, by decide +kernel, by decide +kernel⟩
theorem ivX12_quarrel : hIv yX12_quarrel := ⟨List.mem_of_getElem? (i := 1100) (by decide +kernel), List.mem_of_getElem? (i := 1101) (by decide +kernel)⟩
theorem clX12_quarrels : hCl yX12_quarrels cX12_quarrels 5 (some .int) 1 := ⟨List.mem_of_getElem? (i := 1106) (by decide +kernel), ini12, by decide +kernel, by decide +kernel⟩
theorem ivX12_quarrels : hIv yX12_quarrels := ⟨List.mem_of_getElem? (i := 1104) (by decide +kernel), List.mem_of_getElem? (i := 1105) (by decide +kernel)⟩
theorem clX12_value : hCl yX12_value cX12_value 5 (some .int) 4 := ⟨List.mem_of_getElem? (i := 1111) (by decide +kernel), ini12, by decide +kernel, by decide +kernel⟩
theorem ivX12_value : hIv yX12_value := ⟨List.mem_of_getElem? (i := 1109) (by decide +kernel), List.mem_of_getElem? (i := 1110) (by decide +kernel)⟩
theorem clX12_saved : hCl yX12_saved cX12_saved 6 (some .int) 3 := ⟨List.mem_of_getElem? (i := 1116) (by decide +kernel), ini12, by decide +kernel, by decide +kernel⟩
theorem ivX12_saved : hIv yX12_saved := ⟨List.mem_of_getElem? (i := 1114) (by decide +kernel), List.mem_of_getElem? (i := 1115) (by decide +kernel)⟩
theorem clX12_earlier : hCl yX12_earlier cX12_earlier 4 (some .int) 3 := ⟨List.mem_of_getElem? (i := 1120) (by decide +kernel), ini12, by decide +kernel, by decide +kernel⟩
theorem ivX12_earlier : hIv yX12_earlier := ⟨List.mem_of_getElem? (i := 1118) (by decide +kernel), List.mem_of_getElem? (i := 1119) (by decide +kernel)⟩
theorem clX12_overrule : hCl yX12_overrule cX12_overrule 3 (some .boolean) 2 := ⟨List.mem_of_getElem? (i := 1125) (by decide +kernel), ini12, by decide +kernel, by decide +kernel⟩
theorem ivX12_overrule : hIv yX12_overrule := ⟨List.mem_of_getElem? (i := 1123) (by decide +kernel), List.mem_of_getElem? (i := 1124) (by decide +kernel)⟩
theorem clX12_suit : hCl yX12_suit cX12_suit 3 (some .boolean) 2 := ⟨List.mem_of_getElem? (i := 1129) (by decide +kernel), ini12, by decide +kernel, by decide +kernel⟩
theorem ivX12_suit : hIv yX12_suit := ⟨List.mem_of_getElem? (i := 1127) (by decide +kernel), List.mem_of_getElem? (i := 1128) (by decide +kernel)⟩
theorem clX12_feed : hCl yX12_feed cX12_feed 6 (some .int) 5 := ⟨List.mem_of_getElem? (i := 1133) (by decide +kernel), ini12, by decide +kernel, by decide +kernel⟩
theorem ivX12_feed : hIv yX12_feed := ⟨List.mem_of_getElem? (i := 1131) (by decide +kernel), List.mem_of_getElem? (i := 1132) (by decide +kernel)⟩
theorem clX12_put : hCl yX12_put cX12_put 3 none 1 := ⟨List.mem_of_getElem? (i := 1137) (by decide +kernel), ini12, by decide +kernel, by decide +kernel⟩
theorem ivX12_put : hIv yX12_put := ⟨List.mem_of_getElem? (i := 1136) (by decide +kernel), List.mem_of_getElem? (i := 19) (by decide +kernel)⟩
theorem clX12_end : hCl yX12_end cX12_end 2 (some .int) 1 := ⟨List.mem_of_getElem? (i := 1141) (by decide +kernel), ini12, by decide +kernel, by decide +kernel⟩
theorem ivX12_end : hIv yX12_end := ⟨List.mem_of_getElem? (i := 1139) (by decide +kernel), List.mem_of_getElem? (i := 1140) (by decide +kernel)⟩
theorem clX12_law : hCl yX12_law cX12_law 5 (some .int) 1 := ⟨List.mem_of_getElem? (i := 1145) (by decide +kernel), ini12, by decide +kernel, by decide +kernel⟩
theorem ivX12_law : hIv yX12_law := ⟨List.mem_of_getElem? (i := 1143) (by decide +kernel), List.mem_of_getElem? (i := 1144) (by decide +kernel)⟩
theorem clX12_isEnd : hCl yX12_isEnd cX12_isEnd 1 (some .boolean) 0 := ⟨List.mem_of_getElem? (i := 1149) (by decide +kernel), ini12, by decide +kernel, by decide +kernel⟩
theorem ivX12_isEnd : hIv yX12_isEnd := ⟨List.mem_of_getElem? (i := 1148) (by decide +kernel), List.mem_of_getElem? (i := 20) (by decide +kernel)⟩
theorem clX12_clause : hCl yX12_clause cX12_clause 4 none 2 := ⟨List.mem_of_getElem? (i := 1153) (by decide +kernel), ini12, by decide +kernel, by decide +kernel⟩
theorem ivX12_clause : hIv yX12_clause := ⟨List.mem_of_getElem? (i := 1152) (by decide +kernel), List.mem_of_getElem? (i := 21) (by decide +kernel)⟩
theorem clX12_word : hCl yX12_word cX12_word 1 none 0 := ⟨List.mem_of_getElem? (i := 1157) (by decide +kernel), ini12, by decide +kernel, by decide +kernel⟩
theorem ivX12_word : hIv yX12_word := ⟨List.mem_of_getElem? (i := 1156) (by decide +kernel), List.mem_of_getElem? (i := 22) (by decide +kernel)⟩
theorem clX12_fails : hCl yX12_fails cX12_fails 3 none 2 := ⟨List.mem_of_getElem? (i := 1161) (by decide +kernel), ini12, by decide +kernel, by decide +kernel⟩
theorem ivX12_fails : hIv yX12_fails := ⟨List.mem_of_getElem? (i := 1160) (by decide +kernel), List.mem_of_getElem? (i := 23) (by decide +kernel)⟩
theorem clX12_is : hCl yX12_is cX12_is 4 (some .boolean) 1 := ⟨List.mem_of_getElem? (i := 1166) (by decide +kernel), ini12, by decide +kernel, by decide +kernel⟩
theorem ivX12_is : hIv yX12_is := ⟨List.mem_of_getElem? (i := 1165) (by decide +kernel), List.mem_of_getElem? (i := 24) (by decide +kernel)⟩
theorem clX12_markOf : hCl yX12_markOf cX12_markOf 2 (some (.object "java/lang/String")) 1 := ⟨List.mem_of_getElem? (i := 1172) (by decide +kernel), ini12, by decide +kernel, by decide +kernel⟩
theorem ivX12_markOf : hIv yX12_markOf := ⟨List.mem_of_getElem? (i := 1171) (by decide +kernel), List.mem_of_getElem? (i := 25) (by decide +kernel)⟩
theorem clX12_number : hCl yX12_number cX12_number 4 (some .int) 2 := ⟨List.mem_of_getElem? (i := 1181) (by decide +kernel), ini12, by decide +kernel, by decide +kernel⟩
theorem ivX12_number : hIv yX12_number := ⟨List.mem_of_getElem? (i := 1180) (by decide +kernel), List.mem_of_getElem? (i := 26) (by decide +kernel)⟩
theorem clX12_clauseOf : hCl yX12_clauseOf cX12_clauseOf 2 (some (.object "java/lang/String")) 1 := ⟨List.mem_of_getElem? (i := 1185) (by decide +kernel), ini12, by decide +kernel, by decide +kernel⟩
theorem ivX12_clauseOf : hIv yX12_clauseOf := ⟨List.mem_of_getElem? (i := 1184) (by decide +kernel), List.mem_of_getElem? (i := 27) (by decide +kernel)⟩
theorem clX12_gives : hCl yX12_gives cX12_gives 1 (some .int) 0 := ⟨List.mem_of_getElem? (i := 1194) (by decide +kernel), ini12, by decide +kernel, by decide +kernel⟩
theorem ivX12_gives : hIv yX12_gives := ⟨List.mem_of_getElem? (i := 1193) (by decide +kernel), List.mem_of_getElem? (i := 28) (by decide +kernel)⟩
theorem clX12_sheet : hCl yX12_sheet cX12_sheet 14 (some .boolean) 5 := ⟨List.mem_of_getElem? (i := 1203) (by decide +kernel), ini12, by decide +kernel, by decide +kernel⟩
theorem ivX12_sheet : hIv yX12_sheet := ⟨List.mem_of_getElem? (i := 1201) (by decide +kernel), List.mem_of_getElem? (i := 1202) (by decide +kernel)⟩
theorem clX12_ship : hCl yX12_ship cX12_ship 9 (some .int) 6 := ⟨List.mem_of_getElem? (i := 1208) (by decide +kernel), ini12, by decide +kernel, by decide +kernel⟩
theorem ivX12_ship : hIv yX12_ship := ⟨List.mem_of_getElem? (i := 1206) (by decide +kernel), List.mem_of_getElem? (i := 1207) (by decide +kernel)⟩
theorem clX12_judge : hCl yX12_judge cX12_judge 7 (some .int) 2 := ⟨List.mem_of_getElem? (i := 1212) (by decide +kernel), ini12, by decide +kernel, by decide +kernel⟩
theorem ivX12_judge : hIv yX12_judge := ⟨List.mem_of_getElem? (i := 1210) (by decide +kernel), List.mem_of_getElem? (i := 1211) (by decide +kernel)⟩
theorem clX12_distance : hCl yX12_distance cX12_distance 7 (some .int) 2 := ⟨List.mem_of_getElem? (i := 1216) (by decide +kernel), ini12, by decide +kernel, by decide +kernel⟩
theorem ivX12_distance : hIv yX12_distance := ⟨List.mem_of_getElem? (i := 1215) (by decide +kernel), List.mem_of_getElem? (i := 29) (by decide +kernel)⟩
theorem clX12_rated : hCl yX12_rated cX12_rated 7 (some .int) 1 := ⟨List.mem_of_getElem? (i := 1220) (by decide +kernel), ini12, by decide +kernel, by decide +kernel⟩
theorem ivX12_rated : hIv yX12_rated := ⟨List.mem_of_getElem? (i := 1219) (by decide +kernel), List.mem_of_getElem? (i := 30) (by decide +kernel)⟩
theorem clX12_parts : hCl yX12_parts cX12_parts 9 none 1 := ⟨List.mem_of_getElem? (i := 1225) (by decide +kernel), ini12, by decide +kernel, by decide +kernel⟩
theorem ivX12_parts : hIv yX12_parts := ⟨List.mem_of_getElem? (i := 1224) (by decide +kernel), List.mem_of_getElem? (i := 31) (by decide +kernel)⟩
theorem clX12_aboard : hCl yX12_aboard cX12_aboard 13 none 2 := ⟨List.mem_of_getElem? (i := 1230) (by decide +kernel), ini12, by decide +kernel, by decide +kernel⟩
theorem ivX12_aboard : hIv yX12_aboard := ⟨List.mem_of_getElem? (i := 1229) (by decide +kernel), List.mem_of_getElem? (i := 32) (by decide +kernel)⟩
theorem clX12_judged : hCl yX12_judged cX12_judged 2 (some .long) 1 := ⟨List.mem_of_getElem? (i := 1235) (by decide +kernel), ini12, by decide +kernel, by decide +kernel⟩
theorem ivX12_judged : hIv yX12_judged := ⟨List.mem_of_getElem? (i := 1233) (by decide +kernel), List.mem_of_getElem? (i := 1234) (by decide +kernel)⟩
theorem clX12_like : hCl yX12_like cX12_like 2 (some .int) 1 := ⟨List.mem_of_getElem? (i := 1240) (by decide +kernel), ini12, by decide +kernel, by decide +kernel⟩
theorem ivX12_like : hIv yX12_like := ⟨List.mem_of_getElem? (i := 1238) (by decide +kernel), List.mem_of_getElem? (i := 1239) (by decide +kernel)⟩
theorem clX12_share : hCl yX12_share cX12_share 3 (some .long) 2 := ⟨List.mem_of_getElem? (i := 1244) (by decide +kernel), ini12, by decide +kernel, by decide +kernel⟩
theorem ivX12_share : hIv yX12_share := ⟨List.mem_of_getElem? (i := 1242) (by decide +kernel), List.mem_of_getElem? (i := 1243) (by decide +kernel)⟩
theorem clX12_hand : hCl yX12_hand cX12_hand 3 (some .long) 2 := ⟨List.mem_of_getElem? (i := 1248) (by decide +kernel), ini12, by decide +kernel, by decide +kernel⟩
theorem ivX12_hand : hIv yX12_hand := ⟨List.mem_of_getElem? (i := 1246) (by decide +kernel), List.mem_of_getElem? (i := 1247) (by decide +kernel)⟩
theorem clX12_count : hCl yX12_count cX12_count 4 (some .int) 1 := ⟨List.mem_of_getElem? (i := 1252) (by decide +kernel), ini12, by decide +kernel, by decide +kernel⟩
theorem ivX12_count : hIv yX12_count := ⟨List.mem_of_getElem? (i := 1250) (by decide +kernel), List.mem_of_getElem? (i := 1251) (by decide +kernel)⟩
theorem im_obj : Cond.instanceMethod objectInit ∈ lw_tbl := List.mem_of_getElem? (i := 59) (by decide +kernel)
theorem co_obj : Cond.code objectInit ⟨#[0xb1]⟩ 1 none ∈ lw_tbl := List.mem_of_getElem? (i := 60) (by decide +kernel)
