theorem mlk11_122 : Cond.methodLink RX11 122 yJ9_max_7cf53 ∈ lw_tbl := List.mem_of_getElem? (i := 575) (by decide +kernel)
theorem mlk9_102 : Cond.methodLink RX9 102 yJ0_length_8abf5 ∈ lw_tbl := List.mem_of_getElem? (i := 658) (by decide +kernel)
theorem mlkJ0_335 : Cond.methodLink RJ0 335 yJ0_coder_7d493 ∈ lw_tbl := List.mem_of_getElem? (i := 662) (by decide +kernel)
theorem mlk9_107 : Cond.methodLink RX9 107 yJ0_charAt_5068e ∈ lw_tbl := List.mem_of_getElem? (i := 668) (by decide +kernel)
theorem mlkJ0_492 : Cond.methodLink RJ0 492 yJ0_isLatin1_aae02 ∈ lw_tbl := List.mem_of_getElem? (i := 672) (by decide +kernel)
theorem mlkJ0_495 : Cond.methodLink RJ0 495 yJ1_charAt_3b067 ∈ lw_tbl := List.mem_of_getElem? (i := 676) (by decide +kernel)
theorem mlkJ1_9 : Cond.methodLink RJ1 9 yJ0_checkIndex_df160 ∈ lw_tbl := List.mem_of_getElem? (i := 679) (by decide +kernel)
theorem mlkJ0_1059 : Cond.methodLink RJ0 1059 yJ3_checkIndex_8e157 ∈ lw_tbl := List.mem_of_getElem? (i := 684) (by decide +kernel)
theorem mlkJ2_414 : Cond.methodLink RJ2 414 yJ0_checkIndex_df160 ∈ lw_tbl := List.mem_of_getElem? (i := 696) (by decide +kernel)
theorem mlk5_40 : Cond.methodLink RX5 40 yJ9_abs_0f7a4 ∈ lw_tbl := List.mem_of_getElem? (i := 780) (by decide +kernel)
theorem mlk5_50 : Cond.methodLink RX5 50 yJ9_min_7cf53 ∈ lw_tbl := List.mem_of_getElem? (i := 798) (by decide +kernel)
theorem mlk4_50 : Cond.methodLink RX4 50 yJ9_max_7cf53 ∈ lw_tbl := List.mem_of_getElem? (i := 816) (by decide +kernel)
theorem mlk6_21 : Cond.methodLink RX6 21 yJ9_max_7cf53 ∈ lw_tbl := List.mem_of_getElem? (i := 835) (by decide +kernel)
theorem mlk6_36 : Cond.methodLink RX6 36 yJ9_min_f86c9 ∈ lw_tbl := List.mem_of_getElem? (i := 837) (by decide +kernel)
theorem mlk12_189 : Cond.methodLink RX12 189 yJ0_length_8abf5 ∈ lw_tbl := List.mem_of_getElem? (i := 1167) (by decide +kernel)
theorem mlk12_194 : Cond.methodLink RX12 194 yJ0_charAt_5068e ∈ lw_tbl := List.mem_of_getElem? (i := 1168) (by decide +kernel)
section MATH
variable {p : Program} {l : Launch} {e : Env} {R : Room} {s : State} {m : MethodId} {args : Array Value} {below : List Frame} {meth : Method} {c : Code} {H : Heap} {locs : List Loc} {cells slots : Nat} {Q : State → Prop}
variable {cc : ByteArray} {pc nL : Nat} {ls : Array Slot} {rest : List Value} {E : hEnv} {A : Nat → Prop} {own : String} {idx : Nat}
theorem g_mmax (C : hC E A p s m c cc nL own) (hls : ls.size = nL) (lk : Cond.methodLink own idx yJ9_max_7cf53 ∈ lw_tbl) (h1 : 1 ≤ R.frames) (h2 : (rest.map fun v => v.category).sum + 13 ≤ R.locals) (h3 : cells ≤ R.cells) (h4 : slots ≤ R.slots) {x y : Int32} (hdg : decode cc pc = .ok (.invokestatic idx, 3))
    (kk : W p l e R s m args below meth c H locs cells slots Q (F0 m (pc + 3) ls (.int (if x < y then y else x) :: rest))) : W p l e R s m args below meth c H locs cells slots Q (F0 m pc ls (.int y :: .int x :: rest)) :=
  va_mmax C.1 C.2.1 (C.2.2.1.trans hls.symm) C.2.2.2.1 (C.2.2.2.2.1.1.use lk rfl) (C.2.2.2.2.1.1.use stJ9_max_7cf53 rfl) (C.2.2.2.2.1.1.use clJ9_max_7cf53.2.1 rfl) (C.2.2.2.2.1.1.use clJ9_max_7cf53.1 rfl) h1 h2 h3 h4 hdg kk
theorem g_mmin (C : hC E A p s m c cc nL own) (hls : ls.size = nL) (lk : Cond.methodLink own idx yJ9_min_7cf53 ∈ lw_tbl) (h1 : 1 ≤ R.frames) (h2 : (rest.map fun v => v.category).sum + 13 ≤ R.locals) (h3 : cells ≤ R.cells) (h4 : slots ≤ R.slots) {x y : Int32} (hdg : decode cc pc = .ok (.invokestatic idx, 3))
    (kk : W p l e R s m args below meth c H locs cells slots Q (F0 m (pc + 3) ls (.int (if y < x then y else x) :: rest))) : W p l e R s m args below meth c H locs cells slots Q (F0 m pc ls (.int y :: .int x :: rest)) :=
  va_mmin C.1 C.2.1 (C.2.2.1.trans hls.symm) C.2.2.2.1 (C.2.2.2.2.1.1.use lk rfl) (C.2.2.2.2.1.1.use stJ9_min_7cf53 rfl) (C.2.2.2.2.1.1.use clJ9_min_7cf53.2.1 rfl) (C.2.2.2.2.1.1.use clJ9_min_7cf53.1 rfl) h1 h2 h3 h4 hdg kk
theorem g_mabs (C : hC E A p s m c cc nL own) (hls : ls.size = nL) (lk : Cond.methodLink own idx yJ9_abs_0f7a4 ∈ lw_tbl) (h1 : 1 ≤ R.frames) (h2 : (rest.map fun v => v.category).sum + 13 ≤ R.locals) (h3 : cells ≤ R.cells) (h4 : slots ≤ R.slots) {x : Int32} (hdg : decode cc pc = .ok (.invokestatic idx, 3))
    (kk : W p l e R s m args below meth c H locs cells slots Q (F0 m (pc + 3) ls (.int (if 0 ≤ x then x else 0 - x) :: rest))) : W p l e R s m args below meth c H locs cells slots Q (F0 m pc ls (.int x :: rest)) :=
  va_mabs C.1 C.2.1 (C.2.2.1.trans hls.symm) C.2.2.2.1 (C.2.2.2.2.1.1.use lk rfl) (C.2.2.2.2.1.1.use stJ9_abs_0f7a4 rfl) (C.2.2.2.2.1.1.use clJ9_abs_0f7a4.2.1 rfl) (C.2.2.2.2.1.1.use clJ9_abs_0f7a4.1 rfl) h1 h2 h3 h4 hdg kk
theorem g_mminL (C : hC E A p s m c cc nL own) (hls : ls.size = nL) (lk : Cond.methodLink own idx yJ9_min_f86c9 ∈ lw_tbl) (h1 : 1 ≤ R.frames) (h2 : (rest.map fun v => v.category).sum + 15 ≤ R.locals) (h3 : cells ≤ R.cells) (h4 : slots ≤ R.slots) {x y : Int64} (hdg : decode cc pc = .ok (.invokestatic idx, 3))
    (kk : W p l e R s m args below meth c H locs cells slots Q (F0 m (pc + 3) ls (.long (if y < x then y else x) :: rest))) : W p l e R s m args below meth c H locs cells slots Q (F0 m pc ls (.long y :: .long x :: rest)) :=
  va_mmin_long C.1 C.2.1 (C.2.2.1.trans hls.symm) C.2.2.2.1 (C.2.2.2.2.1.1.use lk rfl) (C.2.2.2.2.1.1.use stJ9_min_f86c9 rfl) (C.2.2.2.2.1.1.use clJ9_min_f86c9.2.1 rfl) (C.2.2.2.2.1.1.use clJ9_min_f86c9.1 rfl) h1 h2 h3 h4 hdg kk
end MATH
