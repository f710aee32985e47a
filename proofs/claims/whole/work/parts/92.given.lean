/-! What the statement gives of texts and statics, by places. -/
def tmS (i : Nat) : Term := Term.string (sTab.getD i ("", 0, "")).1 (sTab.getD i ("", 0, "")).2.1
def gvn : Cond := Jvm.Cond.and given_1 narrow_1
def flG : List Cond := flatC gvn
theorem gv_ex : ∀ i, i < 20 → Cond.exactly (tmS i) "java/lang/String" ∈ flG := by decide +kernel
theorem gv_co : ∀ i, i < 20 → Cond.eq (.field (tmS i) "java/lang/String" "coder" "B") (.int 0) ∈ flG := by decide +kernel
theorem gv_ar : ∀ i, i < 20 → Cond.arrayOf (.field (tmS i) "java/lang/String" "value" "[B") .byte ∈ flG := by decide +kernel
theorem gv_le : ∀ i, i < 20 → Cond.eq (.length (.field (tmS i) "java/lang/String" "value" "[B")) (.int (Int32.ofNat (sLen.getD i 0))) ∈ flG := by decide +kernel
theorem gv_cs : Cond.eq (.static "java/lang/String" "COMPACT_STRINGS" "Z") (.int 1) ∈ flG := by decide +kernel
theorem gv_fm : Cond.isRef (.static "jdk/internal/util/Preconditions" "SIOOBE_FORMATTER" "Ljava/util/function/BiFunction;") ∈ flG := by decide +kernel
theorem tb_cs : Cond.laysStatic "java/lang/String" "COMPACT_STRINGS" "Z" ∈ lw_tbl := by decide +kernel
theorem tb_fm : Cond.laysStatic "jdk/internal/util/Preconditions" "SIOOBE_FORMATTER" "Ljava/util/function/BiFunction;" ∈ lw_tbl := by decide +kernel
theorem tb_i1 : Cond.initialized "java/lang/String" ∈ lw_tbl := by decide +kernel
theorem tb_i2 : Cond.initialized "jdk/internal/util/Preconditions" ∈ lw_tbl := by decide +kernel
theorem tb_st : ∀ i, i < 20 → Cond.stringRef (sTab.getD i ("", 0, "")).1 (sTab.getD i ("", 0, "")).2.1 (sTab.getD i ("", 0, "")).2.2 ∈ lw_tbl := by decide +kernel
theorem ao_l : Cond.arrayOver (.object "SalvageCourt$Law") ∈ lw_tbl := by decide +kernel
theorem ao_s : Cond.arrayOver (.object "SalvageCourt$Ship") ∈ lw_tbl := by decide +kernel
theorem ao_p : Cond.arrayOver (.object "SalvageCourt$Part") ∈ lw_tbl := by decide +kernel
theorem ao_j : Cond.arrayOver (.array .long) ∈ lw_tbl := by decide +kernel
theorem ao_i : Cond.arrayOver (.array .int) ∈ lw_tbl := by decide +kernel
def gB : List Nat := [9, 44, 83, 116, 129, 142, 157, 172, 189, 208, 226, 244, 263, 283, 304, 326, 350, 376, 405, 431]
theorem gE_0 : ∀ j, j < sLen.getD 0 0 → flG[gB.getD 0 0 + 4 + j]? = some (Cond.eq (.elem (.field (tmS 0) "java/lang/String" "value" "[B") (.int (Int32.ofNat j))) (.int ((sByt.getD 0 []).getD j 0))) := by decide +kernel
theorem gE_1 : ∀ j, j < sLen.getD 1 0 → flG[gB.getD 1 0 + 4 + j]? = some (Cond.eq (.elem (.field (tmS 1) "java/lang/String" "value" "[B") (.int (Int32.ofNat j))) (.int ((sByt.getD 1 []).getD j 0))) := by decide +kernel
theorem gE_2 : ∀ j, j < sLen.getD 2 0 → flG[gB.getD 2 0 + 4 + j]? = some (Cond.eq (.elem (.field (tmS 2) "java/lang/String" "value" "[B") (.int (Int32.ofNat j))) (.int ((sByt.getD 2 []).getD j 0))) := by decide +kernel
theorem gE_3 : ∀ j, j < sLen.getD 3 0 → flG[gB.getD 3 0 + 4 + j]? = some (Cond.eq (.elem (.field (tmS 3) "java/lang/String" "value" "[B") (.int (Int32.ofNat j))) (.int ((sByt.getD 3 []).getD j 0))) := by decide +kernel
theorem gE_4 : ∀ j, j < sLen.getD 4 0 → flG[gB.getD 4 0 + 4 + j]? = some (Cond.eq (.elem (.field (tmS 4) "java/lang/String" "value" "[B") (.int (Int32.ofNat j))) (.int ((sByt.getD 4 []).getD j 0))) := by decide +kernel
theorem gE_5 : ∀ j, j < sLen.getD 5 0 → flG[gB.getD 5 0 + 4 + j]? = some (Cond.eq (.elem (.field (tmS 5) "java/lang/String" "value" "[B") (.int (Int32.ofNat j))) (.int ((sByt.getD 5 []).getD j 0))) := by decide +kernel
theorem gE_6 : ∀ j, j < sLen.getD 6 0 → flG[gB.getD 6 0 + 4 + j]? = some (Cond.eq (.elem (.field (tmS 6) "java/lang/String" "value" "[B") (.int (Int32.ofNat j))) (.int ((sByt.getD 6 []).getD j 0))) := by decide +kernel
theorem gE_7 : ∀ j, j < sLen.getD 7 0 → flG[gB.getD 7 0 + 4 + j]? = some (Cond.eq (.elem (.field (tmS 7) "java/lang/String" "value" "[B") (.int (Int32.ofNat j))) (.int ((sByt.getD 7 []).getD j 0))) := by decide +kernel
theorem gE_8 : ∀ j, j < sLen.getD 8 0 → flG[gB.getD 8 0 + 4 + j]? = some (Cond.eq (.elem (.field (tmS 8) "java/lang/String" "value" "[B") (.int (Int32.ofNat j))) (.int ((sByt.getD 8 []).getD j 0))) := by decide +kernel
theorem gE_9 : ∀ j, j < sLen.getD 9 0 → flG[gB.getD 9 0 + 4 + j]? = some (Cond.eq (.elem (.field (tmS 9) "java/lang/String" "value" "[B") (.int (Int32.ofNat j))) (.int ((sByt.getD 9 []).getD j 0))) := by decide +kernel
theorem gE_10 : ∀ j, j < sLen.getD 10 0 → flG[gB.getD 10 0 + 4 + j]? = some (Cond.eq (.elem (.field (tmS 10) "java/lang/String" "value" "[B") (.int (Int32.ofNat j))) (.int ((sByt.getD 10 []).getD j 0))) := by decide +kernel
theorem gE_11 : ∀ j, j < sLen.getD 11 0 → flG[gB.getD 11 0 + 4 + j]? = some (Cond.eq (.elem (.field (tmS 11) "java/lang/String" "value" "[B") (.int (Int32.ofNat j))) (.int ((sByt.getD 11 []).getD j 0))) := by decide +kernel
theorem gE_12 : ∀ j, j < sLen.getD 12 0 → flG[gB.getD 12 0 + 4 + j]? = some (Cond.eq (.elem (.field (tmS 12) "java/lang/String" "value" "[B") (.int (Int32.ofNat j))) (.int ((sByt.getD 12 []).getD j 0))) := by decide +kernel
theorem gE_13 : ∀ j, j < sLen.getD 13 0 → flG[gB.getD 13 0 + 4 + j]? = some (Cond.eq (.elem (.field (tmS 13) "java/lang/String" "value" "[B") (.int (Int32.ofNat j))) (.int ((sByt.getD 13 []).getD j 0))) := by decide +kernel
theorem gE_14 : ∀ j, j < sLen.getD 14 0 → flG[gB.getD 14 0 + 4 + j]? = some (Cond.eq (.elem (.field (tmS 14) "java/lang/String" "value" "[B") (.int (Int32.ofNat j))) (.int ((sByt.getD 14 []).getD j 0))) := by decide +kernel
theorem gE_15 : ∀ j, j < sLen.getD 15 0 → flG[gB.getD 15 0 + 4 + j]? = some (Cond.eq (.elem (.field (tmS 15) "java/lang/String" "value" "[B") (.int (Int32.ofNat j))) (.int ((sByt.getD 15 []).getD j 0))) := by decide +kernel
theorem gE_16 : ∀ j, j < sLen.getD 16 0 → flG[gB.getD 16 0 + 4 + j]? = some (Cond.eq (.elem (.field (tmS 16) "java/lang/String" "value" "[B") (.int (Int32.ofNat j))) (.int ((sByt.getD 16 []).getD j 0))) := by decide +kernel
theorem gE_17 : ∀ j, j < sLen.getD 17 0 → flG[gB.getD 17 0 + 4 + j]? = some (Cond.eq (.elem (.field (tmS 17) "java/lang/String" "value" "[B") (.int (Int32.ofNat j))) (.int ((sByt.getD 17 []).getD j 0))) := by decide +kernel
theorem gE_18 : ∀ j, j < sLen.getD 18 0 → flG[gB.getD 18 0 + 4 + j]? = some (Cond.eq (.elem (.field (tmS 18) "java/lang/String" "value" "[B") (.int (Int32.ofNat j))) (.int ((sByt.getD 18 []).getD j 0))) := by decide +kernel
theorem gE_19 : ∀ j, j < sLen.getD 19 0 → flG[gB.getD 19 0 + 4 + j]? = some (Cond.eq (.elem (.field (tmS 19) "java/lang/String" "value" "[B") (.int (Int32.ofNat j))) (.int ((sByt.getD 19 []).getD j 0))) := by decide +kernel
theorem gN_1 : ∀ a, a < 1 → flG[gB.getD 1 0 + 4 + sLen.getD 1 0 + a]? = some (Cond.not (Cond.eq (tmS a) (tmS 1))) := by decide +kernel
theorem gN_2 : ∀ a, a < 2 → flG[gB.getD 2 0 + 4 + sLen.getD 2 0 + a]? = some (Cond.not (Cond.eq (tmS a) (tmS 2))) := by decide +kernel
theorem gN_3 : ∀ a, a < 3 → flG[gB.getD 3 0 + 4 + sLen.getD 3 0 + a]? = some (Cond.not (Cond.eq (tmS a) (tmS 3))) := by decide +kernel
theorem gN_4 : ∀ a, a < 4 → flG[gB.getD 4 0 + 4 + sLen.getD 4 0 + a]? = some (Cond.not (Cond.eq (tmS a) (tmS 4))) := by decide +kernel
theorem gN_5 : ∀ a, a < 5 → flG[gB.getD 5 0 + 4 + sLen.getD 5 0 + a]? = some (Cond.not (Cond.eq (tmS a) (tmS 5))) := by decide +kernel
theorem gN_6 : ∀ a, a < 6 → flG[gB.getD 6 0 + 4 + sLen.getD 6 0 + a]? = some (Cond.not (Cond.eq (tmS a) (tmS 6))) := by decide +kernel
theorem gN_7 : ∀ a, a < 7 → flG[gB.getD 7 0 + 4 + sLen.getD 7 0 + a]? = some (Cond.not (Cond.eq (tmS a) (tmS 7))) := by decide +kernel
theorem gN_8 : ∀ a, a < 8 → flG[gB.getD 8 0 + 4 + sLen.getD 8 0 + a]? = some (Cond.not (Cond.eq (tmS a) (tmS 8))) := by decide +kernel
theorem gN_9 : ∀ a, a < 9 → flG[gB.getD 9 0 + 4 + sLen.getD 9 0 + a]? = some (Cond.not (Cond.eq (tmS a) (tmS 9))) := by decide +kernel
theorem gN_10 : ∀ a, a < 10 → flG[gB.getD 10 0 + 4 + sLen.getD 10 0 + a]? = some (Cond.not (Cond.eq (tmS a) (tmS 10))) := by decide +kernel
theorem gN_11 : ∀ a, a < 11 → flG[gB.getD 11 0 + 4 + sLen.getD 11 0 + a]? = some (Cond.not (Cond.eq (tmS a) (tmS 11))) := by decide +kernel
theorem gN_12 : ∀ a, a < 12 → flG[gB.getD 12 0 + 4 + sLen.getD 12 0 + a]? = some (Cond.not (Cond.eq (tmS a) (tmS 12))) := by decide +kernel
theorem gN_13 : ∀ a, a < 13 → flG[gB.getD 13 0 + 4 + sLen.getD 13 0 + a]? = some (Cond.not (Cond.eq (tmS a) (tmS 13))) := by decide +kernel
theorem gN_14 : ∀ a, a < 14 → flG[gB.getD 14 0 + 4 + sLen.getD 14 0 + a]? = some (Cond.not (Cond.eq (tmS a) (tmS 14))) := by decide +kernel
theorem gN_15 : ∀ a, a < 15 → flG[gB.getD 15 0 + 4 + sLen.getD 15 0 + a]? = some (Cond.not (Cond.eq (tmS a) (tmS 15))) := by decide +kernel
theorem gN_16 : ∀ a, a < 16 → flG[gB.getD 16 0 + 4 + sLen.getD 16 0 + a]? = some (Cond.not (Cond.eq (tmS a) (tmS 16))) := by decide +kernel
theorem gN_17 : ∀ a, a < 17 → flG[gB.getD 17 0 + 4 + sLen.getD 17 0 + a]? = some (Cond.not (Cond.eq (tmS a) (tmS 17))) := by decide +kernel
theorem gN_18 : ∀ a, a < 18 → flG[gB.getD 18 0 + 4 + sLen.getD 18 0 + a]? = some (Cond.not (Cond.eq (tmS a) (tmS 18))) := by decide +kernel
theorem gN_19 : ∀ a, a < 19 → flG[gB.getD 19 0 + 4 + sLen.getD 19 0 + a]? = some (Cond.not (Cond.eq (tmS a) (tmS 19))) := by decide +kernel
theorem gv_el : ∀ i, i < 20 → ∀ j, j < sLen.getD i 0 → Cond.eq (.elem (.field (tmS i) "java/lang/String" "value" "[B") (.int (Int32.ofNat j))) (.int ((sByt.getD i []).getD j 0)) ∈ flG := by
  intro i hi j hj
  match i, hi, hj with
  | 0, _, hj => exact List.mem_of_getElem? (gE_0 j hj)
  | 1, _, hj => exact List.mem_of_getElem? (gE_1 j hj)
  | 2, _, hj => exact List.mem_of_getElem? (gE_2 j hj)
  | 3, _, hj => exact List.mem_of_getElem? (gE_3 j hj)
  | 4, _, hj => exact List.mem_of_getElem? (gE_4 j hj)
  | 5, _, hj => exact List.mem_of_getElem? (gE_5 j hj)
  | 6, _, hj => exact List.mem_of_getElem? (gE_6 j hj)
  | 7, _, hj => exact List.mem_of_getElem? (gE_7 j hj)
  | 8, _, hj => exact List.mem_of_getElem? (gE_8 j hj)
  | 9, _, hj => exact List.mem_of_getElem? (gE_9 j hj)
  | 10, _, hj => exact List.mem_of_getElem? (gE_10 j hj)
  | 11, _, hj => exact List.mem_of_getElem? (gE_11 j hj)
  | 12, _, hj => exact List.mem_of_getElem? (gE_12 j hj)
  | 13, _, hj => exact List.mem_of_getElem? (gE_13 j hj)
  | 14, _, hj => exact List.mem_of_getElem? (gE_14 j hj)
  | 15, _, hj => exact List.mem_of_getElem? (gE_15 j hj)
  | 16, _, hj => exact List.mem_of_getElem? (gE_16 j hj)
  | 17, _, hj => exact List.mem_of_getElem? (gE_17 j hj)
  | 18, _, hj => exact List.mem_of_getElem? (gE_18 j hj)
  | 19, _, hj => exact List.mem_of_getElem? (gE_19 j hj)
  | n + 20, hi, _ => exact absurd hi (by omega)
theorem gv_n1 : ∀ i, i < 20 → ∀ a, a < i → Cond.not (Cond.eq (tmS a) (tmS i)) ∈ flG := by
  intro i hi a ha
  match i, hi, ha with
  | 0, _, ha => exact absurd ha (by omega)
  | 1, _, ha => exact List.mem_of_getElem? (gN_1 a ha)
  | 2, _, ha => exact List.mem_of_getElem? (gN_2 a ha)
  | 3, _, ha => exact List.mem_of_getElem? (gN_3 a ha)
  | 4, _, ha => exact List.mem_of_getElem? (gN_4 a ha)
  | 5, _, ha => exact List.mem_of_getElem? (gN_5 a ha)
  | 6, _, ha => exact List.mem_of_getElem? (gN_6 a ha)
  | 7, _, ha => exact List.mem_of_getElem? (gN_7 a ha)
  | 8, _, ha => exact List.mem_of_getElem? (gN_8 a ha)
  | 9, _, ha => exact List.mem_of_getElem? (gN_9 a ha)
  | 10, _, ha => exact List.mem_of_getElem? (gN_10 a ha)
  | 11, _, ha => exact List.mem_of_getElem? (gN_11 a ha)
  | 12, _, ha => exact List.mem_of_getElem? (gN_12 a ha)
  | 13, _, ha => exact List.mem_of_getElem? (gN_13 a ha)
  | 14, _, ha => exact List.mem_of_getElem? (gN_14 a ha)
  | 15, _, ha => exact List.mem_of_getElem? (gN_15 a ha)
  | 16, _, ha => exact List.mem_of_getElem? (gN_16 a ha)
  | 17, _, ha => exact List.mem_of_getElem? (gN_17 a ha)
  | 18, _, ha => exact List.mem_of_getElem? (gN_18 a ha)
  | 19, _, ha => exact List.mem_of_getElem? (gN_19 a ha)
  | n + 20, hi, _ => exact absurd hi (by omega)
theorem gv_ne : ∀ i, i < 20 → ∀ j, j < 20 → i ≠ j → Cond.not (Cond.eq (tmS i) (tmS j)) ∈ flG ∨ Cond.not (Cond.eq (tmS j) (tmS i)) ∈ flG := by
  intro i hi j hj hij
  rcases Nat.lt_or_gt_of_ne hij with h | h
  · exact Or.inl (gv_n1 j hj i h)
  · exact Or.inr (gv_n1 i hi j h)
