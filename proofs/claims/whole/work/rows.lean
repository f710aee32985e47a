section
-- ===== PART A: goes FIRST, ahead of the names: the tables' words, and 'selects' of the private methods out of them =====
/-- a private method of a class that the tables say can be made, by its rows of tables_1 -/
def lw_okq (q : MethodName × Nat) : Prop := (q.1.cls ≠ "java/lang/invoke/MethodHandle" ∧ q.1.cls ≠ "java/lang/invoke/VarHandle") ∧ Cond.instantiable q.1.cls q.2 ∈ tables_1 ∧ Cond.privateMethod q.1 ∈ tables_1 ∧ Cond.instanceMethod q.1 ∈ tables_1
theorem lw_p0 : lw_okq (⟨"SalvageCourt$Tale", "settleBelief", "()V"⟩, 15) := ⟨⟨by decide +kernel, by decide +kernel⟩, List.mem_of_getElem? (i := 29) (by decide +kernel), List.mem_of_getElem? (i := 464) (by decide +kernel), List.mem_of_getElem? (i := 465) (by decide +kernel)⟩
theorem lw_p1 : lw_okq (⟨"SalvageCourt$Tale", "takes", "(LSalvageCourt$Bounds;I)Z"⟩, 15) := ⟨⟨by decide +kernel, by decide +kernel⟩, List.mem_of_getElem? (i := 29) (by decide +kernel), List.mem_of_getElem? (i := 474) (by decide +kernel), List.mem_of_getElem? (i := 475) (by decide +kernel)⟩
theorem lw_p2 : lw_okq (⟨"SalvageCourt$Bounds", "limit", "(III)V"⟩, 1) := ⟨⟨by decide +kernel, by decide +kernel⟩, List.mem_of_getElem? (i := 35) (by decide +kernel), List.mem_of_getElem? (i := 482) (by decide +kernel), List.mem_of_getElem? (i := 483) (by decide +kernel)⟩
theorem lw_p3 : lw_okq (⟨"SalvageCourt$Tale", "settleQuarrel", "()V"⟩, 15) := ⟨⟨by decide +kernel, by decide +kernel⟩, List.mem_of_getElem? (i := 29) (by decide +kernel), List.mem_of_getElem? (i := 516) (by decide +kernel), List.mem_of_getElem? (i := 517) (by decide +kernel)⟩
theorem lw_p4 : lw_okq (⟨"SalvageCourt$Tale", "firstToBreak", "(I)I"⟩, 15) := ⟨⟨by decide +kernel, by decide +kernel⟩, List.mem_of_getElem? (i := 29) (by decide +kernel), List.mem_of_getElem? (i := 520) (by decide +kernel), List.mem_of_getElem? (i := 521) (by decide +kernel)⟩
theorem lw_p5 : lw_okq (⟨"SalvageCourt$Tape", "skipBlanks", "()V"⟩, 6) := ⟨⟨by decide +kernel, by decide +kernel⟩, List.mem_of_getElem? (i := 156) (by decide +kernel), List.mem_of_getElem? (i := 606) (by decide +kernel), List.mem_of_getElem? (i := 607) (by decide +kernel)⟩
theorem lw_p6 : lw_okq (⟨"SalvageCourt$Tape", "readClause", "(LSalvageCourt$Law;)V"⟩, 6) := ⟨⟨by decide +kernel, by decide +kernel⟩, List.mem_of_getElem? (i := 156) (by decide +kernel), List.mem_of_getElem? (i := 610) (by decide +kernel), List.mem_of_getElem? (i := 611) (by decide +kernel)⟩
theorem lw_p7 : lw_okq (⟨"SalvageCourt$Tape", "readWord", "(Ljava/lang/String;)I"⟩, 6) := ⟨⟨by decide +kernel, by decide +kernel⟩, List.mem_of_getElem? (i := 156) (by decide +kernel), List.mem_of_getElem? (i := 615) (by decide +kernel), List.mem_of_getElem? (i := 616) (by decide +kernel)⟩
theorem lw_p8 : lw_okq (⟨"SalvageCourt$Tape", "numberOfWord", "(Ljava/lang/String;)I"⟩, 6) := ⟨⟨by decide +kernel, by decide +kernel⟩, List.mem_of_getElem? (i := 156) (by decide +kernel), List.mem_of_getElem? (i := 622) (by decide +kernel), List.mem_of_getElem? (i := 623) (by decide +kernel)⟩
theorem lw_p9 : lw_okq (⟨"SalvageCourt$Tape", "refuse", "(II)V"⟩, 6) := ⟨⟨by decide +kernel, by decide +kernel⟩, List.mem_of_getElem? (i := 156) (by decide +kernel), List.mem_of_getElem? (i := 674) (by decide +kernel), List.mem_of_getElem? (i := 675) (by decide +kernel)⟩
theorem lw_p10 : lw_okq (⟨"SalvageCourt$Tape", "tellOnce", "(I)V"⟩, 6) := ⟨⟨by decide +kernel, by decide +kernel⟩, List.mem_of_getElem? (i := 156) (by decide +kernel), List.mem_of_getElem? (i := 678) (by decide +kernel), List.mem_of_getElem? (i := 679) (by decide +kernel)⟩
theorem lw_p11 : lw_okq (⟨"SalvageCourt$Tape", "readWeight", "(LSalvageCourt$Law;)V"⟩, 6) := ⟨⟨by decide +kernel, by decide +kernel⟩, List.mem_of_getElem? (i := 156) (by decide +kernel), List.mem_of_getElem? (i := 682) (by decide +kernel), List.mem_of_getElem? (i := 683) (by decide +kernel)⟩
theorem lw_p12 : lw_okq (⟨"SalvageCourt$Tape", "readNumber", "(I)I"⟩, 6) := ⟨⟨by decide +kernel, by decide +kernel⟩, List.mem_of_getElem? (i := 156) (by decide +kernel), List.mem_of_getElem? (i := 687) (by decide +kernel), List.mem_of_getElem? (i := 688) (by decide +kernel)⟩
theorem lw_p13 : lw_okq (⟨"SalvageCourt$Tape", "readSemicolon", "()V"⟩, 6) := ⟨⟨by decide +kernel, by decide +kernel⟩, List.mem_of_getElem? (i := 156) (by decide +kernel), List.mem_of_getElem? (i := 693) (by decide +kernel), List.mem_of_getElem? (i := 694) (by decide +kernel)⟩
theorem lw_p14 : lw_okq (⟨"SalvageCourt$Law", "givenOf", "([II)I"⟩, 7) := ⟨⟨by decide +kernel, by decide +kernel⟩, List.mem_of_getElem? (i := 307) (by decide +kernel), List.mem_of_getElem? (i := 759) (by decide +kernel), List.mem_of_getElem? (i := 760) (by decide +kernel)⟩
theorem lw_p15 : lw_okq (⟨"SalvageCourt$Judgement", "greatestRest", "()I"⟩, 11) := ⟨⟨by decide +kernel, by decide +kernel⟩, List.mem_of_getElem? (i := 209) (by decide +kernel), List.mem_of_getElem? (i := 790) (by decide +kernel), List.mem_of_getElem? (i := 791) (by decide +kernel)⟩
def lw_privs_1 : List (MethodName × Nat) := [(⟨"SalvageCourt$Tale", "settleBelief", "()V"⟩, 15), (⟨"SalvageCourt$Tale", "takes", "(LSalvageCourt$Bounds;I)Z"⟩, 15), (⟨"SalvageCourt$Bounds", "limit", "(III)V"⟩, 1), (⟨"SalvageCourt$Tale", "settleQuarrel", "()V"⟩, 15), (⟨"SalvageCourt$Tale", "firstToBreak", "(I)I"⟩, 15), (⟨"SalvageCourt$Tape", "skipBlanks", "()V"⟩, 6), (⟨"SalvageCourt$Tape", "readClause", "(LSalvageCourt$Law;)V"⟩, 6), (⟨"SalvageCourt$Tape", "readWord", "(Ljava/lang/String;)I"⟩, 6), (⟨"SalvageCourt$Tape", "numberOfWord", "(Ljava/lang/String;)I"⟩, 6), (⟨"SalvageCourt$Tape", "refuse", "(II)V"⟩, 6), (⟨"SalvageCourt$Tape", "tellOnce", "(I)V"⟩, 6), (⟨"SalvageCourt$Tape", "readWeight", "(LSalvageCourt$Law;)V"⟩, 6), (⟨"SalvageCourt$Tape", "readNumber", "(I)I"⟩, 6), (⟨"SalvageCourt$Tape", "readSemicolon", "()V"⟩, 6), (⟨"SalvageCourt$Law", "givenOf", "([II)I"⟩, 7), (⟨"SalvageCourt$Judgement", "greatestRest", "()I"⟩, 11)]
theorem lw_r1 : ∀ q ∈ lw_privs_1, lw_okq q := List.forall_mem_cons.mpr ⟨lw_p0, List.forall_mem_cons.mpr ⟨lw_p1, List.forall_mem_cons.mpr ⟨lw_p2, List.forall_mem_cons.mpr ⟨lw_p3, List.forall_mem_cons.mpr ⟨lw_p4, List.forall_mem_cons.mpr ⟨lw_p5, List.forall_mem_cons.mpr ⟨lw_p6, List.forall_mem_cons.mpr ⟨lw_p7, List.forall_mem_cons.mpr ⟨lw_p8, List.forall_mem_cons.mpr ⟨lw_p9, List.forall_mem_cons.mpr ⟨lw_p10, List.forall_mem_cons.mpr ⟨lw_p11, List.forall_mem_cons.mpr ⟨lw_p12, List.forall_mem_cons.mpr ⟨lw_p13, List.forall_mem_cons.mpr ⟨lw_p14, List.forall_mem_cons.mpr ⟨lw_p15, fun _ h => absurd h List.not_mem_nil⟩⟩⟩⟩⟩⟩⟩⟩⟩⟩⟩⟩⟩⟩⟩⟩
theorem lw_p16 : lw_okq (⟨"SalvageCourt$Part", "payHands", "(LSalvageCourt$Crew;)V"⟩, 10) := ⟨⟨by decide +kernel, by decide +kernel⟩, List.mem_of_getElem? (i := 216) (by decide +kernel), List.mem_of_getElem? (i := 813) (by decide +kernel), List.mem_of_getElem? (i := 814) (by decide +kernel)⟩
theorem lw_p17 : lw_okq (⟨"SalvageCourtModel", "believe", "()V"⟩, 59) := ⟨⟨by decide +kernel, by decide +kernel⟩, List.mem_of_getElem? (i := 847) (by decide +kernel), List.mem_of_getElem? (i := 1053) (by decide +kernel), List.mem_of_getElem? (i := 1054) (by decide +kernel)⟩
theorem lw_p18 : lw_okq (⟨"SalvageCourtModel", "canBe", "()Z"⟩, 59) := ⟨⟨by decide +kernel, by decide +kernel⟩, List.mem_of_getElem? (i := 847) (by decide +kernel), List.mem_of_getElem? (i := 1057) (by decide +kernel), List.mem_of_getElem? (i := 1058) (by decide +kernel)⟩
theorem lw_p19 : lw_okq (⟨"SalvageCourtModel", "put", "(I)V"⟩, 59) := ⟨⟨by decide +kernel, by decide +kernel⟩, List.mem_of_getElem? (i := 847) (by decide +kernel), List.mem_of_getElem? (i := 1102) (by decide +kernel), List.mem_of_getElem? (i := 1103) (by decide +kernel)⟩
theorem lw_p20 : lw_okq (⟨"SalvageCourtModel", "isEnd", "()Z"⟩, 59) := ⟨⟨by decide +kernel, by decide +kernel⟩, List.mem_of_getElem? (i := 847) (by decide +kernel), List.mem_of_getElem? (i := 1114) (by decide +kernel), List.mem_of_getElem? (i := 1115) (by decide +kernel)⟩
theorem lw_p21 : lw_okq (⟨"SalvageCourtModel", "clause", "([I[Z)V"⟩, 59) := ⟨⟨by decide +kernel, by decide +kernel⟩, List.mem_of_getElem? (i := 847) (by decide +kernel), List.mem_of_getElem? (i := 1118) (by decide +kernel), List.mem_of_getElem? (i := 1119) (by decide +kernel)⟩
theorem lw_p22 : lw_okq (⟨"SalvageCourtModel", "word", "()V"⟩, 59) := ⟨⟨by decide +kernel, by decide +kernel⟩, List.mem_of_getElem? (i := 847) (by decide +kernel), List.mem_of_getElem? (i := 1122) (by decide +kernel), List.mem_of_getElem? (i := 1123) (by decide +kernel)⟩
theorem lw_p23 : lw_okq (⟨"SalvageCourtModel", "fails", "(II)V"⟩, 59) := ⟨⟨by decide +kernel, by decide +kernel⟩, List.mem_of_getElem? (i := 847) (by decide +kernel), List.mem_of_getElem? (i := 1126) (by decide +kernel), List.mem_of_getElem? (i := 1127) (by decide +kernel)⟩
theorem lw_p24 : lw_okq (⟨"SalvageCourtModel", "is", "(Ljava/lang/String;)Z"⟩, 59) := ⟨⟨by decide +kernel, by decide +kernel⟩, List.mem_of_getElem? (i := 847) (by decide +kernel), List.mem_of_getElem? (i := 1131) (by decide +kernel), List.mem_of_getElem? (i := 1132) (by decide +kernel)⟩
theorem lw_p25 : lw_okq (⟨"SalvageCourtModel", "markOf", "(I)Ljava/lang/String;"⟩, 59) := ⟨⟨by decide +kernel, by decide +kernel⟩, List.mem_of_getElem? (i := 847) (by decide +kernel), List.mem_of_getElem? (i := 1137) (by decide +kernel), List.mem_of_getElem? (i := 1138) (by decide +kernel)⟩
theorem lw_p26 : lw_okq (⟨"SalvageCourtModel", "number", "(II)I"⟩, 59) := ⟨⟨by decide +kernel, by decide +kernel⟩, List.mem_of_getElem? (i := 847) (by decide +kernel), List.mem_of_getElem? (i := 1146) (by decide +kernel), List.mem_of_getElem? (i := 1147) (by decide +kernel)⟩
theorem lw_p27 : lw_okq (⟨"SalvageCourtModel", "clauseOf", "(I)Ljava/lang/String;"⟩, 59) := ⟨⟨by decide +kernel, by decide +kernel⟩, List.mem_of_getElem? (i := 847) (by decide +kernel), List.mem_of_getElem? (i := 1150) (by decide +kernel), List.mem_of_getElem? (i := 1151) (by decide +kernel)⟩
theorem lw_p28 : lw_okq (⟨"SalvageCourtModel", "gives", "()I"⟩, 59) := ⟨⟨by decide +kernel, by decide +kernel⟩, List.mem_of_getElem? (i := 847) (by decide +kernel), List.mem_of_getElem? (i := 1159) (by decide +kernel), List.mem_of_getElem? (i := 1160) (by decide +kernel)⟩
theorem lw_p29 : lw_okq (⟨"SalvageCourtModel", "distance", "(I[I)I"⟩, 59) := ⟨⟨by decide +kernel, by decide +kernel⟩, List.mem_of_getElem? (i := 847) (by decide +kernel), List.mem_of_getElem? (i := 1181) (by decide +kernel), List.mem_of_getElem? (i := 1182) (by decide +kernel)⟩
theorem lw_p30 : lw_okq (⟨"SalvageCourtModel", "rated", "([I)I"⟩, 59) := ⟨⟨by decide +kernel, by decide +kernel⟩, List.mem_of_getElem? (i := 847) (by decide +kernel), List.mem_of_getElem? (i := 1185) (by decide +kernel), List.mem_of_getElem? (i := 1186) (by decide +kernel)⟩
theorem lw_p31 : lw_okq (⟨"SalvageCourtModel", "parts", "([I)V"⟩, 59) := ⟨⟨by decide +kernel, by decide +kernel⟩, List.mem_of_getElem? (i := 847) (by decide +kernel), List.mem_of_getElem? (i := 1190) (by decide +kernel), List.mem_of_getElem? (i := 1191) (by decide +kernel)⟩
def lw_privs_2 : List (MethodName × Nat) := [(⟨"SalvageCourt$Part", "payHands", "(LSalvageCourt$Crew;)V"⟩, 10), (⟨"SalvageCourtModel", "believe", "()V"⟩, 59), (⟨"SalvageCourtModel", "canBe", "()Z"⟩, 59), (⟨"SalvageCourtModel", "put", "(I)V"⟩, 59), (⟨"SalvageCourtModel", "isEnd", "()Z"⟩, 59), (⟨"SalvageCourtModel", "clause", "([I[Z)V"⟩, 59), (⟨"SalvageCourtModel", "word", "()V"⟩, 59), (⟨"SalvageCourtModel", "fails", "(II)V"⟩, 59), (⟨"SalvageCourtModel", "is", "(Ljava/lang/String;)Z"⟩, 59), (⟨"SalvageCourtModel", "markOf", "(I)Ljava/lang/String;"⟩, 59), (⟨"SalvageCourtModel", "number", "(II)I"⟩, 59), (⟨"SalvageCourtModel", "clauseOf", "(I)Ljava/lang/String;"⟩, 59), (⟨"SalvageCourtModel", "gives", "()I"⟩, 59), (⟨"SalvageCourtModel", "distance", "(I[I)I"⟩, 59), (⟨"SalvageCourtModel", "rated", "([I)I"⟩, 59), (⟨"SalvageCourtModel", "parts", "([I)V"⟩, 59)]
theorem lw_r2 : ∀ q ∈ lw_privs_2, lw_okq q := List.forall_mem_cons.mpr ⟨lw_p16, List.forall_mem_cons.mpr ⟨lw_p17, List.forall_mem_cons.mpr ⟨lw_p18, List.forall_mem_cons.mpr ⟨lw_p19, List.forall_mem_cons.mpr ⟨lw_p20, List.forall_mem_cons.mpr ⟨lw_p21, List.forall_mem_cons.mpr ⟨lw_p22, List.forall_mem_cons.mpr ⟨lw_p23, List.forall_mem_cons.mpr ⟨lw_p24, List.forall_mem_cons.mpr ⟨lw_p25, List.forall_mem_cons.mpr ⟨lw_p26, List.forall_mem_cons.mpr ⟨lw_p27, List.forall_mem_cons.mpr ⟨lw_p28, List.forall_mem_cons.mpr ⟨lw_p29, List.forall_mem_cons.mpr ⟨lw_p30, List.forall_mem_cons.mpr ⟨lw_p31, fun _ h => absurd h List.not_mem_nil⟩⟩⟩⟩⟩⟩⟩⟩⟩⟩⟩⟩⟩⟩⟩⟩
theorem lw_p32 : lw_okq (⟨"SalvageCourtModel", "aboard", "(I[I)V"⟩, 59) := ⟨⟨by decide +kernel, by decide +kernel⟩, List.mem_of_getElem? (i := 847) (by decide +kernel), List.mem_of_getElem? (i := 1195) (by decide +kernel), List.mem_of_getElem? (i := 1196) (by decide +kernel)⟩
def lw_privs_3 : List (MethodName × Nat) := [(⟨"SalvageCourtModel", "aboard", "(I[I)V"⟩, 59)]
theorem lw_r3 : ∀ q ∈ lw_privs_3, lw_okq q := List.forall_mem_cons.mpr ⟨lw_p32, fun _ h => absurd h List.not_mem_nil⟩
def lw_privs : List (MethodName × Nat) := lw_privs_1 ++ (lw_privs_2 ++ (lw_privs_3))
def lw_tbl : List Cond := k2_sels lw_privs ++ tables_1
theorem lw_privs_ok : ∀ q ∈ lw_privs, lw_okq q := by
  show ∀ q ∈ lw_privs_1 ++ (lw_privs_2 ++ (lw_privs_3)), lw_okq q
  exact List.forall_mem_append.mpr ⟨lw_r1, List.forall_mem_append.mpr ⟨lw_r2, lw_r3⟩⟩
def R_law : String := "SalvageCourtLaw"
def RX0 : String := "SalvageCourt$Bounds"
def TX0 : u_T := fun k => match k with
  | _ => ("SalvageCourt$Bounds", "most", "[I", true)
def tyX0 : Nat → FieldType := fun k => match k with
  | _ => .array .int
theorem nmX0 : ∀ a, a < 1 → ∀ b, b < 1 → a ≠ b → (TX0 a).2.1 ≠ (TX0 b).2.1 := by decide +kernel
theorem tyX0_ok : ∀ k, k < 1 → parseFieldDescriptor (TX0 k).2.2.1 = some (tyX0 k) := by decide +kernel
abbrev cX0_init : ByteArray := prog_2_method_1_code
def yX0_init : MethodName := ⟨RX0, "<init>", "()V"⟩
abbrev cX0_clear : ByteArray := prog_2_method_2_code
def yX0_clear : MethodName := ⟨RX0, "clear", "()V"⟩
abbrev cX0_greatest : ByteArray := prog_2_method_3_code
def yX0_greatest : MethodName := ⟨RX0, "greatest", "(II)I"⟩
abbrev cX0_least : ByteArray := prog_2_method_4_code
def yX0_least : MethodName := ⟨RX0, "least", "(II)I"⟩
abbrev cX0_narrow : ByteArray := prog_2_method_5_code
def yX0_narrow : MethodName := ⟨RX0, "narrow", "(IIII)Z"⟩
abbrev cX0_limit : ByteArray := prog_2_method_6_code
def yX0_limit : MethodName := ⟨RX0, "limit", "(III)V"⟩
def RX1 : String := "SalvageCourt$Cases"
def TX1 : u_T := fun k => match k with
  | 0 => ("SalvageCourt$Cases", "marks", "[I", true)
  | 1 => ("SalvageCourt$Cases", "awards", "[I", true)
  | 2 => ("SalvageCourt$Cases", "times", "LSalvageCourt$Times;", true)
  | 3 => ("SalvageCourt$Cases", "overruled", "LSalvageCourt$Times;", true)
  | _ => ("SalvageCourt$Cases", "told", "I", false)
def tyX1 : Nat → FieldType := fun k => match k with
  | 0 => .array .int
  | 1 => .array .int
  | 2 => .object "SalvageCourt$Times"
  | 3 => .object "SalvageCourt$Times"
  | _ => .int
theorem nmX1 : ∀ a, a < 5 → ∀ b, b < 5 → a ≠ b → (TX1 a).2.1 ≠ (TX1 b).2.1 := by decide +kernel
theorem tyX1_ok : ∀ k, k < 5 → parseFieldDescriptor (TX1 k).2.2.1 = some (tyX1 k) := by decide +kernel
abbrev cX1_init : ByteArray := prog_3_method_1_code
def yX1_init : MethodName := ⟨RX1, "<init>", "()V"⟩
abbrev cX1_add : ByteArray := prog_3_method_2_code
def yX1_add : MethodName := ⟨RX1, "add", "(IIII)I"⟩
abbrev cX1_setOverruled : ByteArray := prog_3_method_3_code
def yX1_setOverruled : MethodName := ⟨RX1, "setOverruled", "(III)Z"⟩
abbrev cX1_findLike : ByteArray := prog_3_method_4_code
def yX1_findLike : MethodName := ⟨RX1, "findLike", "(LSalvageCourt$Law;III[I)I"⟩
abbrev cX1_sortAwards : ByteArray := prog_3_method_5_code
def yX1_sortAwards : MethodName := ⟨RX1, "sortAwards", "([II[I)V"⟩
def RX2 : String := "SalvageCourt$Crew"
def TX2 : u_T := fun k => match k with
  | 0 => ("SalvageCourt$Crew", "weights", "[I", true)
  | 1 => ("SalvageCourt$Crew", "hands", "I", false)
  | _ => ("SalvageCourt$Crew", "allWeights", "I", false)
def tyX2 : Nat → FieldType := fun k => match k with
  | 0 => .array .int
  | 1 => .int
  | _ => .int
theorem nmX2 : ∀ a, a < 3 → ∀ b, b < 3 → a ≠ b → (TX2 a).2.1 ≠ (TX2 b).2.1 := by decide +kernel
theorem tyX2_ok : ∀ k, k < 3 → parseFieldDescriptor (TX2 k).2.2.1 = some (tyX2 k) := by decide +kernel
abbrev cX2_init : ByteArray := prog_4_method_1_code
def yX2_init : MethodName := ⟨RX2, "<init>", "()V"⟩
abbrev cX2_clear : ByteArray := prog_4_method_2_code
def yX2_clear : MethodName := ⟨RX2, "clear", "()V"⟩
abbrev cX2_add : ByteArray := prog_4_method_3_code
def yX2_add : MethodName := ⟨RX2, "add", "(I)V"⟩
abbrev cX2_copy : ByteArray := prog_4_method_4_code
def yX2_copy : MethodName := ⟨RX2, "copy", "(LSalvageCourt$Crew;)V"⟩
def RX3 : String := "SalvageCourt$Goods"
def TX3 : u_T := fun k => match k with
  | 0 => ("SalvageCourt$Goods", "goodOf", "[I", true)
  | 1 => ("SalvageCourt$Goods", "worth", "[I", true)
  | 2 => ("SalvageCourt$Goods", "times", "LSalvageCourt$Times;", true)
  | _ => ("SalvageCourt$Goods", "told", "I", false)
def tyX3 : Nat → FieldType := fun k => match k with
  | 0 => .array .int
  | 1 => .array .int
  | 2 => .object "SalvageCourt$Times"
  | _ => .int
theorem nmX3 : ∀ a, a < 4 → ∀ b, b < 4 → a ≠ b → (TX3 a).2.1 ≠ (TX3 b).2.1 := by decide +kernel
theorem tyX3_ok : ∀ k, k < 4 → parseFieldDescriptor (TX3 k).2.2.1 = some (tyX3 k) := by decide +kernel
abbrev cX3_init : ByteArray := prog_5_method_1_code
def yX3_init : MethodName := ⟨RX3, "<init>", "()V"⟩
abbrev cX3_add : ByteArray := prog_5_method_2_code
def yX3_add : MethodName := ⟨RX3, "add", "(IIII)I"⟩
abbrev cX3_worthOf : ByteArray := prog_5_method_3_code
def yX3_worthOf : MethodName := ⟨RX3, "worthOf", "(III)I"⟩
abbrev cX3_worthOfAll : ByteArray := prog_5_method_4_code
def yX3_worthOfAll : MethodName := ⟨RX3, "worthOfAll", "(II)J"⟩
def RX4 : String := "SalvageCourt$Judgement"
def TX4 : u_T := fun k => match k with
  | 0 => ("SalvageCourt$Judgement", "likes", "[I", true)
  | 1 => ("SalvageCourt$Judgement", "awards", "[I", true)
  | 2 => ("SalvageCourt$Judgement", "parts", "[LSalvageCourt$Part;", true)
  | 3 => ("SalvageCourt$Judgement", "law", "I", false)
  | 4 => ("SalvageCourt$Judgement", "likeCount", "I", false)
  | 5 => ("SalvageCourt$Judgement", "rate", "I", false)
  | 6 => ("SalvageCourt$Judgement", "saved", "J", false)
  | 7 => ("SalvageCourt$Judgement", "given", "J", false)
  | 8 => ("SalvageCourt$Judgement", "goesBack", "J", false)
  | 9 => ("SalvageCourt$Judgement", "shipCount", "I", false)
  | _ => ("SalvageCourt$Judgement", "allWeights", "J", false)
def tyX4 : Nat → FieldType := fun k => match k with
  | 0 => .array .int
  | 1 => .array .int
  | 2 => .array (.object "SalvageCourt$Part")
  | 3 => .int
  | 4 => .int
  | 5 => .int
  | 6 => .long
  | 7 => .long
  | 8 => .long
  | 9 => .int
  | _ => .long
theorem nmX4 : ∀ a, a < 11 → ∀ b, b < 11 → a ≠ b → (TX4 a).2.1 ≠ (TX4 b).2.1 := by decide +kernel
theorem tyX4_ok : ∀ k, k < 11 → parseFieldDescriptor (TX4 k).2.2.1 = some (tyX4 k) := by decide +kernel
abbrev cX4_init : ByteArray := prog_6_method_1_code
def yX4_init : MethodName := ⟨RX4, "<init>", "()V"⟩
abbrev cX4_weighShips : ByteArray := prog_6_method_2_code
def yX4_weighShips : MethodName := ⟨RX4, "weighShips", "([LSalvageCourt$Ship;ILSalvageCourt$Tale;)V"⟩
abbrev cX4_partAmongShips : ByteArray := prog_6_method_3_code
def yX4_partAmongShips : MethodName := ⟨RX4, "partAmongShips", "()V"⟩
abbrev cX4_greatestRest : ByteArray := prog_6_method_4_code
def yX4_greatestRest : MethodName := ⟨RX4, "greatestRest", "()I"⟩
abbrev cX4_settle : ByteArray := prog_6_method_5_code
def yX4_settle : MethodName := ⟨RX4, "settle", "([LSalvageCourt$Ship;LSalvageCourt$Law;)V"⟩
def RX5 : String := "SalvageCourt$Law"
def TX5 : u_T := fun k => match k with
  | 0 => ("SalvageCourt$Law", "weights", "[I", true)
  | 1 => ("SalvageCourt$Law", "like", "I", false)
  | 2 => ("SalvageCourt$Law", "give", "I", false)
  | 3 => ("SalvageCourt$Law", "otherwise", "I", false)
  | 4 => ("SalvageCourt$Law", "life", "I", false)
  | 5 => ("SalvageCourt$Law", "late", "I", false)
  | _ => ("SalvageCourt$Law", "after", "I", false)
def tyX5 : Nat → FieldType := fun k => match k with
  | 0 => .array .int
  | 1 => .int
  | 2 => .int
  | 3 => .int
  | 4 => .int
  | 5 => .int
  | _ => .int
theorem nmX5 : ∀ a, a < 7 → ∀ b, b < 7 → a ≠ b → (TX5 a).2.1 ≠ (TX5 b).2.1 := by decide +kernel
theorem tyX5_ok : ∀ k, k < 7 → parseFieldDescriptor (TX5 k).2.2.1 = some (tyX5 k) := by decide +kernel
abbrev cX5_init : ByteArray := prog_7_method_1_code
def yX5_init : MethodName := ⟨RX5, "<init>", "()V"⟩
abbrev cX5_clear : ByteArray := prog_7_method_2_code
def yX5_clear : MethodName := ⟨RX5, "clear", "()V"⟩
abbrev cX5_distance : ByteArray := prog_7_method_3_code
def yX5_distance : MethodName := ⟨RX5, "distance", "(II)I"⟩
abbrev cX5_rateOf : ByteArray := prog_7_method_4_code
def yX5_rateOf : MethodName := ⟨RX5, "rateOf", "([III)I"⟩
abbrev cX5_givenOf : ByteArray := prog_7_method_5_code
def yX5_givenOf : MethodName := ⟨RX5, "givenOf", "([II)I"⟩
abbrev cX5_mean : ByteArray := prog_7_method_6_code
def yX5_mean : MethodName := ⟨RX5, "mean", "([II)I"⟩
def RX6 : String := "SalvageCourt$Part"
def TX6 : u_T := fun k => match k with
  | 0 => ("SalvageCourt$Part", "handCoins", "[J", true)
  | 1 => ("SalvageCourt$Part", "hours", "J", false)
  | 2 => ("SalvageCourt$Part", "weight", "J", false)
  | 3 => ("SalvageCourt$Part", "rest", "J", false)
  | 4 => ("SalvageCourt$Part", "coins", "J", false)
  | 5 => ("SalvageCourt$Part", "lost", "J", false)
  | 6 => ("SalvageCourt$Part", "owner", "J", false)
  | 7 => ("SalvageCourt$Part", "master", "J", false)
  | 8 => ("SalvageCourt$Part", "crew", "J", false)
  | _ => ("SalvageCourt$Part", "hands", "I", false)
def tyX6 : Nat → FieldType := fun k => match k with
  | 0 => .array .long
  | 1 => .long
  | 2 => .long
  | 3 => .long
  | 4 => .long
  | 5 => .long
  | 6 => .long
  | 7 => .long
  | 8 => .long
  | _ => .int
theorem nmX6 : ∀ a, a < 10 → ∀ b, b < 10 → a ≠ b → (TX6 a).2.1 ≠ (TX6 b).2.1 := by decide +kernel
theorem tyX6_ok : ∀ k, k < 10 → parseFieldDescriptor (TX6 k).2.2.1 = some (tyX6 k) := by decide +kernel
abbrev cX6_init : ByteArray := prog_8_method_1_code
def yX6_init : MethodName := ⟨RX6, "<init>", "()V"⟩
abbrev cX6_loseLate : ByteArray := prog_8_method_2_code
def yX6_loseLate : MethodName := ⟨RX6, "loseLate", "(ILSalvageCourt$Law;)V"⟩
abbrev cX6_pay : ByteArray := prog_8_method_3_code
def yX6_pay : MethodName := ⟨RX6, "pay", "(LSalvageCourt$Ship;)V"⟩
abbrev cX6_payHands : ByteArray := prog_8_method_4_code
def yX6_payHands : MethodName := ⟨RX6, "payHands", "(LSalvageCourt$Crew;)V"⟩
def RX7 : String := "SalvageCourt$Ship"
def TX7 : u_T := fun k => match k with
  | 0 => ("SalvageCourt$Ship", "crew", "LSalvageCourt$Crew;", true)
  | 1 => ("SalvageCourt$Ship", "tons", "I", false)
  | 2 => ("SalvageCourt$Ship", "came", "I", false)
  | 3 => ("SalvageCourt$Ship", "left", "I", false)
  | 4 => ("SalvageCourt$Ship", "claim", "I", false)
  | 5 => ("SalvageCourt$Ship", "owner", "I", false)
  | _ => ("SalvageCourt$Ship", "master", "I", false)
def tyX7 : Nat → FieldType := fun k => match k with
  | 0 => .object "SalvageCourt$Crew"
  | 1 => .int
  | 2 => .int
  | 3 => .int
  | 4 => .int
  | 5 => .int
  | _ => .int
theorem nmX7 : ∀ a, a < 7 → ∀ b, b < 7 → a ≠ b → (TX7 a).2.1 ≠ (TX7 b).2.1 := by decide +kernel
theorem tyX7_ok : ∀ k, k < 7 → parseFieldDescriptor (TX7 k).2.2.1 = some (tyX7 k) := by decide +kernel
abbrev cX7_init : ByteArray := prog_9_method_1_code
def yX7_init : MethodName := ⟨RX7, "<init>", "()V"⟩
def RX8 : String := "SalvageCourt$Tale"
def TX8 : u_T := fun k => match k with
  | 0 => ("SalvageCourt$Tale", "trusts", "[I", true)
  | 1 => ("SalvageCourt$Tale", "log", "[I", true)
  | 2 => ("SalvageCourt$Tale", "from", "[I", true)
  | 3 => ("SalvageCourt$Tale", "to", "[I", true)
  | 4 => ("SalvageCourt$Tale", "low", "[I", true)
  | 5 => ("SalvageCourt$Tale", "high", "[I", true)
  | 6 => ("SalvageCourt$Tale", "told", "I", false)
  | 7 => ("SalvageCourt$Tale", "believedBounds", "LSalvageCourt$Bounds;", true)
  | 8 => ("SalvageCourt$Tale", "isBelieved", "[Z", true)
  | 9 => ("SalvageCourt$Tale", "believedCount", "I", false)
  | 10 => ("SalvageCourt$Tale", "beliefStands", "Z", false)
  | 11 => ("SalvageCourt$Tale", "trialBounds", "LSalvageCourt$Bounds;", true)
  | 12 => ("SalvageCourt$Tale", "stays", "[Z", true)
  | 13 => ("SalvageCourt$Tale", "staying", "I", false)
  | _ => ("SalvageCourt$Tale", "quarrelStands", "Z", false)
def tyX8 : Nat → FieldType := fun k => match k with
  | 0 => .array .int
  | 1 => .array .int
  | 2 => .array .int
  | 3 => .array .int
  | 4 => .array .int
  | 5 => .array .int
  | 6 => .int
  | 7 => .object "SalvageCourt$Bounds"
  | 8 => .array .boolean
  | 9 => .int
  | 10 => .boolean
  | 11 => .object "SalvageCourt$Bounds"
  | 12 => .array .boolean
  | 13 => .int
  | _ => .boolean
theorem nmX8 : ∀ a, a < 15 → ∀ b, b < 15 → a ≠ b → (TX8 a).2.1 ≠ (TX8 b).2.1 := by decide +kernel
theorem tyX8_ok : ∀ k, k < 15 → parseFieldDescriptor (TX8 k).2.2.1 = some (tyX8 k) := by decide +kernel
abbrev cX8_init : ByteArray := prog_10_method_1_code
def yX8_init : MethodName := ⟨RX8, "<init>", "()V"⟩
abbrev cX8_setTrust : ByteArray := prog_10_method_2_code
def yX8_setTrust : MethodName := ⟨RX8, "setTrust", "(II)I"⟩
abbrev cX8_add : ByteArray := prog_10_method_3_code
def yX8_add : MethodName := ⟨RX8, "add", "(IIIII)I"⟩
abbrev cX8_has : ByteArray := prog_10_method_4_code
def yX8_has : MethodName := ⟨RX8, "has", "(I)Z"⟩
abbrev cX8_believes : ByteArray := prog_10_method_5_code
def yX8_believes : MethodName := ⟨RX8, "believes", "(I)Z"⟩
abbrev cX8_howManyBelieved : ByteArray := prog_10_method_6_code
def yX8_howManyBelieved : MethodName := ⟨RX8, "howManyBelieved", "()I"⟩
abbrev cX8_leastSpan : ByteArray := prog_10_method_7_code
def yX8_leastSpan : MethodName := ⟨RX8, "leastSpan", "(II)I"⟩
abbrev cX8_greatestSpan : ByteArray := prog_10_method_8_code
def yX8_greatestSpan : MethodName := ⟨RX8, "greatestSpan", "(II)I"⟩
abbrev cX8_quarrelSize : ByteArray := prog_10_method_9_code
def yX8_quarrelSize : MethodName := ⟨RX8, "quarrelSize", "()I"⟩
abbrev cX8_quarrelling : ByteArray := prog_10_method_10_code
def yX8_quarrelling : MethodName := ⟨RX8, "quarrelling", "(I)I"⟩
abbrev cX8_settleBelief : ByteArray := prog_10_method_11_code
def yX8_settleBelief : MethodName := ⟨RX8, "settleBelief", "()V"⟩
abbrev cX8_settleQuarrel : ByteArray := prog_10_method_12_code
def yX8_settleQuarrel : MethodName := ⟨RX8, "settleQuarrel", "()V"⟩
abbrev cX8_firstToBreak : ByteArray := prog_10_method_13_code
def yX8_firstToBreak : MethodName := ⟨RX8, "firstToBreak", "(I)I"⟩
abbrev cX8_takes : ByteArray := prog_10_method_14_code
def yX8_takes : MethodName := ⟨RX8, "takes", "(LSalvageCourt$Bounds;I)Z"⟩
def RX9 : String := "SalvageCourt$Tape"
def TX9 : u_T := fun k => match k with
  | 0 => ("SalvageCourt$Tape", "bytes", "[B", true)
  | 1 => ("SalvageCourt$Tape", "length", "I", false)
  | 2 => ("SalvageCourt$Tape", "place", "I", false)
  | 3 => ("SalvageCourt$Tape", "wordPlace", "I", false)
  | 4 => ("SalvageCourt$Tape", "told", "I", false)
  | _ => ("SalvageCourt$Tape", "fault", "I", false)
def tyX9 : Nat → FieldType := fun k => match k with
  | 0 => .array .byte
  | 1 => .int
  | 2 => .int
  | 3 => .int
  | 4 => .int
  | _ => .int
theorem nmX9 : ∀ a, a < 6 → ∀ b, b < 6 → a ≠ b → (TX9 a).2.1 ≠ (TX9 b).2.1 := by decide +kernel
theorem tyX9_ok : ∀ k, k < 6 → parseFieldDescriptor (TX9 k).2.2.1 = some (tyX9 k) := by decide +kernel
abbrev cX9_init : ByteArray := prog_11_method_1_code
def yX9_init : MethodName := ⟨RX9, "<init>", "()V"⟩
abbrev cX9_append : ByteArray := prog_11_method_2_code
def yX9_append : MethodName := ⟨RX9, "append", "(I)V"⟩
abbrev cX9_readInto : ByteArray := prog_11_method_3_code
def yX9_readInto : MethodName := ⟨RX9, "readInto", "(LSalvageCourt$Law;)I"⟩
abbrev cX9_readClause : ByteArray := prog_11_method_4_code
def yX9_readClause : MethodName := ⟨RX9, "readClause", "(LSalvageCourt$Law;)V"⟩
abbrev cX9_readWeight : ByteArray := prog_11_method_5_code
def yX9_readWeight : MethodName := ⟨RX9, "readWeight", "(LSalvageCourt$Law;)V"⟩
abbrev cX9_tellOnce : ByteArray := prog_11_method_6_code
def yX9_tellOnce : MethodName := ⟨RX9, "tellOnce", "(I)V"⟩
abbrev cX9_readWord : ByteArray := prog_11_method_7_code
def yX9_readWord : MethodName := ⟨RX9, "readWord", "(Ljava/lang/String;)I"⟩
abbrev cX9_numberOfWord : ByteArray := prog_11_method_8_code
def yX9_numberOfWord : MethodName := ⟨RX9, "numberOfWord", "(Ljava/lang/String;)I"⟩
abbrev cX9_readNumber : ByteArray := prog_11_method_9_code
def yX9_readNumber : MethodName := ⟨RX9, "readNumber", "(I)I"⟩
abbrev cX9_readSemicolon : ByteArray := prog_11_method_10_code
def yX9_readSemicolon : MethodName := ⟨RX9, "readSemicolon", "()V"⟩
abbrev cX9_skipBlanks : ByteArray := prog_11_method_11_code
def yX9_skipBlanks : MethodName := ⟨RX9, "skipBlanks", "()V"⟩
abbrev cX9_refuse : ByteArray := prog_11_method_12_code
def yX9_refuse : MethodName := ⟨RX9, "refuse", "(II)V"⟩
abbrev cX9_isBetween : ByteArray := prog_11_method_13_code
def yX9_isBetween : MethodName := ⟨RX9, "isBetween", "(BCC)Z"⟩
def RX10 : String := "SalvageCourt$Times"
def TX10 : u_T := fun k => match k with
  | 0 => ("SalvageCourt$Times", "since", "[I", true)
  | _ => ("SalvageCourt$Times", "knownSince", "[I", true)
def tyX10 : Nat → FieldType := fun k => match k with
  | 0 => .array .int
  | _ => .array .int
theorem nmX10 : ∀ a, a < 2 → ∀ b, b < 2 → a ≠ b → (TX10 a).2.1 ≠ (TX10 b).2.1 := by decide +kernel
theorem tyX10_ok : ∀ k, k < 2 → parseFieldDescriptor (TX10 k).2.2.1 = some (tyX10 k) := by decide +kernel
abbrev cX10_init : ByteArray := prog_12_method_1_code
def yX10_init : MethodName := ⟨RX10, "<init>", "(I)V"⟩
abbrev cX10_set : ByteArray := prog_12_method_2_code
def yX10_set : MethodName := ⟨RX10, "set", "(III)V"⟩
abbrev cX10_isSet : ByteArray := prog_12_method_3_code
def yX10_isSet : MethodName := ⟨RX10, "isSet", "(I)Z"⟩
abbrev cX10_holds : ByteArray := prog_12_method_4_code
def yX10_holds : MethodName := ⟨RX10, "holds", "(III)Z"⟩
abbrev cX10_supersedes : ByteArray := prog_12_method_5_code
def yX10_supersedes : MethodName := ⟨RX10, "supersedes", "(II)Z"⟩
abbrev cX10_latestOf : ByteArray := prog_12_method_6_code
def yX10_latestOf : MethodName := ⟨RX10, "latestOf", "(III)I"⟩
def RX11 : String := "SalvageCourt"
def TX11 : u_T := fun k => match k with
  | 0 => ("SalvageCourt", "tale", "LSalvageCourt$Tale;", true)
  | 1 => ("SalvageCourt", "goods", "LSalvageCourt$Goods;", true)
  | 2 => ("SalvageCourt", "cases", "LSalvageCourt$Cases;", true)
  | 3 => ("SalvageCourt", "tape", "LSalvageCourt$Tape;", true)
  | 4 => ("SalvageCourt", "laws", "[LSalvageCourt$Law;", true)
  | 5 => ("SalvageCourt", "lawTimes", "LSalvageCourt$Times;", true)
  | 6 => ("SalvageCourt", "sheet", "LSalvageCourt$Crew;", true)
  | 7 => ("SalvageCourt", "ships", "[LSalvageCourt$Ship;", true)
  | 8 => ("SalvageCourt", "latest", "LSalvageCourt$Judgement;", true)
  | 9 => ("SalvageCourt", "today", "I", false)
  | 10 => ("SalvageCourt", "suitMarks", "I", false)
  | 11 => ("SalvageCourt", "suitLives", "I", false)
  | 12 => ("SalvageCourt", "lawCount", "I", false)
  | _ => ("SalvageCourt", "shipCount", "I", false)
def tyX11 : Nat → FieldType := fun k => match k with
  | 0 => .object "SalvageCourt$Tale"
  | 1 => .object "SalvageCourt$Goods"
  | 2 => .object "SalvageCourt$Cases"
  | 3 => .object "SalvageCourt$Tape"
  | 4 => .array (.object "SalvageCourt$Law")
  | 5 => .object "SalvageCourt$Times"
  | 6 => .object "SalvageCourt$Crew"
  | 7 => .array (.object "SalvageCourt$Ship")
  | 8 => .object "SalvageCourt$Judgement"
  | 9 => .int
  | 10 => .int
  | 11 => .int
  | 12 => .int
  | _ => .int
theorem nmX11 : ∀ a, a < 14 → ∀ b, b < 14 → a ≠ b → (TX11 a).2.1 ≠ (TX11 b).2.1 := by decide +kernel
theorem tyX11_ok : ∀ k, k < 14 → parseFieldDescriptor (TX11 k).2.2.1 = some (tyX11 k) := by decide +kernel
abbrev cX11_init : ByteArray := prog_1_method_1_code
def yX11_init : MethodName := ⟨RX11, "<init>", "()V"⟩
abbrev cX11_clock : ByteArray := prog_1_method_2_code
def yX11_clock : MethodName := ⟨RX11, "clock", "(I)Z"⟩
abbrev cX11_trust : ByteArray := prog_1_method_3_code
def yX11_trust : MethodName := ⟨RX11, "trust", "(II)I"⟩
abbrev cX11_says : ByteArray := prog_1_method_4_code
def yX11_says : MethodName := ⟨RX11, "says", "(IIIII)I"⟩
abbrev cX11_believed : ByteArray := prog_1_method_5_code
def yX11_believed : MethodName := ⟨RX11, "believed", "(I)I"⟩
abbrev cX11_spans : ByteArray := prog_1_method_6_code
def yX11_spans : MethodName := ⟨RX11, "spans", "(III)I"⟩
abbrev cX11_quarrel : ByteArray := prog_1_method_7_code
def yX11_quarrel : MethodName := ⟨RX11, "quarrel", "()I"⟩
abbrev cX11_quarrels : ByteArray := prog_1_method_8_code
def yX11_quarrels : MethodName := ⟨RX11, "quarrels", "(I)I"⟩
abbrev cX11_value : ByteArray := prog_1_method_9_code
def yX11_value : MethodName := ⟨RX11, "value", "(IIII)I"⟩
abbrev cX11_earlier : ByteArray := prog_1_method_10_code
def yX11_earlier : MethodName := ⟨RX11, "earlier", "(III)I"⟩
abbrev cX11_overrule : ByteArray := prog_1_method_11_code
def yX11_overrule : MethodName := ⟨RX11, "overrule", "(II)Z"⟩
abbrev cX11_suit : ByteArray := prog_1_method_12_code
def yX11_suit : MethodName := ⟨RX11, "suit", "(II)Z"⟩
abbrev cX11_feed : ByteArray := prog_1_method_13_code
def yX11_feed : MethodName := ⟨RX11, "feed", "(IIIII)I"⟩
abbrev cX11_end : ByteArray := prog_1_method_14_code
def yX11_end : MethodName := ⟨RX11, "end", "(I)I"⟩
abbrev cX11_law : ByteArray := prog_1_method_15_code
def yX11_law : MethodName := ⟨RX11, "law", "(I)I"⟩
abbrev cX11_sheet : ByteArray := prog_1_method_16_code
def yX11_sheet : MethodName := ⟨RX11, "sheet", "(IJJJJ)Z"⟩
abbrev cX11_ship : ByteArray := prog_1_method_17_code
def yX11_ship : MethodName := ⟨RX11, "ship", "(IIIIII)I"⟩
abbrev cX11_judge : ByteArray := prog_1_method_18_code
def yX11_judge : MethodName := ⟨RX11, "judge", "(II)I"⟩
abbrev cX11_judged : ByteArray := prog_1_method_19_code
def yX11_judged : MethodName := ⟨RX11, "judged", "(I)J"⟩
abbrev cX11_like : ByteArray := prog_1_method_20_code
def yX11_like : MethodName := ⟨RX11, "like", "(I)I"⟩
abbrev cX11_share : ByteArray := prog_1_method_21_code
def yX11_share : MethodName := ⟨RX11, "share", "(II)J"⟩
abbrev cX11_hand : ByteArray := prog_1_method_22_code
def yX11_hand : MethodName := ⟨RX11, "hand", "(II)J"⟩
abbrev cX11_saved : ByteArray := prog_1_method_23_code
def yX11_saved : MethodName := ⟨RX11, "saved", "(III)I"⟩
abbrev cX11_count : ByteArray := prog_1_method_24_code
def yX11_count : MethodName := ⟨RX11, "count", "(I)I"⟩
abbrev cX11_isWithin : ByteArray := prog_1_method_25_code
def yX11_isWithin : MethodName := ⟨RX11, "isWithin", "(III)Z"⟩
abbrev cX11_isDay : ByteArray := prog_1_method_26_code
def yX11_isDay : MethodName := ⟨RX11, "isDay", "(I)Z"⟩
abbrev cX11_isThing : ByteArray := prog_1_method_27_code
def yX11_isThing : MethodName := ⟨RX11, "isThing", "(I)Z"⟩
abbrev cX11_isGood : ByteArray := prog_1_method_28_code
def yX11_isGood : MethodName := ⟨RX11, "isGood", "(I)Z"⟩
abbrev cX11_handWeight : ByteArray := prog_1_method_29_code
def yX11_handWeight : MethodName := ⟨RX11, "handWeight", "(IJJJJ)I"⟩
def RX12 : String := "SalvageCourtModel"
def TX12 : u_T := fun k => match k with
  | 0 => ("SalvageCourtModel", "thrown", "I", false)
  | 1 => ("SalvageCourtModel", "clock", "I", false)
  | 2 => ("SalvageCourtModel", "trust", "[I", true)
  | 3 => ("SalvageCourtModel", "sayings", "I", false)
  | 4 => ("SalvageCourtModel", "log", "[I", true)
  | 5 => ("SalvageCourtModel", "first", "[I", true)
  | 6 => ("SalvageCourtModel", "second", "[I", true)
  | 7 => ("SalvageCourtModel", "low", "[I", true)
  | 8 => ("SalvageCourtModel", "high", "[I", true)
  | 9 => ("SalvageCourtModel", "most", "[[J", true)
  | 10 => ("SalvageCourtModel", "isIn", "[Z", true)
  | 11 => ("SalvageCourtModel", "values", "I", false)
  | 12 => ("SalvageCourtModel", "good", "[I", true)
  | 13 => ("SalvageCourtModel", "coins", "[I", true)
  | 14 => ("SalvageCourtModel", "repairs", "[I", true)
  | 15 => ("SalvageCourtModel", "valueDay", "[I", true)
  | 16 => ("SalvageCourtModel", "valueKnown", "[I", true)
  | 17 => ("SalvageCourtModel", "cases", "I", false)
  | 18 => ("SalvageCourtModel", "marks", "[I", true)
  | 19 => ("SalvageCourtModel", "award", "[I", true)
  | 20 => ("SalvageCourtModel", "caseDay", "[I", true)
  | 21 => ("SalvageCourtModel", "caseKnown", "[I", true)
  | 22 => ("SalvageCourtModel", "overDay", "[I", true)
  | 23 => ("SalvageCourtModel", "overKnown", "[I", true)
  | 24 => ("SalvageCourtModel", "suitMarks", "I", false)
  | 25 => ("SalvageCourtModel", "lives", "I", false)
  | 26 => ("SalvageCourtModel", "laws", "I", false)
  | 27 => ("SalvageCourtModel", "lawDay", "[I", true)
  | 28 => ("SalvageCourtModel", "lawKnown", "[I", true)
  | 29 => ("SalvageCourtModel", "laid", "[[I", true)
  | 30 => ("SalvageCourtModel", "tape", "[B", true)
  | 31 => ("SalvageCourtModel", "taped", "I", false)
  | 32 => ("SalvageCourtModel", "at", "I", false)
  | 33 => ("SalvageCourtModel", "from", "I", false)
  | 34 => ("SalvageCourtModel", "fault", "I", false)
  | 35 => ("SalvageCourtModel", "hasSheet", "Z", false)
  | 36 => ("SalvageCourtModel", "sheetHands", "I", false)
  | 37 => ("SalvageCourtModel", "sheetWeight", "[I", true)
  | 38 => ("SalvageCourtModel", "ships", "I", false)
  | 39 => ("SalvageCourtModel", "tons", "[I", true)
  | 40 => ("SalvageCourtModel", "came", "[I", true)
  | 41 => ("SalvageCourtModel", "left", "[I", true)
  | 42 => ("SalvageCourtModel", "claim", "[I", true)
  | 43 => ("SalvageCourtModel", "owner", "[I", true)
  | 44 => ("SalvageCourtModel", "master", "[I", true)
  | 45 => ("SalvageCourtModel", "hands", "[I", true)
  | 46 => ("SalvageCourtModel", "weight", "[[I", true)
  | 47 => ("SalvageCourtModel", "isJudged", "Z", false)
  | 48 => ("SalvageCourtModel", "itsLaw", "I", false)
  | 49 => ("SalvageCourtModel", "likes", "I", false)
  | 50 => ("SalvageCourtModel", "rate", "I", false)
  | 51 => ("SalvageCourtModel", "itsShips", "I", false)
  | 52 => ("SalvageCourtModel", "like", "[I", true)
  | 53 => ("SalvageCourtModel", "all", "J", false)
  | 54 => ("SalvageCourtModel", "given", "J", false)
  | 55 => ("SalvageCourtModel", "back", "J", false)
  | 56 => ("SalvageCourtModel", "share", "[[J", true)
  | 57 => ("SalvageCourtModel", "hand", "[[J", true)
  | _ => ("SalvageCourtModel", "itsHands", "[I", true)
def tyX12 : Nat → FieldType := fun k => match k with
  | 0 => .int
  | 1 => .int
  | 2 => .array .int
  | 3 => .int
  | 4 => .array .int
  | 5 => .array .int
  | 6 => .array .int
  | 7 => .array .int
  | 8 => .array .int
  | 9 => .array (.array .long)
  | 10 => .array .boolean
  | 11 => .int
  | 12 => .array .int
  | 13 => .array .int
  | 14 => .array .int
  | 15 => .array .int
  | 16 => .array .int
  | 17 => .int
  | 18 => .array .int
  | 19 => .array .int
  | 20 => .array .int
  | 21 => .array .int
  | 22 => .array .int
  | 23 => .array .int
  | 24 => .int
  | 25 => .int
  | 26 => .int
  | 27 => .array .int
  | 28 => .array .int
  | 29 => .array (.array .int)
  | 30 => .array .byte
  | 31 => .int
  | 32 => .int
  | 33 => .int
  | 34 => .int
  | 35 => .boolean
  | 36 => .int
  | 37 => .array .int
  | 38 => .int
  | 39 => .array .int
  | 40 => .array .int
  | 41 => .array .int
  | 42 => .array .int
  | 43 => .array .int
  | 44 => .array .int
  | 45 => .array .int
  | 46 => .array (.array .int)
  | 47 => .boolean
  | 48 => .int
  | 49 => .int
  | 50 => .int
  | 51 => .int
  | 52 => .array .int
  | 53 => .long
  | 54 => .long
  | 55 => .long
  | 56 => .array (.array .long)
  | 57 => .array (.array .long)
  | _ => .array .int
theorem nmX12 : ∀ a, a < 59 → ∀ b, b < 59 → a ≠ b → (TX12 a).2.1 ≠ (TX12 b).2.1 := by decide +kernel
theorem tyX12_ok : ∀ k, k < 59 → parseFieldDescriptor (TX12 k).2.2.1 = some (tyX12 k) := by decide +kernel
abbrev cX12_init : ByteArray := prog_14_method_1_code
def yX12_init : MethodName := ⟨RX12, "<init>", "()V"⟩
abbrev cX12_in : ByteArray := prog_14_method_3_code
def yX12_in : MethodName := ⟨RX12, "in", "(III)Z"⟩
abbrev cX12_clock : ByteArray := prog_14_method_4_code
def yX12_clock : MethodName := ⟨RX12, "clock", "(I)Z"⟩
abbrev cX12_trust : ByteArray := prog_14_method_5_code
def yX12_trust : MethodName := ⟨RX12, "trust", "(II)I"⟩
abbrev cX12_says : ByteArray := prog_14_method_6_code
def yX12_says : MethodName := ⟨RX12, "says", "(IIIII)I"⟩
abbrev cX12_canBe : ByteArray := prog_14_method_7_code
def yX12_canBe : MethodName := ⟨RX12, "canBe", "()Z"⟩
abbrev cX12_believe : ByteArray := prog_14_method_8_code
def yX12_believe : MethodName := ⟨RX12, "believe", "()V"⟩
abbrev cX12_believed : ByteArray := prog_14_method_9_code
def yX12_believed : MethodName := ⟨RX12, "believed", "(I)I"⟩
abbrev cX12_spans : ByteArray := prog_14_method_10_code
def yX12_spans : MethodName := ⟨RX12, "spans", "(III)I"⟩
abbrev cX12_quarrel : ByteArray := prog_14_method_11_code
def yX12_quarrel : MethodName := ⟨RX12, "quarrel", "()I"⟩
abbrev cX12_quarrels : ByteArray := prog_14_method_12_code
def yX12_quarrels : MethodName := ⟨RX12, "quarrels", "(I)I"⟩
abbrev cX12_value : ByteArray := prog_14_method_13_code
def yX12_value : MethodName := ⟨RX12, "value", "(IIII)I"⟩
abbrev cX12_saved : ByteArray := prog_14_method_14_code
def yX12_saved : MethodName := ⟨RX12, "saved", "(III)I"⟩
abbrev cX12_earlier : ByteArray := prog_14_method_15_code
def yX12_earlier : MethodName := ⟨RX12, "earlier", "(III)I"⟩
abbrev cX12_overrule : ByteArray := prog_14_method_16_code
def yX12_overrule : MethodName := ⟨RX12, "overrule", "(II)Z"⟩
abbrev cX12_suit : ByteArray := prog_14_method_17_code
def yX12_suit : MethodName := ⟨RX12, "suit", "(II)Z"⟩
abbrev cX12_feed : ByteArray := prog_14_method_18_code
def yX12_feed : MethodName := ⟨RX12, "feed", "(IIIII)I"⟩
abbrev cX12_put : ByteArray := prog_14_method_19_code
def yX12_put : MethodName := ⟨RX12, "put", "(I)V"⟩
abbrev cX12_end : ByteArray := prog_14_method_20_code
def yX12_end : MethodName := ⟨RX12, "end", "(I)I"⟩
abbrev cX12_fails : ByteArray := prog_14_method_21_code
def yX12_fails : MethodName := ⟨RX12, "fails", "(II)V"⟩
abbrev cX12_isEnd : ByteArray := prog_14_method_22_code
def yX12_isEnd : MethodName := ⟨RX12, "isEnd", "()Z"⟩
abbrev cX12_word : ByteArray := prog_14_method_23_code
def yX12_word : MethodName := ⟨RX12, "word", "()V"⟩
abbrev cX12_is : ByteArray := prog_14_method_24_code
def yX12_is : MethodName := ⟨RX12, "is", "(Ljava/lang/String;)Z"⟩
abbrev cX12_number : ByteArray := prog_14_method_25_code
def yX12_number : MethodName := ⟨RX12, "number", "(II)I"⟩
abbrev cX12_markOf : ByteArray := prog_14_method_26_code
def yX12_markOf : MethodName := ⟨RX12, "markOf", "(I)Ljava/lang/String;"⟩
abbrev cX12_clauseOf : ByteArray := prog_14_method_27_code
def yX12_clauseOf : MethodName := ⟨RX12, "clauseOf", "(I)Ljava/lang/String;"⟩
abbrev cX12_gives : ByteArray := prog_14_method_28_code
def yX12_gives : MethodName := ⟨RX12, "gives", "()I"⟩
abbrev cX12_clause : ByteArray := prog_14_method_29_code
def yX12_clause : MethodName := ⟨RX12, "clause", "([I[Z)V"⟩
abbrev cX12_law : ByteArray := prog_14_method_30_code
def yX12_law : MethodName := ⟨RX12, "law", "(I)I"⟩
abbrev cX12_sheet : ByteArray := prog_14_method_31_code
def yX12_sheet : MethodName := ⟨RX12, "sheet", "(IJJJJ)Z"⟩
abbrev cX12_ship : ByteArray := prog_14_method_32_code
def yX12_ship : MethodName := ⟨RX12, "ship", "(IIIIII)I"⟩
abbrev cX12_distance : ByteArray := prog_14_method_33_code
def yX12_distance : MethodName := ⟨RX12, "distance", "(I[I)I"⟩
abbrev cX12_rated : ByteArray := prog_14_method_34_code
def yX12_rated : MethodName := ⟨RX12, "rated", "([I)I"⟩
abbrev cX12_judge : ByteArray := prog_14_method_35_code
def yX12_judge : MethodName := ⟨RX12, "judge", "(II)I"⟩
abbrev cX12_parts : ByteArray := prog_14_method_36_code
def yX12_parts : MethodName := ⟨RX12, "parts", "([I)V"⟩
abbrev cX12_aboard : ByteArray := prog_14_method_37_code
def yX12_aboard : MethodName := ⟨RX12, "aboard", "(I[I)V"⟩
abbrev cX12_judged : ByteArray := prog_14_method_38_code
def yX12_judged : MethodName := ⟨RX12, "judged", "(I)J"⟩
abbrev cX12_like : ByteArray := prog_14_method_39_code
def yX12_like : MethodName := ⟨RX12, "like", "(I)I"⟩
abbrev cX12_share : ByteArray := prog_14_method_40_code
def yX12_share : MethodName := ⟨RX12, "share", "(II)J"⟩
abbrev cX12_hand : ByteArray := prog_14_method_41_code
def yX12_hand : MethodName := ⟨RX12, "hand", "(II)J"⟩
abbrev cX12_count : ByteArray := prog_14_method_42_code
def yX12_count : MethodName := ⟨RX12, "count", "(I)I"⟩
def RJ9 : String := "java/lang/Math"
def TJ9 : u_T := fun k => match k with
  | _ => ("", "", "", false)
def tyJ9 : Nat → FieldType := fun k => match k with
  | _ => .int
theorem nmJ9 : ∀ a, a < 0 → ∀ b, b < 0 → a ≠ b → (TJ9 a).2.1 ≠ (TJ9 b).2.1 := by decide +kernel
theorem tyJ9_ok : ∀ k, k < 0 → parseFieldDescriptor (TJ9 k).2.2.1 = some (tyJ9 k) := by decide +kernel
abbrev cJ9_abs_0f7a4 : ByteArray := prog_15_method_59_code
def yJ9_abs_0f7a4 : MethodName := ⟨RJ9, "abs", "(I)I"⟩
abbrev cJ9_max_7cf53 : ByteArray := prog_15_method_65_code
def yJ9_max_7cf53 : MethodName := ⟨RJ9, "max", "(II)I"⟩
abbrev cJ9_min_7cf53 : ByteArray := prog_15_method_69_code
def yJ9_min_7cf53 : MethodName := ⟨RJ9, "min", "(II)I"⟩
abbrev cJ9_min_f86c9 : ByteArray := prog_15_method_70_code
def yJ9_min_f86c9 : MethodName := ⟨RJ9, "min", "(JJ)J"⟩
def RJ0 : String := "java/lang/String"
def TJ0 : u_T := fun k => match k with
  | _ => ("", "", "", false)
def tyJ0 : Nat → FieldType := fun k => match k with
  | _ => .int
theorem nmJ0 : ∀ a, a < 0 → ∀ b, b < 0 → a ≠ b → (TJ0 a).2.1 ≠ (TJ0 b).2.1 := by decide +kernel
theorem tyJ0_ok : ∀ k, k < 0 → parseFieldDescriptor (TJ0 k).2.2.1 = some (tyJ0 k) := by decide +kernel
abbrev cJ0_length_8abf5 : ByteArray := prog_16_method_54_code
def yJ0_length_8abf5 : MethodName := ⟨RJ0, "length", "()I"⟩
abbrev cJ0_charAt_5068e : ByteArray := prog_16_method_56_code
def yJ0_charAt_5068e : MethodName := ⟨RJ0, "charAt", "(I)C"⟩
abbrev cJ0_coder_7d493 : ByteArray := prog_16_method_152_code
def yJ0_coder_7d493 : MethodName := ⟨RJ0, "coder", "()B"⟩
abbrev cJ0_isLatin1_aae02 : ByteArray := prog_16_method_154_code
def yJ0_isLatin1_aae02 : MethodName := ⟨RJ0, "isLatin1", "()Z"⟩
abbrev cJ0_checkIndex_df160 : ByteArray := prog_16_method_155_code
def yJ0_checkIndex_df160 : MethodName := ⟨RJ0, "checkIndex", "(II)V"⟩
def RJ1 : String := "java/lang/StringLatin1"
def TJ1 : u_T := fun k => match k with
  | _ => ("", "", "", false)
def tyJ1 : Nat → FieldType := fun k => match k with
  | _ => .int
theorem nmJ1 : ∀ a, a < 0 → ∀ b, b < 0 → a ≠ b → (TJ1 a).2.1 ≠ (TJ1 b).2.1 := by decide +kernel
theorem tyJ1_ok : ∀ k, k < 0 → parseFieldDescriptor (TJ1 k).2.2.1 = some (tyJ1 k) := by decide +kernel
abbrev cJ1_charAt_3b067 : ByteArray := prog_17_method_2_code
def yJ1_charAt_3b067 : MethodName := ⟨RJ1, "charAt", "([BI)C"⟩
def RJ2 : String := "java/lang/StringUTF16"
def TJ2 : u_T := fun k => match k with
  | _ => ("", "", "", false)
def tyJ2 : Nat → FieldType := fun k => match k with
  | _ => .int
theorem nmJ2 : ∀ a, a < 0 → ∀ b, b < 0 → a ≠ b → (TJ2 a).2.1 ≠ (TJ2 b).2.1 := by decide +kernel
theorem tyJ2_ok : ∀ k, k < 0 → parseFieldDescriptor (TJ2 k).2.2.1 = some (tyJ2 k) := by decide +kernel
abbrev cJ2_getChar_3b067 : ByteArray := prog_18_method_5_code
def yJ2_getChar_3b067 : MethodName := ⟨RJ2, "getChar", "([BI)C"⟩
abbrev cJ2_length_9d52b : ByteArray := prog_18_method_6_code
def yJ2_length_9d52b : MethodName := ⟨RJ2, "length", "([B)I"⟩
abbrev cJ2_charAt_3b067 : ByteArray := prog_18_method_83_code
def yJ2_charAt_3b067 : MethodName := ⟨RJ2, "charAt", "([BI)C"⟩
abbrev cJ2_checkIndex_2214a : ByteArray := prog_18_method_91_code
def yJ2_checkIndex_2214a : MethodName := ⟨RJ2, "checkIndex", "(I[B)V"⟩
def RJ7 : String := "java/util/Arrays"
def TJ7 : u_T := fun k => match k with
  | _ => ("", "", "", false)
def tyJ7 : Nat → FieldType := fun k => match k with
  | _ => .int
theorem nmJ7 : ∀ a, a < 0 → ∀ b, b < 0 → a ≠ b → (TJ7 a).2.1 ≠ (TJ7 b).2.1 := by decide +kernel
theorem tyJ7_ok : ∀ k, k < 0 → parseFieldDescriptor (TJ7 k).2.2.1 = some (tyJ7 k) := by decide +kernel
abbrev cJ7_fill_53178 : ByteArray := prog_19_method_103_code
def yJ7_fill_53178 : MethodName := ⟨RJ7, "fill", "([II)V"⟩
def RJ3 : String := "jdk/internal/util/Preconditions"
def TJ3 : u_T := fun k => match k with
  | _ => ("", "", "", false)
def tyJ3 : Nat → FieldType := fun k => match k with
  | _ => .int
theorem nmJ3 : ∀ a, a < 0 → ∀ b, b < 0 → a ≠ b → (TJ3 a).2.1 ≠ (TJ3 b).2.1 := by decide +kernel
theorem tyJ3_ok : ∀ k, k < 0 → parseFieldDescriptor (TJ3 k).2.2.1 = some (tyJ3 k) := by decide +kernel
abbrev cJ3_checkIndex_8e157 : ByteArray := prog_20_method_11_code
def yJ3_checkIndex_8e157 : MethodName := ⟨RJ3, "checkIndex", "(IILjava/util/function/BiFunction;)I"⟩
def RL : String := "SalvageCourtLaw"
abbrev cL_law : ByteArray := code
def yL_law : MethodName := ⟨RL, "law", "([I)Z"⟩
abbrev vwCl : List vw_C := [(RX0, TX0, 1), (RX1, TX1, 5), (RX2, TX2, 3), (RX3, TX3, 4), (RX4, TX4, 11), (RX5, TX5, 7), (RX6, TX6, 10), (RX7, TX7, 7), (RX8, TX8, 15), (RX9, TX9, 6), (RX10, TX10, 2), (RX11, TX11, 14), (RX12, TX12, 59)]
end
section
theorem dX0_init_0 : decode cX0_init 0 = .ok (.aload_n 0, 1) := by decide +kernel
theorem dX0_init_1 : decode cX0_init 1 = .ok (.invokespecial 3, 3) := by decide +kernel
theorem dX0_init_4 : decode cX0_init 4 = .ok (.aload_n 0, 1) := by decide +kernel
theorem dX0_init_5 : decode cX0_init 5 = .ok (.sipush 256, 3) := by decide +kernel
theorem dX0_init_8 : decode cX0_init 8 = .ok (.newarray .int, 2) := by decide +kernel
theorem dX0_init_10 : decode cX0_init 10 = .ok (.putfield 9, 3) := by decide +kernel
theorem dX0_init_13 : decode cX0_init 13 = .ok (.return_, 1) := by decide +kernel
theorem dX0_clear_0 : decode cX0_clear 0 = .ok (.aload_n 0, 1) := by decide +kernel
theorem dX0_clear_1 : decode cX0_clear 1 = .ok (.getfield 9, 3) := by decide +kernel
theorem dX0_clear_4 : decode cX0_clear 4 = .ok (.ldc 15, 2) := by decide +kernel
theorem dX0_clear_6 : decode cX0_clear 6 = .ok (.invokestatic 16, 3) := by decide +kernel
theorem dX0_clear_9 : decode cX0_clear 9 = .ok (.iconst 0, 1) := by decide +kernel
theorem dX0_clear_10 : decode cX0_clear 10 = .ok (.istore_n 1, 1) := by decide +kernel
theorem dX0_clear_11 : decode cX0_clear 11 = .ok (.iload_n 1, 1) := by decide +kernel
theorem dX0_clear_12 : decode cX0_clear 12 = .ok (.bipush 16, 2) := by decide +kernel
theorem dX0_clear_14 : decode cX0_clear 14 = .ok (.if_icmp .ge 21, 3) := by decide +kernel
theorem dX0_clear_17 : decode cX0_clear 17 = .ok (.aload_n 0, 1) := by decide +kernel
theorem dX0_clear_18 : decode cX0_clear 18 = .ok (.getfield 9, 3) := by decide +kernel
theorem dX0_clear_21 : decode cX0_clear 21 = .ok (.iload_n 1, 1) := by decide +kernel
theorem dX0_clear_22 : decode cX0_clear 22 = .ok (.bipush 16, 2) := by decide +kernel
theorem dX0_clear_24 : decode cX0_clear 24 = .ok (.imul, 1) := by decide +kernel
theorem dX0_clear_25 : decode cX0_clear 25 = .ok (.iload_n 1, 1) := by decide +kernel
theorem dX0_clear_26 : decode cX0_clear 26 = .ok (.iadd, 1) := by decide +kernel
theorem dX0_clear_27 : decode cX0_clear 27 = .ok (.iconst 0, 1) := by decide +kernel
theorem dX0_clear_28 : decode cX0_clear 28 = .ok (.iastore, 1) := by decide +kernel
theorem dX0_clear_29 : decode cX0_clear 29 = .ok (.iinc 1 1, 3) := by decide +kernel
theorem dX0_clear_32 : decode cX0_clear 32 = .ok (.goto (-21), 3) := by decide +kernel
theorem dX0_clear_35 : decode cX0_clear 35 = .ok (.return_, 1) := by decide +kernel
theorem dX0_greatest_0 : decode cX0_greatest 0 = .ok (.aload_n 0, 1) := by decide +kernel
theorem dX0_greatest_1 : decode cX0_greatest 1 = .ok (.getfield 9, 3) := by decide +kernel
theorem dX0_greatest_4 : decode cX0_greatest 4 = .ok (.iload_n 1, 1) := by decide +kernel
theorem dX0_greatest_5 : decode cX0_greatest 5 = .ok (.bipush 16, 2) := by decide +kernel
theorem dX0_greatest_7 : decode cX0_greatest 7 = .ok (.imul, 1) := by decide +kernel
theorem dX0_greatest_8 : decode cX0_greatest 8 = .ok (.iload_n 2, 1) := by decide +kernel
theorem dX0_greatest_9 : decode cX0_greatest 9 = .ok (.iadd, 1) := by decide +kernel
theorem dX0_greatest_10 : decode cX0_greatest 10 = .ok (.iaload, 1) := by decide +kernel
theorem dX0_greatest_11 : decode cX0_greatest 11 = .ok (.istore_n 3, 1) := by decide +kernel
theorem dX0_greatest_12 : decode cX0_greatest 12 = .ok (.iload_n 3, 1) := by decide +kernel
theorem dX0_greatest_13 : decode cX0_greatest 13 = .ok (.ldc 15, 2) := by decide +kernel
theorem dX0_greatest_15 : decode cX0_greatest 15 = .ok (.if_icmp .ne 8, 3) := by decide +kernel
theorem dX0_greatest_18 : decode cX0_greatest 18 = .ok (.ldc 22, 2) := by decide +kernel
theorem dX0_greatest_20 : decode cX0_greatest 20 = .ok (.goto 4, 3) := by decide +kernel
theorem dX0_greatest_23 : decode cX0_greatest 23 = .ok (.iload_n 3, 1) := by decide +kernel
theorem dX0_greatest_24 : decode cX0_greatest 24 = .ok (.ireturn, 1) := by decide +kernel
theorem dX0_least_0 : decode cX0_least 0 = .ok (.aload_n 0, 1) := by decide +kernel
theorem dX0_least_1 : decode cX0_least 1 = .ok (.getfield 9, 3) := by decide +kernel
theorem dX0_least_4 : decode cX0_least 4 = .ok (.iload_n 2, 1) := by decide +kernel
theorem dX0_least_5 : decode cX0_least 5 = .ok (.bipush 16, 2) := by decide +kernel
theorem dX0_least_7 : decode cX0_least 7 = .ok (.imul, 1) := by decide +kernel
theorem dX0_least_8 : decode cX0_least 8 = .ok (.iload_n 1, 1) := by decide +kernel
theorem dX0_least_9 : decode cX0_least 9 = .ok (.iadd, 1) := by decide +kernel
theorem dX0_least_10 : decode cX0_least 10 = .ok (.iaload, 1) := by decide +kernel
theorem dX0_least_11 : decode cX0_least 11 = .ok (.istore_n 3, 1) := by decide +kernel
theorem dX0_least_12 : decode cX0_least 12 = .ok (.iload_n 3, 1) := by decide +kernel
theorem dX0_least_13 : decode cX0_least 13 = .ok (.ldc 15, 2) := by decide +kernel
theorem dX0_least_15 : decode cX0_least 15 = .ok (.if_icmp .ne 8, 3) := by decide +kernel
theorem dX0_least_18 : decode cX0_least 18 = .ok (.ldc 22, 2) := by decide +kernel
theorem dX0_least_20 : decode cX0_least 20 = .ok (.goto 5, 3) := by decide +kernel
theorem dX0_least_23 : decode cX0_least 23 = .ok (.iload_n 3, 1) := by decide +kernel
theorem dX0_least_24 : decode cX0_least 24 = .ok (.ineg, 1) := by decide +kernel
theorem dX0_least_25 : decode cX0_least 25 = .ok (.ireturn, 1) := by decide +kernel
theorem dX0_narrow_0 : decode cX0_narrow 0 = .ok (.iload_n 3, 1) := by decide +kernel
theorem dX0_narrow_1 : decode cX0_narrow 1 = .ok (.aload_n 0, 1) := by decide +kernel
theorem dX0_narrow_2 : decode cX0_narrow 2 = .ok (.getfield 9, 3) := by decide +kernel
theorem dX0_narrow_5 : decode cX0_narrow 5 = .ok (.iload_n 1, 1) := by decide +kernel
theorem dX0_narrow_6 : decode cX0_narrow 6 = .ok (.bipush 16, 2) := by decide +kernel
theorem dX0_narrow_8 : decode cX0_narrow 8 = .ok (.imul, 1) := by decide +kernel
theorem dX0_narrow_9 : decode cX0_narrow 9 = .ok (.iload_n 2, 1) := by decide +kernel
theorem dX0_narrow_10 : decode cX0_narrow 10 = .ok (.iadd, 1) := by decide +kernel
theorem dX0_narrow_11 : decode cX0_narrow 11 = .ok (.iaload, 1) := by decide +kernel
theorem dX0_narrow_12 : decode cX0_narrow 12 = .ok (.if_icmp .gt 20, 3) := by decide +kernel
theorem dX0_narrow_15 : decode cX0_narrow 15 = .ok (.iload 4, 2) := by decide +kernel
theorem dX0_narrow_17 : decode cX0_narrow 17 = .ok (.aload_n 0, 1) := by decide +kernel
theorem dX0_narrow_18 : decode cX0_narrow 18 = .ok (.getfield 9, 3) := by decide +kernel
theorem dX0_narrow_21 : decode cX0_narrow 21 = .ok (.iload_n 2, 1) := by decide +kernel
theorem dX0_narrow_22 : decode cX0_narrow 22 = .ok (.bipush 16, 2) := by decide +kernel
theorem dX0_narrow_24 : decode cX0_narrow 24 = .ok (.imul, 1) := by decide +kernel
theorem dX0_narrow_25 : decode cX0_narrow 25 = .ok (.iload_n 1, 1) := by decide +kernel
theorem dX0_narrow_26 : decode cX0_narrow 26 = .ok (.iadd, 1) := by decide +kernel
theorem dX0_narrow_27 : decode cX0_narrow 27 = .ok (.iaload, 1) := by decide +kernel
theorem dX0_narrow_28 : decode cX0_narrow 28 = .ok (.ineg, 1) := by decide +kernel
theorem dX0_narrow_29 : decode cX0_narrow 29 = .ok (.if_icmp .ge 5, 3) := by decide +kernel
theorem dX0_narrow_32 : decode cX0_narrow 32 = .ok (.iconst 0, 1) := by decide +kernel
theorem dX0_narrow_33 : decode cX0_narrow 33 = .ok (.ireturn, 1) := by decide +kernel
theorem dX0_narrow_34 : decode cX0_narrow 34 = .ok (.aload_n 0, 1) := by decide +kernel
theorem dX0_narrow_35 : decode cX0_narrow 35 = .ok (.iload_n 1, 1) := by decide +kernel
theorem dX0_narrow_36 : decode cX0_narrow 36 = .ok (.iload_n 2, 1) := by decide +kernel
theorem dX0_narrow_37 : decode cX0_narrow 37 = .ok (.iload 4, 2) := by decide +kernel
theorem dX0_narrow_39 : decode cX0_narrow 39 = .ok (.invokevirtual 23, 3) := by decide +kernel
theorem dX0_narrow_42 : decode cX0_narrow 42 = .ok (.aload_n 0, 1) := by decide +kernel
theorem dX0_narrow_43 : decode cX0_narrow 43 = .ok (.iload_n 2, 1) := by decide +kernel
theorem dX0_narrow_44 : decode cX0_narrow 44 = .ok (.iload_n 1, 1) := by decide +kernel
theorem dX0_narrow_45 : decode cX0_narrow 45 = .ok (.iload_n 3, 1) := by decide +kernel
theorem dX0_narrow_46 : decode cX0_narrow 46 = .ok (.ineg, 1) := by decide +kernel
theorem dX0_narrow_47 : decode cX0_narrow 47 = .ok (.invokevirtual 23, 3) := by decide +kernel
theorem dX0_narrow_50 : decode cX0_narrow 50 = .ok (.iconst 1, 1) := by decide +kernel
theorem dX0_narrow_51 : decode cX0_narrow 51 = .ok (.ireturn, 1) := by decide +kernel
theorem dX0_limit_0 : decode cX0_limit 0 = .ok (.iload_n 3, 1) := by decide +kernel
theorem dX0_limit_1 : decode cX0_limit 1 = .ok (.aload_n 0, 1) := by decide +kernel
theorem dX0_limit_2 : decode cX0_limit 2 = .ok (.getfield 9, 3) := by decide +kernel
theorem dX0_limit_5 : decode cX0_limit 5 = .ok (.iload_n 1, 1) := by decide +kernel
theorem dX0_limit_6 : decode cX0_limit 6 = .ok (.bipush 16, 2) := by decide +kernel
theorem dX0_limit_8 : decode cX0_limit 8 = .ok (.imul, 1) := by decide +kernel
theorem dX0_limit_9 : decode cX0_limit 9 = .ok (.iload_n 2, 1) := by decide +kernel
theorem dX0_limit_10 : decode cX0_limit 10 = .ok (.iadd, 1) := by decide +kernel
theorem dX0_limit_11 : decode cX0_limit 11 = .ok (.iaload, 1) := by decide +kernel
theorem dX0_limit_12 : decode cX0_limit 12 = .ok (.if_icmp .lt 4, 3) := by decide +kernel
theorem dX0_limit_15 : decode cX0_limit 15 = .ok (.return_, 1) := by decide +kernel
theorem dX0_limit_16 : decode cX0_limit 16 = .ok (.iconst 0, 1) := by decide +kernel
theorem dX0_limit_17 : decode cX0_limit 17 = .ok (.istore 4, 2) := by decide +kernel
theorem dX0_limit_19 : decode cX0_limit 19 = .ok (.iload 4, 2) := by decide +kernel
theorem dX0_limit_21 : decode cX0_limit 21 = .ok (.bipush 16, 2) := by decide +kernel
theorem dX0_limit_23 : decode cX0_limit 23 = .ok (.if_icmp .ge 110, 3) := by decide +kernel
theorem dX0_limit_26 : decode cX0_limit 26 = .ok (.aload_n 0, 1) := by decide +kernel
theorem dX0_limit_27 : decode cX0_limit 27 = .ok (.getfield 9, 3) := by decide +kernel
theorem dX0_limit_30 : decode cX0_limit 30 = .ok (.iload 4, 2) := by decide +kernel
theorem dX0_limit_32 : decode cX0_limit 32 = .ok (.bipush 16, 2) := by decide +kernel
theorem dX0_limit_34 : decode cX0_limit 34 = .ok (.imul, 1) := by decide +kernel
theorem dX0_limit_35 : decode cX0_limit 35 = .ok (.iload_n 1, 1) := by decide +kernel
theorem dX0_limit_36 : decode cX0_limit 36 = .ok (.iadd, 1) := by decide +kernel
theorem dX0_limit_37 : decode cX0_limit 37 = .ok (.iaload, 1) := by decide +kernel
theorem dX0_limit_38 : decode cX0_limit 38 = .ok (.istore 5, 2) := by decide +kernel
theorem dX0_limit_40 : decode cX0_limit 40 = .ok (.iconst 0, 1) := by decide +kernel
theorem dX0_limit_41 : decode cX0_limit 41 = .ok (.istore 6, 2) := by decide +kernel
theorem dX0_limit_43 : decode cX0_limit 43 = .ok (.iload 6, 2) := by decide +kernel
theorem dX0_limit_45 : decode cX0_limit 45 = .ok (.bipush 16, 2) := by decide +kernel
theorem dX0_limit_47 : decode cX0_limit 47 = .ok (.if_icmp .ge 80, 3) := by decide +kernel
theorem dX0_limit_50 : decode cX0_limit 50 = .ok (.iload 5, 2) := by decide +kernel
theorem dX0_limit_52 : decode cX0_limit 52 = .ok (.ldc 15, 2) := by decide +kernel
theorem dX0_limit_54 : decode cX0_limit 54 = .ok (.if_icmp .eq 73, 3) := by decide +kernel
theorem dX0_limit_57 : decode cX0_limit 57 = .ok (.aload_n 0, 1) := by decide +kernel
theorem dX0_limit_58 : decode cX0_limit 58 = .ok (.getfield 9, 3) := by decide +kernel
theorem dX0_limit_61 : decode cX0_limit 61 = .ok (.iload_n 2, 1) := by decide +kernel
theorem dX0_limit_62 : decode cX0_limit 62 = .ok (.bipush 16, 2) := by decide +kernel
theorem dX0_limit_64 : decode cX0_limit 64 = .ok (.imul, 1) := by decide +kernel
theorem dX0_limit_65 : decode cX0_limit 65 = .ok (.iload 6, 2) := by decide +kernel
theorem dX0_limit_67 : decode cX0_limit 67 = .ok (.iadd, 1) := by decide +kernel
theorem dX0_limit_68 : decode cX0_limit 68 = .ok (.iaload, 1) := by decide +kernel
theorem dX0_limit_69 : decode cX0_limit 69 = .ok (.istore 7, 2) := by decide +kernel
theorem dX0_limit_71 : decode cX0_limit 71 = .ok (.iload 7, 2) := by decide +kernel
theorem dX0_limit_73 : decode cX0_limit 73 = .ok (.ldc 15, 2) := by decide +kernel
theorem dX0_limit_75 : decode cX0_limit 75 = .ok (.if_icmp .eq 46, 3) := by decide +kernel
theorem dX0_limit_78 : decode cX0_limit 78 = .ok (.iload 5, 2) := by decide +kernel
theorem dX0_limit_80 : decode cX0_limit 80 = .ok (.iload_n 3, 1) := by decide +kernel
theorem dX0_limit_81 : decode cX0_limit 81 = .ok (.iadd, 1) := by decide +kernel
theorem dX0_limit_82 : decode cX0_limit 82 = .ok (.iload 7, 2) := by decide +kernel
theorem dX0_limit_84 : decode cX0_limit 84 = .ok (.iadd, 1) := by decide +kernel
theorem dX0_limit_85 : decode cX0_limit 85 = .ok (.aload_n 0, 1) := by decide +kernel
theorem dX0_limit_86 : decode cX0_limit 86 = .ok (.getfield 9, 3) := by decide +kernel
theorem dX0_limit_89 : decode cX0_limit 89 = .ok (.iload 4, 2) := by decide +kernel
theorem dX0_limit_91 : decode cX0_limit 91 = .ok (.bipush 16, 2) := by decide +kernel
theorem dX0_limit_93 : decode cX0_limit 93 = .ok (.imul, 1) := by decide +kernel
theorem dX0_limit_94 : decode cX0_limit 94 = .ok (.iload 6, 2) := by decide +kernel
theorem dX0_limit_96 : decode cX0_limit 96 = .ok (.iadd, 1) := by decide +kernel
theorem dX0_limit_97 : decode cX0_limit 97 = .ok (.iaload, 1) := by decide +kernel
theorem dX0_limit_98 : decode cX0_limit 98 = .ok (.if_icmp .ge 23, 3) := by decide +kernel
theorem dX0_limit_101 : decode cX0_limit 101 = .ok (.aload_n 0, 1) := by decide +kernel
theorem dX0_limit_102 : decode cX0_limit 102 = .ok (.getfield 9, 3) := by decide +kernel
theorem dX0_limit_105 : decode cX0_limit 105 = .ok (.iload 4, 2) := by decide +kernel
theorem dX0_limit_107 : decode cX0_limit 107 = .ok (.bipush 16, 2) := by decide +kernel
theorem dX0_limit_109 : decode cX0_limit 109 = .ok (.imul, 1) := by decide +kernel
theorem dX0_limit_110 : decode cX0_limit 110 = .ok (.iload 6, 2) := by decide +kernel
theorem dX0_limit_112 : decode cX0_limit 112 = .ok (.iadd, 1) := by decide +kernel
theorem dX0_limit_113 : decode cX0_limit 113 = .ok (.iload 5, 2) := by decide +kernel
theorem dX0_limit_115 : decode cX0_limit 115 = .ok (.iload_n 3, 1) := by decide +kernel
theorem dX0_limit_116 : decode cX0_limit 116 = .ok (.iadd, 1) := by decide +kernel
theorem dX0_limit_117 : decode cX0_limit 117 = .ok (.iload 7, 2) := by decide +kernel
theorem dX0_limit_119 : decode cX0_limit 119 = .ok (.iadd, 1) := by decide +kernel
theorem dX0_limit_120 : decode cX0_limit 120 = .ok (.iastore, 1) := by decide +kernel
theorem dX0_limit_121 : decode cX0_limit 121 = .ok (.iinc 6 1, 3) := by decide +kernel
theorem dX0_limit_124 : decode cX0_limit 124 = .ok (.goto (-81), 3) := by decide +kernel
theorem dX0_limit_127 : decode cX0_limit 127 = .ok (.iinc 4 1, 3) := by decide +kernel
theorem dX0_limit_130 : decode cX0_limit 130 = .ok (.goto (-111), 3) := by decide +kernel
theorem dX0_limit_133 : decode cX0_limit 133 = .ok (.return_, 1) := by decide +kernel
theorem dX1_init_0 : decode cX1_init 0 = .ok (.aload_n 0, 1) := by decide +kernel
theorem dX1_init_1 : decode cX1_init 1 = .ok (.invokespecial 3, 3) := by decide +kernel
theorem dX1_init_4 : decode cX1_init 4 = .ok (.aload_n 0, 1) := by decide +kernel
theorem dX1_init_5 : decode cX1_init 5 = .ok (.bipush 40, 2) := by decide +kernel
theorem dX1_init_7 : decode cX1_init 7 = .ok (.newarray .int, 2) := by decide +kernel
theorem dX1_init_9 : decode cX1_init 9 = .ok (.putfield 9, 3) := by decide +kernel
theorem dX1_init_12 : decode cX1_init 12 = .ok (.aload_n 0, 1) := by decide +kernel
theorem dX1_init_13 : decode cX1_init 13 = .ok (.bipush 40, 2) := by decide +kernel
theorem dX1_init_15 : decode cX1_init 15 = .ok (.newarray .int, 2) := by decide +kernel
theorem dX1_init_17 : decode cX1_init 17 = .ok (.putfield 15, 3) := by decide +kernel
theorem dX1_init_20 : decode cX1_init 20 = .ok (.aload_n 0, 1) := by decide +kernel
theorem dX1_init_21 : decode cX1_init 21 = .ok (.new 18, 3) := by decide +kernel
theorem dX1_init_24 : decode cX1_init 24 = .ok (.dup, 1) := by decide +kernel
theorem dX1_init_25 : decode cX1_init 25 = .ok (.bipush 40, 2) := by decide +kernel
theorem dX1_init_27 : decode cX1_init 27 = .ok (.invokespecial 20, 3) := by decide +kernel
theorem dX1_init_30 : decode cX1_init 30 = .ok (.putfield 23, 3) := by decide +kernel
theorem dX1_init_33 : decode cX1_init 33 = .ok (.aload_n 0, 1) := by decide +kernel
theorem dX1_init_34 : decode cX1_init 34 = .ok (.new 18, 3) := by decide +kernel
theorem dX1_init_37 : decode cX1_init 37 = .ok (.dup, 1) := by decide +kernel
theorem dX1_init_38 : decode cX1_init 38 = .ok (.bipush 40, 2) := by decide +kernel
theorem dX1_init_40 : decode cX1_init 40 = .ok (.invokespecial 20, 3) := by decide +kernel
theorem dX1_init_43 : decode cX1_init 43 = .ok (.putfield 27, 3) := by decide +kernel
theorem dX1_init_46 : decode cX1_init 46 = .ok (.return_, 1) := by decide +kernel
theorem dX1_add_0 : decode cX1_add 0 = .ok (.aload_n 0, 1) := by decide +kernel
theorem dX1_add_1 : decode cX1_add 1 = .ok (.getfield 30, 3) := by decide +kernel
theorem dX1_add_4 : decode cX1_add 4 = .ok (.bipush 40, 2) := by decide +kernel
theorem dX1_add_6 : decode cX1_add 6 = .ok (.if_icmp .lt 5, 3) := by decide +kernel
theorem dX1_add_9 : decode cX1_add 9 = .ok (.iconst (-1), 1) := by decide +kernel
theorem dX1_add_10 : decode cX1_add 10 = .ok (.ireturn, 1) := by decide +kernel
theorem dX1_add_11 : decode cX1_add 11 = .ok (.aload_n 0, 1) := by decide +kernel
theorem dX1_add_12 : decode cX1_add 12 = .ok (.getfield 9, 3) := by decide +kernel
theorem dX1_add_15 : decode cX1_add 15 = .ok (.aload_n 0, 1) := by decide +kernel
theorem dX1_add_16 : decode cX1_add 16 = .ok (.getfield 30, 3) := by decide +kernel
theorem dX1_add_19 : decode cX1_add 19 = .ok (.iload_n 1, 1) := by decide +kernel
theorem dX1_add_20 : decode cX1_add 20 = .ok (.iastore, 1) := by decide +kernel
theorem dX1_add_21 : decode cX1_add 21 = .ok (.aload_n 0, 1) := by decide +kernel
theorem dX1_add_22 : decode cX1_add 22 = .ok (.getfield 15, 3) := by decide +kernel
theorem dX1_add_25 : decode cX1_add 25 = .ok (.aload_n 0, 1) := by decide +kernel
theorem dX1_add_26 : decode cX1_add 26 = .ok (.getfield 30, 3) := by decide +kernel
theorem dX1_add_29 : decode cX1_add 29 = .ok (.iload_n 2, 1) := by decide +kernel
theorem dX1_add_30 : decode cX1_add 30 = .ok (.iastore, 1) := by decide +kernel
theorem dX1_add_31 : decode cX1_add 31 = .ok (.aload_n 0, 1) := by decide +kernel
theorem dX1_add_32 : decode cX1_add 32 = .ok (.getfield 23, 3) := by decide +kernel
theorem dX1_add_35 : decode cX1_add 35 = .ok (.aload_n 0, 1) := by decide +kernel
theorem dX1_add_36 : decode cX1_add 36 = .ok (.getfield 30, 3) := by decide +kernel
theorem dX1_add_39 : decode cX1_add 39 = .ok (.iload_n 3, 1) := by decide +kernel
theorem dX1_add_40 : decode cX1_add 40 = .ok (.iload 4, 2) := by decide +kernel
theorem dX1_add_42 : decode cX1_add 42 = .ok (.invokevirtual 34, 3) := by decide +kernel
theorem dX1_add_45 : decode cX1_add 45 = .ok (.aload_n 0, 1) := by decide +kernel
theorem dX1_add_46 : decode cX1_add 46 = .ok (.dup, 1) := by decide +kernel
theorem dX1_add_47 : decode cX1_add 47 = .ok (.getfield 30, 3) := by decide +kernel
theorem dX1_add_50 : decode cX1_add 50 = .ok (.iconst 1, 1) := by decide +kernel
theorem dX1_add_51 : decode cX1_add 51 = .ok (.iadd, 1) := by decide +kernel
theorem dX1_add_52 : decode cX1_add 52 = .ok (.putfield 30, 3) := by decide +kernel
theorem dX1_add_55 : decode cX1_add 55 = .ok (.aload_n 0, 1) := by decide +kernel
theorem dX1_add_56 : decode cX1_add 56 = .ok (.getfield 30, 3) := by decide +kernel
theorem dX1_add_59 : decode cX1_add 59 = .ok (.iconst 1, 1) := by decide +kernel
theorem dX1_add_60 : decode cX1_add 60 = .ok (.isub, 1) := by decide +kernel
theorem dX1_add_61 : decode cX1_add 61 = .ok (.ireturn, 1) := by decide +kernel
theorem dX1_setOverruled_0 : decode cX1_setOverruled 0 = .ok (.iload_n 1, 1) := by decide +kernel
theorem dX1_setOverruled_1 : decode cX1_setOverruled 1 = .ok (.iconst 0, 1) := by decide +kernel
theorem dX1_setOverruled_2 : decode cX1_setOverruled 2 = .ok (.aload_n 0, 1) := by decide +kernel
theorem dX1_setOverruled_3 : decode cX1_setOverruled 3 = .ok (.getfield 30, 3) := by decide +kernel
theorem dX1_setOverruled_6 : decode cX1_setOverruled 6 = .ok (.iconst 1, 1) := by decide +kernel
theorem dX1_setOverruled_7 : decode cX1_setOverruled 7 = .ok (.isub, 1) := by decide +kernel
theorem dX1_setOverruled_8 : decode cX1_setOverruled 8 = .ok (.invokestatic 38, 3) := by decide +kernel
theorem dX1_setOverruled_11 : decode cX1_setOverruled 11 = .ok (.ifCond .eq 14, 3) := by decide +kernel
theorem dX1_setOverruled_14 : decode cX1_setOverruled 14 = .ok (.aload_n 0, 1) := by decide +kernel
theorem dX1_setOverruled_15 : decode cX1_setOverruled 15 = .ok (.getfield 27, 3) := by decide +kernel
theorem dX1_setOverruled_18 : decode cX1_setOverruled 18 = .ok (.iload_n 1, 1) := by decide +kernel
theorem dX1_setOverruled_19 : decode cX1_setOverruled 19 = .ok (.invokevirtual 42, 3) := by decide +kernel
theorem dX1_setOverruled_22 : decode cX1_setOverruled 22 = .ok (.ifCond .eq 5, 3) := by decide +kernel
theorem dX1_setOverruled_25 : decode cX1_setOverruled 25 = .ok (.iconst 0, 1) := by decide +kernel
theorem dX1_setOverruled_26 : decode cX1_setOverruled 26 = .ok (.ireturn, 1) := by decide +kernel
theorem dX1_setOverruled_27 : decode cX1_setOverruled 27 = .ok (.aload_n 0, 1) := by decide +kernel
theorem dX1_setOverruled_28 : decode cX1_setOverruled 28 = .ok (.getfield 27, 3) := by decide +kernel
theorem dX1_setOverruled_31 : decode cX1_setOverruled 31 = .ok (.iload_n 1, 1) := by decide +kernel
theorem dX1_setOverruled_32 : decode cX1_setOverruled 32 = .ok (.iload_n 2, 1) := by decide +kernel
theorem dX1_setOverruled_33 : decode cX1_setOverruled 33 = .ok (.iload_n 3, 1) := by decide +kernel
theorem dX1_setOverruled_34 : decode cX1_setOverruled 34 = .ok (.invokevirtual 34, 3) := by decide +kernel
theorem dX1_setOverruled_37 : decode cX1_setOverruled 37 = .ok (.iconst 1, 1) := by decide +kernel
theorem dX1_setOverruled_38 : decode cX1_setOverruled 38 = .ok (.ireturn, 1) := by decide +kernel
theorem dX1_findLike_0 : decode cX1_findLike 0 = .ok (.iconst 0, 1) := by decide +kernel
theorem dX1_findLike_1 : decode cX1_findLike 1 = .ok (.istore 6, 2) := by decide +kernel
theorem dX1_findLike_3 : decode cX1_findLike 3 = .ok (.iconst 0, 1) := by decide +kernel
theorem dX1_findLike_4 : decode cX1_findLike 4 = .ok (.istore 7, 2) := by decide +kernel
theorem dX1_findLike_6 : decode cX1_findLike 6 = .ok (.iload 7, 2) := by decide +kernel
theorem dX1_findLike_8 : decode cX1_findLike 8 = .ok (.aload_n 0, 1) := by decide +kernel
theorem dX1_findLike_9 : decode cX1_findLike 9 = .ok (.getfield 30, 3) := by decide +kernel
theorem dX1_findLike_12 : decode cX1_findLike 12 = .ok (.if_icmp .ge 88, 3) := by decide +kernel
theorem dX1_findLike_15 : decode cX1_findLike 15 = .ok (.iload 6, 2) := by decide +kernel
theorem dX1_findLike_17 : decode cX1_findLike 17 = .ok (.aload 5, 2) := by decide +kernel
theorem dX1_findLike_19 : decode cX1_findLike 19 = .ok (.arraylength, 1) := by decide +kernel
theorem dX1_findLike_20 : decode cX1_findLike 20 = .ok (.if_icmp .ge 80, 3) := by decide +kernel
theorem dX1_findLike_23 : decode cX1_findLike 23 = .ok (.aload_n 0, 1) := by decide +kernel
theorem dX1_findLike_24 : decode cX1_findLike 24 = .ok (.getfield 23, 3) := by decide +kernel
theorem dX1_findLike_27 : decode cX1_findLike 27 = .ok (.iload 7, 2) := by decide +kernel
theorem dX1_findLike_29 : decode cX1_findLike 29 = .ok (.iload_n 3, 1) := by decide +kernel
theorem dX1_findLike_30 : decode cX1_findLike 30 = .ok (.iload 4, 2) := by decide +kernel
theorem dX1_findLike_32 : decode cX1_findLike 32 = .ok (.invokevirtual 46, 3) := by decide +kernel
theorem dX1_findLike_35 : decode cX1_findLike 35 = .ok (.ifCond .eq 22, 3) := by decide +kernel
theorem dX1_findLike_38 : decode cX1_findLike 38 = .ok (.aload_n 0, 1) := by decide +kernel
theorem dX1_findLike_39 : decode cX1_findLike 39 = .ok (.getfield 27, 3) := by decide +kernel
theorem dX1_findLike_42 : decode cX1_findLike 42 = .ok (.iload 7, 2) := by decide +kernel
theorem dX1_findLike_44 : decode cX1_findLike 44 = .ok (.iload_n 3, 1) := by decide +kernel
theorem dX1_findLike_45 : decode cX1_findLike 45 = .ok (.iload 4, 2) := by decide +kernel
theorem dX1_findLike_47 : decode cX1_findLike 47 = .ok (.invokevirtual 46, 3) := by decide +kernel
theorem dX1_findLike_50 : decode cX1_findLike 50 = .ok (.ifCond .ne 7, 3) := by decide +kernel
theorem dX1_findLike_53 : decode cX1_findLike 53 = .ok (.iconst 1, 1) := by decide +kernel
theorem dX1_findLike_54 : decode cX1_findLike 54 = .ok (.goto 4, 3) := by decide +kernel
theorem dX1_findLike_57 : decode cX1_findLike 57 = .ok (.iconst 0, 1) := by decide +kernel
theorem dX1_findLike_58 : decode cX1_findLike 58 = .ok (.istore 8, 2) := by decide +kernel
theorem dX1_findLike_60 : decode cX1_findLike 60 = .ok (.iload 8, 2) := by decide +kernel
theorem dX1_findLike_62 : decode cX1_findLike 62 = .ok (.ifCond .eq 32, 3) := by decide +kernel
theorem dX1_findLike_65 : decode cX1_findLike 65 = .ok (.aload_n 1, 1) := by decide +kernel
theorem dX1_findLike_66 : decode cX1_findLike 66 = .ok (.aload_n 0, 1) := by decide +kernel
theorem dX1_findLike_67 : decode cX1_findLike 67 = .ok (.getfield 9, 3) := by decide +kernel
theorem dX1_findLike_70 : decode cX1_findLike 70 = .ok (.iload 7, 2) := by decide +kernel
theorem dX1_findLike_72 : decode cX1_findLike 72 = .ok (.iaload, 1) := by decide +kernel
theorem dX1_findLike_73 : decode cX1_findLike 73 = .ok (.iload_n 2, 1) := by decide +kernel
theorem dX1_findLike_74 : decode cX1_findLike 74 = .ok (.invokevirtual 49, 3) := by decide +kernel
theorem dX1_findLike_77 : decode cX1_findLike 77 = .ok (.aload_n 1, 1) := by decide +kernel
theorem dX1_findLike_78 : decode cX1_findLike 78 = .ok (.getfield 55, 3) := by decide +kernel
theorem dX1_findLike_81 : decode cX1_findLike 81 = .ok (.if_icmp .gt 13, 3) := by decide +kernel
theorem dX1_findLike_84 : decode cX1_findLike 84 = .ok (.aload 5, 2) := by decide +kernel
theorem dX1_findLike_86 : decode cX1_findLike 86 = .ok (.iload 6, 2) := by decide +kernel
theorem dX1_findLike_88 : decode cX1_findLike 88 = .ok (.iload 7, 2) := by decide +kernel
theorem dX1_findLike_90 : decode cX1_findLike 90 = .ok (.iastore, 1) := by decide +kernel
theorem dX1_findLike_91 : decode cX1_findLike 91 = .ok (.iinc 6 1, 3) := by decide +kernel
theorem dX1_findLike_94 : decode cX1_findLike 94 = .ok (.iinc 7 1, 3) := by decide +kernel
theorem dX1_findLike_97 : decode cX1_findLike 97 = .ok (.goto (-91), 3) := by decide +kernel
theorem dX1_findLike_100 : decode cX1_findLike 100 = .ok (.iload 6, 2) := by decide +kernel
theorem dX1_findLike_102 : decode cX1_findLike 102 = .ok (.ireturn, 1) := by decide +kernel
theorem dX1_sortAwards_0 : decode cX1_sortAwards 0 = .ok (.iconst 0, 1) := by decide +kernel
theorem dX1_sortAwards_1 : decode cX1_sortAwards 1 = .ok (.istore 4, 2) := by decide +kernel
theorem dX1_sortAwards_3 : decode cX1_sortAwards 3 = .ok (.iload 4, 2) := by decide +kernel
theorem dX1_sortAwards_5 : decode cX1_sortAwards 5 = .ok (.iload_n 2, 1) := by decide +kernel
theorem dX1_sortAwards_6 : decode cX1_sortAwards 6 = .ok (.if_icmp .ge 69, 3) := by decide +kernel
theorem dX1_sortAwards_9 : decode cX1_sortAwards 9 = .ok (.iload 4, 2) := by decide +kernel
theorem dX1_sortAwards_11 : decode cX1_sortAwards 11 = .ok (.aload_n 3, 1) := by decide +kernel
theorem dX1_sortAwards_12 : decode cX1_sortAwards 12 = .ok (.arraylength, 1) := by decide +kernel
theorem dX1_sortAwards_13 : decode cX1_sortAwards 13 = .ok (.if_icmp .ge 62, 3) := by decide +kernel
theorem dX1_sortAwards_16 : decode cX1_sortAwards 16 = .ok (.aload_n 0, 1) := by decide +kernel
theorem dX1_sortAwards_17 : decode cX1_sortAwards 17 = .ok (.getfield 15, 3) := by decide +kernel
theorem dX1_sortAwards_20 : decode cX1_sortAwards 20 = .ok (.aload_n 1, 1) := by decide +kernel
theorem dX1_sortAwards_21 : decode cX1_sortAwards 21 = .ok (.iload 4, 2) := by decide +kernel
theorem dX1_sortAwards_23 : decode cX1_sortAwards 23 = .ok (.iaload, 1) := by decide +kernel
theorem dX1_sortAwards_24 : decode cX1_sortAwards 24 = .ok (.iaload, 1) := by decide +kernel
theorem dX1_sortAwards_25 : decode cX1_sortAwards 25 = .ok (.istore 5, 2) := by decide +kernel
theorem dX1_sortAwards_27 : decode cX1_sortAwards 27 = .ok (.iload 4, 2) := by decide +kernel
theorem dX1_sortAwards_29 : decode cX1_sortAwards 29 = .ok (.istore 6, 2) := by decide +kernel
theorem dX1_sortAwards_31 : decode cX1_sortAwards 31 = .ok (.iload 6, 2) := by decide +kernel
theorem dX1_sortAwards_33 : decode cX1_sortAwards 33 = .ok (.ifCond .le 30, 3) := by decide +kernel
theorem dX1_sortAwards_36 : decode cX1_sortAwards 36 = .ok (.aload_n 3, 1) := by decide +kernel
theorem dX1_sortAwards_37 : decode cX1_sortAwards 37 = .ok (.iload 6, 2) := by decide +kernel
theorem dX1_sortAwards_39 : decode cX1_sortAwards 39 = .ok (.iconst 1, 1) := by decide +kernel
theorem dX1_sortAwards_40 : decode cX1_sortAwards 40 = .ok (.isub, 1) := by decide +kernel
theorem dX1_sortAwards_41 : decode cX1_sortAwards 41 = .ok (.iaload, 1) := by decide +kernel
theorem dX1_sortAwards_42 : decode cX1_sortAwards 42 = .ok (.iload 5, 2) := by decide +kernel
theorem dX1_sortAwards_44 : decode cX1_sortAwards 44 = .ok (.if_icmp .le 19, 3) := by decide +kernel
theorem dX1_sortAwards_47 : decode cX1_sortAwards 47 = .ok (.aload_n 3, 1) := by decide +kernel
theorem dX1_sortAwards_48 : decode cX1_sortAwards 48 = .ok (.iload 6, 2) := by decide +kernel
theorem dX1_sortAwards_50 : decode cX1_sortAwards 50 = .ok (.aload_n 3, 1) := by decide +kernel
theorem dX1_sortAwards_51 : decode cX1_sortAwards 51 = .ok (.iload 6, 2) := by decide +kernel
theorem dX1_sortAwards_53 : decode cX1_sortAwards 53 = .ok (.iconst 1, 1) := by decide +kernel
theorem dX1_sortAwards_54 : decode cX1_sortAwards 54 = .ok (.isub, 1) := by decide +kernel
theorem dX1_sortAwards_55 : decode cX1_sortAwards 55 = .ok (.iaload, 1) := by decide +kernel
theorem dX1_sortAwards_56 : decode cX1_sortAwards 56 = .ok (.iastore, 1) := by decide +kernel
theorem dX1_sortAwards_57 : decode cX1_sortAwards 57 = .ok (.iinc 6 (-1), 3) := by decide +kernel
theorem dX1_sortAwards_60 : decode cX1_sortAwards 60 = .ok (.goto (-29), 3) := by decide +kernel
theorem dX1_sortAwards_63 : decode cX1_sortAwards 63 = .ok (.aload_n 3, 1) := by decide +kernel
theorem dX1_sortAwards_64 : decode cX1_sortAwards 64 = .ok (.iload 6, 2) := by decide +kernel
theorem dX1_sortAwards_66 : decode cX1_sortAwards 66 = .ok (.iload 5, 2) := by decide +kernel
theorem dX1_sortAwards_68 : decode cX1_sortAwards 68 = .ok (.iastore, 1) := by decide +kernel
theorem dX1_sortAwards_69 : decode cX1_sortAwards 69 = .ok (.iinc 4 1, 3) := by decide +kernel
theorem dX1_sortAwards_72 : decode cX1_sortAwards 72 = .ok (.goto (-69), 3) := by decide +kernel
theorem dX1_sortAwards_75 : decode cX1_sortAwards 75 = .ok (.return_, 1) := by decide +kernel
theorem dX2_init_0 : decode cX2_init 0 = .ok (.aload_n 0, 1) := by decide +kernel
theorem dX2_init_1 : decode cX2_init 1 = .ok (.invokespecial 3, 3) := by decide +kernel
theorem dX2_init_4 : decode cX2_init 4 = .ok (.aload_n 0, 1) := by decide +kernel
theorem dX2_init_5 : decode cX2_init 5 = .ok (.bipush 60, 2) := by decide +kernel
theorem dX2_init_7 : decode cX2_init 7 = .ok (.newarray .int, 2) := by decide +kernel
theorem dX2_init_9 : decode cX2_init 9 = .ok (.putfield 9, 3) := by decide +kernel
theorem dX2_init_12 : decode cX2_init 12 = .ok (.return_, 1) := by decide +kernel
theorem dX2_clear_0 : decode cX2_clear 0 = .ok (.aload_n 0, 1) := by decide +kernel
theorem dX2_clear_1 : decode cX2_clear 1 = .ok (.iconst 0, 1) := by decide +kernel
theorem dX2_clear_2 : decode cX2_clear 2 = .ok (.putfield 15, 3) := by decide +kernel
theorem dX2_clear_5 : decode cX2_clear 5 = .ok (.aload_n 0, 1) := by decide +kernel
theorem dX2_clear_6 : decode cX2_clear 6 = .ok (.iconst 0, 1) := by decide +kernel
theorem dX2_clear_7 : decode cX2_clear 7 = .ok (.putfield 19, 3) := by decide +kernel
theorem dX2_clear_10 : decode cX2_clear 10 = .ok (.return_, 1) := by decide +kernel
theorem dX2_add_0 : decode cX2_add 0 = .ok (.aload_n 0, 1) := by decide +kernel
theorem dX2_add_1 : decode cX2_add 1 = .ok (.getfield 15, 3) := by decide +kernel
theorem dX2_add_4 : decode cX2_add 4 = .ok (.bipush 60, 2) := by decide +kernel
theorem dX2_add_6 : decode cX2_add 6 = .ok (.if_icmp .ge 33, 3) := by decide +kernel
theorem dX2_add_9 : decode cX2_add 9 = .ok (.aload_n 0, 1) := by decide +kernel
theorem dX2_add_10 : decode cX2_add 10 = .ok (.getfield 9, 3) := by decide +kernel
theorem dX2_add_13 : decode cX2_add 13 = .ok (.aload_n 0, 1) := by decide +kernel
theorem dX2_add_14 : decode cX2_add 14 = .ok (.getfield 15, 3) := by decide +kernel
theorem dX2_add_17 : decode cX2_add 17 = .ok (.iload_n 1, 1) := by decide +kernel
theorem dX2_add_18 : decode cX2_add 18 = .ok (.iastore, 1) := by decide +kernel
theorem dX2_add_19 : decode cX2_add 19 = .ok (.aload_n 0, 1) := by decide +kernel
theorem dX2_add_20 : decode cX2_add 20 = .ok (.dup, 1) := by decide +kernel
theorem dX2_add_21 : decode cX2_add 21 = .ok (.getfield 15, 3) := by decide +kernel
theorem dX2_add_24 : decode cX2_add 24 = .ok (.iconst 1, 1) := by decide +kernel
theorem dX2_add_25 : decode cX2_add 25 = .ok (.iadd, 1) := by decide +kernel
theorem dX2_add_26 : decode cX2_add 26 = .ok (.putfield 15, 3) := by decide +kernel
theorem dX2_add_29 : decode cX2_add 29 = .ok (.aload_n 0, 1) := by decide +kernel
theorem dX2_add_30 : decode cX2_add 30 = .ok (.dup, 1) := by decide +kernel
theorem dX2_add_31 : decode cX2_add 31 = .ok (.getfield 19, 3) := by decide +kernel
theorem dX2_add_34 : decode cX2_add 34 = .ok (.iload_n 1, 1) := by decide +kernel
theorem dX2_add_35 : decode cX2_add 35 = .ok (.iadd, 1) := by decide +kernel
theorem dX2_add_36 : decode cX2_add 36 = .ok (.putfield 19, 3) := by decide +kernel
theorem dX2_add_39 : decode cX2_add 39 = .ok (.return_, 1) := by decide +kernel
theorem dX2_copy_0 : decode cX2_copy 0 = .ok (.aload_n 0, 1) := by decide +kernel
theorem dX2_copy_1 : decode cX2_copy 1 = .ok (.invokevirtual 22, 3) := by decide +kernel
theorem dX2_copy_4 : decode cX2_copy 4 = .ok (.iconst 0, 1) := by decide +kernel
theorem dX2_copy_5 : decode cX2_copy 5 = .ok (.istore_n 2, 1) := by decide +kernel
theorem dX2_copy_6 : decode cX2_copy 6 = .ok (.iload_n 2, 1) := by decide +kernel
theorem dX2_copy_7 : decode cX2_copy 7 = .ok (.aload_n 1, 1) := by decide +kernel
theorem dX2_copy_8 : decode cX2_copy 8 = .ok (.getfield 15, 3) := by decide +kernel
theorem dX2_copy_11 : decode cX2_copy 11 = .ok (.if_icmp .ge 19, 3) := by decide +kernel
theorem dX2_copy_14 : decode cX2_copy 14 = .ok (.aload_n 0, 1) := by decide +kernel
theorem dX2_copy_15 : decode cX2_copy 15 = .ok (.aload_n 1, 1) := by decide +kernel
theorem dX2_copy_16 : decode cX2_copy 16 = .ok (.getfield 9, 3) := by decide +kernel
theorem dX2_copy_19 : decode cX2_copy 19 = .ok (.iload_n 2, 1) := by decide +kernel
theorem dX2_copy_20 : decode cX2_copy 20 = .ok (.iaload, 1) := by decide +kernel
theorem dX2_copy_21 : decode cX2_copy 21 = .ok (.invokevirtual 25, 3) := by decide +kernel
theorem dX2_copy_24 : decode cX2_copy 24 = .ok (.iinc 2 1, 3) := by decide +kernel
theorem dX2_copy_27 : decode cX2_copy 27 = .ok (.goto (-21), 3) := by decide +kernel
theorem dX2_copy_30 : decode cX2_copy 30 = .ok (.return_, 1) := by decide +kernel
theorem dX3_init_0 : decode cX3_init 0 = .ok (.aload_n 0, 1) := by decide +kernel
theorem dX3_init_1 : decode cX3_init 1 = .ok (.invokespecial 3, 3) := by decide +kernel
theorem dX3_init_4 : decode cX3_init 4 = .ok (.aload_n 0, 1) := by decide +kernel
theorem dX3_init_5 : decode cX3_init 5 = .ok (.bipush 60, 2) := by decide +kernel
theorem dX3_init_7 : decode cX3_init 7 = .ok (.newarray .int, 2) := by decide +kernel
theorem dX3_init_9 : decode cX3_init 9 = .ok (.putfield 9, 3) := by decide +kernel
theorem dX3_init_12 : decode cX3_init 12 = .ok (.aload_n 0, 1) := by decide +kernel
theorem dX3_init_13 : decode cX3_init 13 = .ok (.bipush 60, 2) := by decide +kernel
theorem dX3_init_15 : decode cX3_init 15 = .ok (.newarray .int, 2) := by decide +kernel
theorem dX3_init_17 : decode cX3_init 17 = .ok (.putfield 15, 3) := by decide +kernel
theorem dX3_init_20 : decode cX3_init 20 = .ok (.aload_n 0, 1) := by decide +kernel
theorem dX3_init_21 : decode cX3_init 21 = .ok (.new 18, 3) := by decide +kernel
theorem dX3_init_24 : decode cX3_init 24 = .ok (.dup, 1) := by decide +kernel
theorem dX3_init_25 : decode cX3_init 25 = .ok (.bipush 60, 2) := by decide +kernel
theorem dX3_init_27 : decode cX3_init 27 = .ok (.invokespecial 20, 3) := by decide +kernel
theorem dX3_init_30 : decode cX3_init 30 = .ok (.putfield 23, 3) := by decide +kernel
theorem dX3_init_33 : decode cX3_init 33 = .ok (.return_, 1) := by decide +kernel
theorem dX3_add_0 : decode cX3_add 0 = .ok (.aload_n 0, 1) := by decide +kernel
theorem dX3_add_1 : decode cX3_add 1 = .ok (.getfield 27, 3) := by decide +kernel
theorem dX3_add_4 : decode cX3_add 4 = .ok (.bipush 60, 2) := by decide +kernel
theorem dX3_add_6 : decode cX3_add 6 = .ok (.if_icmp .lt 5, 3) := by decide +kernel
theorem dX3_add_9 : decode cX3_add 9 = .ok (.iconst (-1), 1) := by decide +kernel
theorem dX3_add_10 : decode cX3_add 10 = .ok (.ireturn, 1) := by decide +kernel
theorem dX3_add_11 : decode cX3_add 11 = .ok (.aload_n 0, 1) := by decide +kernel
theorem dX3_add_12 : decode cX3_add 12 = .ok (.getfield 9, 3) := by decide +kernel
theorem dX3_add_15 : decode cX3_add 15 = .ok (.aload_n 0, 1) := by decide +kernel
theorem dX3_add_16 : decode cX3_add 16 = .ok (.getfield 27, 3) := by decide +kernel
theorem dX3_add_19 : decode cX3_add 19 = .ok (.iload_n 1, 1) := by decide +kernel
theorem dX3_add_20 : decode cX3_add 20 = .ok (.iastore, 1) := by decide +kernel
theorem dX3_add_21 : decode cX3_add 21 = .ok (.aload_n 0, 1) := by decide +kernel
theorem dX3_add_22 : decode cX3_add 22 = .ok (.getfield 15, 3) := by decide +kernel
theorem dX3_add_25 : decode cX3_add 25 = .ok (.aload_n 0, 1) := by decide +kernel
theorem dX3_add_26 : decode cX3_add 26 = .ok (.getfield 27, 3) := by decide +kernel
theorem dX3_add_29 : decode cX3_add 29 = .ok (.iload_n 2, 1) := by decide +kernel
theorem dX3_add_30 : decode cX3_add 30 = .ok (.iastore, 1) := by decide +kernel
theorem dX3_add_31 : decode cX3_add 31 = .ok (.aload_n 0, 1) := by decide +kernel
theorem dX3_add_32 : decode cX3_add 32 = .ok (.getfield 23, 3) := by decide +kernel
theorem dX3_add_35 : decode cX3_add 35 = .ok (.aload_n 0, 1) := by decide +kernel
theorem dX3_add_36 : decode cX3_add 36 = .ok (.getfield 27, 3) := by decide +kernel
theorem dX3_add_39 : decode cX3_add 39 = .ok (.iload_n 3, 1) := by decide +kernel
theorem dX3_add_40 : decode cX3_add 40 = .ok (.iload 4, 2) := by decide +kernel
theorem dX3_add_42 : decode cX3_add 42 = .ok (.invokevirtual 31, 3) := by decide +kernel
theorem dX3_add_45 : decode cX3_add 45 = .ok (.aload_n 0, 1) := by decide +kernel
theorem dX3_add_46 : decode cX3_add 46 = .ok (.dup, 1) := by decide +kernel
theorem dX3_add_47 : decode cX3_add 47 = .ok (.getfield 27, 3) := by decide +kernel
theorem dX3_add_50 : decode cX3_add 50 = .ok (.iconst 1, 1) := by decide +kernel
theorem dX3_add_51 : decode cX3_add 51 = .ok (.iadd, 1) := by decide +kernel
theorem dX3_add_52 : decode cX3_add 52 = .ok (.putfield 27, 3) := by decide +kernel
theorem dX3_add_55 : decode cX3_add 55 = .ok (.aload_n 0, 1) := by decide +kernel
theorem dX3_add_56 : decode cX3_add 56 = .ok (.getfield 27, 3) := by decide +kernel
theorem dX3_add_59 : decode cX3_add 59 = .ok (.ireturn, 1) := by decide +kernel
theorem dX3_worthOf_0 : decode cX3_worthOf 0 = .ok (.iconst (-1), 1) := by decide +kernel
theorem dX3_worthOf_1 : decode cX3_worthOf 1 = .ok (.istore 4, 2) := by decide +kernel
theorem dX3_worthOf_3 : decode cX3_worthOf 3 = .ok (.iconst 0, 1) := by decide +kernel
theorem dX3_worthOf_4 : decode cX3_worthOf 4 = .ok (.istore 5, 2) := by decide +kernel
theorem dX3_worthOf_6 : decode cX3_worthOf 6 = .ok (.iload 5, 2) := by decide +kernel
theorem dX3_worthOf_8 : decode cX3_worthOf 8 = .ok (.aload_n 0, 1) := by decide +kernel
theorem dX3_worthOf_9 : decode cX3_worthOf 9 = .ok (.getfield 27, 3) := by decide +kernel
theorem dX3_worthOf_12 : decode cX3_worthOf 12 = .ok (.if_icmp .ge 69, 3) := by decide +kernel
theorem dX3_worthOf_15 : decode cX3_worthOf 15 = .ok (.aload_n 0, 1) := by decide +kernel
theorem dX3_worthOf_16 : decode cX3_worthOf 16 = .ok (.getfield 9, 3) := by decide +kernel
theorem dX3_worthOf_19 : decode cX3_worthOf 19 = .ok (.iload 5, 2) := by decide +kernel
theorem dX3_worthOf_21 : decode cX3_worthOf 21 = .ok (.iaload, 1) := by decide +kernel
theorem dX3_worthOf_22 : decode cX3_worthOf 22 = .ok (.iload_n 1, 1) := by decide +kernel
theorem dX3_worthOf_23 : decode cX3_worthOf 23 = .ok (.if_icmp .ne 21, 3) := by decide +kernel
theorem dX3_worthOf_26 : decode cX3_worthOf 26 = .ok (.aload_n 0, 1) := by decide +kernel
theorem dX3_worthOf_27 : decode cX3_worthOf 27 = .ok (.getfield 23, 3) := by decide +kernel
theorem dX3_worthOf_30 : decode cX3_worthOf 30 = .ok (.iload 5, 2) := by decide +kernel
theorem dX3_worthOf_32 : decode cX3_worthOf 32 = .ok (.iload_n 2, 1) := by decide +kernel
theorem dX3_worthOf_33 : decode cX3_worthOf 33 = .ok (.iload_n 3, 1) := by decide +kernel
theorem dX3_worthOf_34 : decode cX3_worthOf 34 = .ok (.invokevirtual 35, 3) := by decide +kernel
theorem dX3_worthOf_37 : decode cX3_worthOf 37 = .ok (.ifCond .eq 7, 3) := by decide +kernel
theorem dX3_worthOf_40 : decode cX3_worthOf 40 = .ok (.iconst 1, 1) := by decide +kernel
theorem dX3_worthOf_41 : decode cX3_worthOf 41 = .ok (.goto 4, 3) := by decide +kernel
theorem dX3_worthOf_44 : decode cX3_worthOf 44 = .ok (.iconst 0, 1) := by decide +kernel
theorem dX3_worthOf_45 : decode cX3_worthOf 45 = .ok (.istore 6, 2) := by decide +kernel
theorem dX3_worthOf_47 : decode cX3_worthOf 47 = .ok (.iload 6, 2) := by decide +kernel
theorem dX3_worthOf_49 : decode cX3_worthOf 49 = .ok (.ifCond .eq 26, 3) := by decide +kernel
theorem dX3_worthOf_52 : decode cX3_worthOf 52 = .ok (.iload 4, 2) := by decide +kernel
theorem dX3_worthOf_54 : decode cX3_worthOf 54 = .ok (.ifCond .lt 17, 3) := by decide +kernel
theorem dX3_worthOf_57 : decode cX3_worthOf 57 = .ok (.aload_n 0, 1) := by decide +kernel
theorem dX3_worthOf_58 : decode cX3_worthOf 58 = .ok (.getfield 23, 3) := by decide +kernel
theorem dX3_worthOf_61 : decode cX3_worthOf 61 = .ok (.iload 5, 2) := by decide +kernel
theorem dX3_worthOf_63 : decode cX3_worthOf 63 = .ok (.iload 4, 2) := by decide +kernel
theorem dX3_worthOf_65 : decode cX3_worthOf 65 = .ok (.invokevirtual 39, 3) := by decide +kernel
theorem dX3_worthOf_68 : decode cX3_worthOf 68 = .ok (.ifCond .eq 7, 3) := by decide +kernel
theorem dX3_worthOf_71 : decode cX3_worthOf 71 = .ok (.iload 5, 2) := by decide +kernel
theorem dX3_worthOf_73 : decode cX3_worthOf 73 = .ok (.istore 4, 2) := by decide +kernel
theorem dX3_worthOf_75 : decode cX3_worthOf 75 = .ok (.iinc 5 1, 3) := by decide +kernel
theorem dX3_worthOf_78 : decode cX3_worthOf 78 = .ok (.goto (-72), 3) := by decide +kernel
theorem dX3_worthOf_81 : decode cX3_worthOf 81 = .ok (.iload 4, 2) := by decide +kernel
theorem dX3_worthOf_83 : decode cX3_worthOf 83 = .ok (.ifCond .ge 7, 3) := by decide +kernel
theorem dX3_worthOf_86 : decode cX3_worthOf 86 = .ok (.iconst 0, 1) := by decide +kernel
theorem dX3_worthOf_87 : decode cX3_worthOf 87 = .ok (.goto 10, 3) := by decide +kernel
theorem dX3_worthOf_90 : decode cX3_worthOf 90 = .ok (.aload_n 0, 1) := by decide +kernel
theorem dX3_worthOf_91 : decode cX3_worthOf 91 = .ok (.getfield 15, 3) := by decide +kernel
theorem dX3_worthOf_94 : decode cX3_worthOf 94 = .ok (.iload 4, 2) := by decide +kernel
theorem dX3_worthOf_96 : decode cX3_worthOf 96 = .ok (.iaload, 1) := by decide +kernel
theorem dX3_worthOf_97 : decode cX3_worthOf 97 = .ok (.ireturn, 1) := by decide +kernel
theorem dX3_worthOfAll_0 : decode cX3_worthOfAll 0 = .ok (.lconst 0, 1) := by decide +kernel
theorem dX3_worthOfAll_1 : decode cX3_worthOfAll 1 = .ok (.lstore_n 3, 1) := by decide +kernel
theorem dX3_worthOfAll_2 : decode cX3_worthOfAll 2 = .ok (.iconst 0, 1) := by decide +kernel
theorem dX3_worthOfAll_3 : decode cX3_worthOfAll 3 = .ok (.istore 5, 2) := by decide +kernel
theorem dX3_worthOfAll_5 : decode cX3_worthOfAll 5 = .ok (.iload 5, 2) := by decide +kernel
theorem dX3_worthOfAll_7 : decode cX3_worthOfAll 7 = .ok (.bipush 10, 2) := by decide +kernel
theorem dX3_worthOfAll_9 : decode cX3_worthOfAll 9 = .ok (.if_icmp .ge 21, 3) := by decide +kernel
theorem dX3_worthOfAll_12 : decode cX3_worthOfAll 12 = .ok (.lload_n 3, 1) := by decide +kernel
theorem dX3_worthOfAll_13 : decode cX3_worthOfAll 13 = .ok (.aload_n 0, 1) := by decide +kernel
theorem dX3_worthOfAll_14 : decode cX3_worthOfAll 14 = .ok (.iload 5, 2) := by decide +kernel
theorem dX3_worthOfAll_16 : decode cX3_worthOfAll 16 = .ok (.iload_n 1, 1) := by decide +kernel
theorem dX3_worthOfAll_17 : decode cX3_worthOfAll 17 = .ok (.iload_n 2, 1) := by decide +kernel
theorem dX3_worthOfAll_18 : decode cX3_worthOfAll 18 = .ok (.invokevirtual 43, 3) := by decide +kernel
theorem dX3_worthOfAll_21 : decode cX3_worthOfAll 21 = .ok (.i2l, 1) := by decide +kernel
theorem dX3_worthOfAll_22 : decode cX3_worthOfAll 22 = .ok (.ladd, 1) := by decide +kernel
theorem dX3_worthOfAll_23 : decode cX3_worthOfAll 23 = .ok (.lstore_n 3, 1) := by decide +kernel
theorem dX3_worthOfAll_24 : decode cX3_worthOfAll 24 = .ok (.iinc 5 1, 3) := by decide +kernel
theorem dX3_worthOfAll_27 : decode cX3_worthOfAll 27 = .ok (.goto (-22), 3) := by decide +kernel
theorem dX3_worthOfAll_30 : decode cX3_worthOfAll 30 = .ok (.lload_n 3, 1) := by decide +kernel
theorem dX3_worthOfAll_31 : decode cX3_worthOfAll 31 = .ok (.lreturn, 1) := by decide +kernel
theorem dX4_init_0 : decode cX4_init 0 = .ok (.aload_n 0, 1) := by decide +kernel
theorem dX4_init_1 : decode cX4_init 1 = .ok (.invokespecial 3, 3) := by decide +kernel
theorem dX4_init_4 : decode cX4_init 4 = .ok (.aload_n 0, 1) := by decide +kernel
theorem dX4_init_5 : decode cX4_init 5 = .ok (.bipush 40, 2) := by decide +kernel
theorem dX4_init_7 : decode cX4_init 7 = .ok (.newarray .int, 2) := by decide +kernel
theorem dX4_init_9 : decode cX4_init 9 = .ok (.putfield 9, 3) := by decide +kernel
theorem dX4_init_12 : decode cX4_init 12 = .ok (.aload_n 0, 1) := by decide +kernel
theorem dX4_init_13 : decode cX4_init 13 = .ok (.bipush 40, 2) := by decide +kernel
theorem dX4_init_15 : decode cX4_init 15 = .ok (.newarray .int, 2) := by decide +kernel
theorem dX4_init_17 : decode cX4_init 17 = .ok (.putfield 15, 3) := by decide +kernel
theorem dX4_init_20 : decode cX4_init 20 = .ok (.aload_n 0, 1) := by decide +kernel
theorem dX4_init_21 : decode cX4_init 21 = .ok (.bipush 8, 2) := by decide +kernel
theorem dX4_init_23 : decode cX4_init 23 = .ok (.anewarray 18, 3) := by decide +kernel
theorem dX4_init_26 : decode cX4_init 26 = .ok (.putfield 20, 3) := by decide +kernel
theorem dX4_init_29 : decode cX4_init 29 = .ok (.aload_n 0, 1) := by decide +kernel
theorem dX4_init_30 : decode cX4_init 30 = .ok (.iconst (-1), 1) := by decide +kernel
theorem dX4_init_31 : decode cX4_init 31 = .ok (.putfield 24, 3) := by decide +kernel
theorem dX4_init_34 : decode cX4_init 34 = .ok (.iconst 0, 1) := by decide +kernel
theorem dX4_init_35 : decode cX4_init 35 = .ok (.istore_n 1, 1) := by decide +kernel
theorem dX4_init_36 : decode cX4_init 36 = .ok (.iload_n 1, 1) := by decide +kernel
theorem dX4_init_37 : decode cX4_init 37 = .ok (.bipush 8, 2) := by decide +kernel
theorem dX4_init_39 : decode cX4_init 39 = .ok (.if_icmp .ge 22, 3) := by decide +kernel
theorem dX4_init_42 : decode cX4_init 42 = .ok (.aload_n 0, 1) := by decide +kernel
theorem dX4_init_43 : decode cX4_init 43 = .ok (.getfield 20, 3) := by decide +kernel
theorem dX4_init_46 : decode cX4_init 46 = .ok (.iload_n 1, 1) := by decide +kernel
theorem dX4_init_47 : decode cX4_init 47 = .ok (.new 18, 3) := by decide +kernel
theorem dX4_init_50 : decode cX4_init 50 = .ok (.dup, 1) := by decide +kernel
theorem dX4_init_51 : decode cX4_init 51 = .ok (.invokespecial 28, 3) := by decide +kernel
theorem dX4_init_54 : decode cX4_init 54 = .ok (.aastore, 1) := by decide +kernel
theorem dX4_init_55 : decode cX4_init 55 = .ok (.iinc 1 1, 3) := by decide +kernel
theorem dX4_init_58 : decode cX4_init 58 = .ok (.goto (-22), 3) := by decide +kernel
theorem dX4_init_61 : decode cX4_init 61 = .ok (.return_, 1) := by decide +kernel
theorem dX4_weighShips_0 : decode cX4_weighShips 0 = .ok (.aload_n 0, 1) := by decide +kernel
theorem dX4_weighShips_1 : decode cX4_weighShips 1 = .ok (.iload_n 2, 1) := by decide +kernel
theorem dX4_weighShips_2 : decode cX4_weighShips 2 = .ok (.putfield 29, 3) := by decide +kernel
theorem dX4_weighShips_5 : decode cX4_weighShips 5 = .ok (.aload_n 0, 1) := by decide +kernel
theorem dX4_weighShips_6 : decode cX4_weighShips 6 = .ok (.lconst 0, 1) := by decide +kernel
theorem dX4_weighShips_7 : decode cX4_weighShips 7 = .ok (.putfield 32, 3) := by decide +kernel
theorem dX4_weighShips_10 : decode cX4_weighShips 10 = .ok (.iconst 0, 1) := by decide +kernel
theorem dX4_weighShips_11 : decode cX4_weighShips 11 = .ok (.istore 4, 2) := by decide +kernel
theorem dX4_weighShips_13 : decode cX4_weighShips 13 = .ok (.iload 4, 2) := by decide +kernel
theorem dX4_weighShips_15 : decode cX4_weighShips 15 = .ok (.aload_n 0, 1) := by decide +kernel
theorem dX4_weighShips_16 : decode cX4_weighShips 16 = .ok (.getfield 29, 3) := by decide +kernel
theorem dX4_weighShips_19 : decode cX4_weighShips 19 = .ok (.if_icmp .ge 90, 3) := by decide +kernel
theorem dX4_weighShips_22 : decode cX4_weighShips 22 = .ok (.aload_n 0, 1) := by decide +kernel
theorem dX4_weighShips_23 : decode cX4_weighShips 23 = .ok (.getfield 20, 3) := by decide +kernel
theorem dX4_weighShips_26 : decode cX4_weighShips 26 = .ok (.iload 4, 2) := by decide +kernel
theorem dX4_weighShips_28 : decode cX4_weighShips 28 = .ok (.aaload, 1) := by decide +kernel
theorem dX4_weighShips_29 : decode cX4_weighShips 29 = .ok (.iconst 0, 1) := by decide +kernel
theorem dX4_weighShips_30 : decode cX4_weighShips 30 = .ok (.aload_n 3, 1) := by decide +kernel
theorem dX4_weighShips_31 : decode cX4_weighShips 31 = .ok (.aload_n 1, 1) := by decide +kernel
theorem dX4_weighShips_32 : decode cX4_weighShips 32 = .ok (.iload 4, 2) := by decide +kernel
theorem dX4_weighShips_34 : decode cX4_weighShips 34 = .ok (.aaload, 1) := by decide +kernel
theorem dX4_weighShips_35 : decode cX4_weighShips 35 = .ok (.getfield 36, 3) := by decide +kernel
theorem dX4_weighShips_38 : decode cX4_weighShips 38 = .ok (.aload_n 1, 1) := by decide +kernel
theorem dX4_weighShips_39 : decode cX4_weighShips 39 = .ok (.iload 4, 2) := by decide +kernel
theorem dX4_weighShips_41 : decode cX4_weighShips 41 = .ok (.aaload, 1) := by decide +kernel
theorem dX4_weighShips_42 : decode cX4_weighShips 42 = .ok (.getfield 41, 3) := by decide +kernel
theorem dX4_weighShips_45 : decode cX4_weighShips 45 = .ok (.invokevirtual 44, 3) := by decide +kernel
theorem dX4_weighShips_48 : decode cX4_weighShips 48 = .ok (.invokestatic 50, 3) := by decide +kernel
theorem dX4_weighShips_51 : decode cX4_weighShips 51 = .ok (.i2l, 1) := by decide +kernel
theorem dX4_weighShips_52 : decode cX4_weighShips 52 = .ok (.putfield 55, 3) := by decide +kernel
theorem dX4_weighShips_55 : decode cX4_weighShips 55 = .ok (.aload_n 0, 1) := by decide +kernel
theorem dX4_weighShips_56 : decode cX4_weighShips 56 = .ok (.getfield 20, 3) := by decide +kernel
theorem dX4_weighShips_59 : decode cX4_weighShips 59 = .ok (.iload 4, 2) := by decide +kernel
theorem dX4_weighShips_61 : decode cX4_weighShips 61 = .ok (.aaload, 1) := by decide +kernel
theorem dX4_weighShips_62 : decode cX4_weighShips 62 = .ok (.aload_n 1, 1) := by decide +kernel
theorem dX4_weighShips_63 : decode cX4_weighShips 63 = .ok (.iload 4, 2) := by decide +kernel
theorem dX4_weighShips_65 : decode cX4_weighShips 65 = .ok (.aaload, 1) := by decide +kernel
theorem dX4_weighShips_66 : decode cX4_weighShips 66 = .ok (.getfield 58, 3) := by decide +kernel
theorem dX4_weighShips_69 : decode cX4_weighShips 69 = .ok (.i2l, 1) := by decide +kernel
theorem dX4_weighShips_70 : decode cX4_weighShips 70 = .ok (.aload_n 0, 1) := by decide +kernel
theorem dX4_weighShips_71 : decode cX4_weighShips 71 = .ok (.getfield 20, 3) := by decide +kernel
theorem dX4_weighShips_74 : decode cX4_weighShips 74 = .ok (.iload 4, 2) := by decide +kernel
theorem dX4_weighShips_76 : decode cX4_weighShips 76 = .ok (.aaload, 1) := by decide +kernel
theorem dX4_weighShips_77 : decode cX4_weighShips 77 = .ok (.getfield 55, 3) := by decide +kernel
theorem dX4_weighShips_80 : decode cX4_weighShips 80 = .ok (.lmul, 1) := by decide +kernel
theorem dX4_weighShips_81 : decode cX4_weighShips 81 = .ok (.putfield 61, 3) := by decide +kernel
theorem dX4_weighShips_84 : decode cX4_weighShips 84 = .ok (.aload_n 0, 1) := by decide +kernel
theorem dX4_weighShips_85 : decode cX4_weighShips 85 = .ok (.dup, 1) := by decide +kernel
theorem dX4_weighShips_86 : decode cX4_weighShips 86 = .ok (.getfield 32, 3) := by decide +kernel
theorem dX4_weighShips_89 : decode cX4_weighShips 89 = .ok (.aload_n 0, 1) := by decide +kernel
theorem dX4_weighShips_90 : decode cX4_weighShips 90 = .ok (.getfield 20, 3) := by decide +kernel
theorem dX4_weighShips_93 : decode cX4_weighShips 93 = .ok (.iload 4, 2) := by decide +kernel
theorem dX4_weighShips_95 : decode cX4_weighShips 95 = .ok (.aaload, 1) := by decide +kernel
theorem dX4_weighShips_96 : decode cX4_weighShips 96 = .ok (.getfield 61, 3) := by decide +kernel
theorem dX4_weighShips_99 : decode cX4_weighShips 99 = .ok (.ladd, 1) := by decide +kernel
theorem dX4_weighShips_100 : decode cX4_weighShips 100 = .ok (.putfield 32, 3) := by decide +kernel
theorem dX4_weighShips_103 : decode cX4_weighShips 103 = .ok (.iinc 4 1, 3) := by decide +kernel
theorem dX4_weighShips_106 : decode cX4_weighShips 106 = .ok (.goto (-93), 3) := by decide +kernel
theorem dX4_weighShips_109 : decode cX4_weighShips 109 = .ok (.return_, 1) := by decide +kernel
theorem dX4_partAmongShips_0 : decode cX4_partAmongShips 0 = .ok (.aload_n 0, 1) := by decide +kernel
theorem dX4_partAmongShips_1 : decode cX4_partAmongShips 1 = .ok (.aload_n 0, 1) := by decide +kernel
theorem dX4_partAmongShips_2 : decode cX4_partAmongShips 2 = .ok (.getfield 32, 3) := by decide +kernel
theorem dX4_partAmongShips_5 : decode cX4_partAmongShips 5 = .ok (.lconst 0, 1) := by decide +kernel
theorem dX4_partAmongShips_6 : decode cX4_partAmongShips 6 = .ok (.lcmp, 1) := by decide +kernel
theorem dX4_partAmongShips_7 : decode cX4_partAmongShips 7 = .ok (.ifCond .le 20, 3) := by decide +kernel
theorem dX4_partAmongShips_10 : decode cX4_partAmongShips 10 = .ok (.aload_n 0, 1) := by decide +kernel
theorem dX4_partAmongShips_11 : decode cX4_partAmongShips 11 = .ok (.getfield 64, 3) := by decide +kernel
theorem dX4_partAmongShips_14 : decode cX4_partAmongShips 14 = .ok (.aload_n 0, 1) := by decide +kernel
theorem dX4_partAmongShips_15 : decode cX4_partAmongShips 15 = .ok (.getfield 67, 3) := by decide +kernel
theorem dX4_partAmongShips_18 : decode cX4_partAmongShips 18 = .ok (.i2l, 1) := by decide +kernel
theorem dX4_partAmongShips_19 : decode cX4_partAmongShips 19 = .ok (.lmul, 1) := by decide +kernel
theorem dX4_partAmongShips_20 : decode cX4_partAmongShips 20 = .ok (.ldc2_w 70, 3) := by decide +kernel
theorem dX4_partAmongShips_23 : decode cX4_partAmongShips 23 = .ok (.ldiv, 1) := by decide +kernel
theorem dX4_partAmongShips_24 : decode cX4_partAmongShips 24 = .ok (.goto 4, 3) := by decide +kernel
theorem dX4_partAmongShips_27 : decode cX4_partAmongShips 27 = .ok (.lconst 0, 1) := by decide +kernel
theorem dX4_partAmongShips_28 : decode cX4_partAmongShips 28 = .ok (.putfield 72, 3) := by decide +kernel
theorem dX4_partAmongShips_31 : decode cX4_partAmongShips 31 = .ok (.aload_n 0, 1) := by decide +kernel
theorem dX4_partAmongShips_32 : decode cX4_partAmongShips 32 = .ok (.getfield 72, 3) := by decide +kernel
theorem dX4_partAmongShips_35 : decode cX4_partAmongShips 35 = .ok (.lstore_n 1, 1) := by decide +kernel
theorem dX4_partAmongShips_36 : decode cX4_partAmongShips 36 = .ok (.iconst 0, 1) := by decide +kernel
theorem dX4_partAmongShips_37 : decode cX4_partAmongShips 37 = .ok (.istore_n 3, 1) := by decide +kernel
theorem dX4_partAmongShips_38 : decode cX4_partAmongShips 38 = .ok (.iload_n 3, 1) := by decide +kernel
theorem dX4_partAmongShips_39 : decode cX4_partAmongShips 39 = .ok (.aload_n 0, 1) := by decide +kernel
theorem dX4_partAmongShips_40 : decode cX4_partAmongShips 40 = .ok (.getfield 29, 3) := by decide +kernel
theorem dX4_partAmongShips_43 : decode cX4_partAmongShips 43 = .ok (.if_icmp .ge 84, 3) := by decide +kernel
theorem dX4_partAmongShips_46 : decode cX4_partAmongShips 46 = .ok (.aload_n 0, 1) := by decide +kernel
theorem dX4_partAmongShips_47 : decode cX4_partAmongShips 47 = .ok (.getfield 20, 3) := by decide +kernel
theorem dX4_partAmongShips_50 : decode cX4_partAmongShips 50 = .ok (.iload_n 3, 1) := by decide +kernel
theorem dX4_partAmongShips_51 : decode cX4_partAmongShips 51 = .ok (.aaload, 1) := by decide +kernel
theorem dX4_partAmongShips_52 : decode cX4_partAmongShips 52 = .ok (.astore 4, 2) := by decide +kernel
theorem dX4_partAmongShips_54 : decode cX4_partAmongShips 54 = .ok (.aload 4, 2) := by decide +kernel
theorem dX4_partAmongShips_56 : decode cX4_partAmongShips 56 = .ok (.aload_n 0, 1) := by decide +kernel
theorem dX4_partAmongShips_57 : decode cX4_partAmongShips 57 = .ok (.getfield 32, 3) := by decide +kernel
theorem dX4_partAmongShips_60 : decode cX4_partAmongShips 60 = .ok (.lconst 0, 1) := by decide +kernel
theorem dX4_partAmongShips_61 : decode cX4_partAmongShips 61 = .ok (.lcmp, 1) := by decide +kernel
theorem dX4_partAmongShips_62 : decode cX4_partAmongShips 62 = .ok (.ifCond .le 21, 3) := by decide +kernel
theorem dX4_partAmongShips_65 : decode cX4_partAmongShips 65 = .ok (.aload_n 0, 1) := by decide +kernel
theorem dX4_partAmongShips_66 : decode cX4_partAmongShips 66 = .ok (.getfield 72, 3) := by decide +kernel
theorem dX4_partAmongShips_69 : decode cX4_partAmongShips 69 = .ok (.aload 4, 2) := by decide +kernel
theorem dX4_partAmongShips_71 : decode cX4_partAmongShips 71 = .ok (.getfield 61, 3) := by decide +kernel
theorem dX4_partAmongShips_74 : decode cX4_partAmongShips 74 = .ok (.lmul, 1) := by decide +kernel
theorem dX4_partAmongShips_75 : decode cX4_partAmongShips 75 = .ok (.aload_n 0, 1) := by decide +kernel
theorem dX4_partAmongShips_76 : decode cX4_partAmongShips 76 = .ok (.getfield 32, 3) := by decide +kernel
theorem dX4_partAmongShips_79 : decode cX4_partAmongShips 79 = .ok (.ldiv, 1) := by decide +kernel
theorem dX4_partAmongShips_80 : decode cX4_partAmongShips 80 = .ok (.goto 4, 3) := by decide +kernel
theorem dX4_partAmongShips_83 : decode cX4_partAmongShips 83 = .ok (.lconst 0, 1) := by decide +kernel
theorem dX4_partAmongShips_84 : decode cX4_partAmongShips 84 = .ok (.putfield 75, 3) := by decide +kernel
theorem dX4_partAmongShips_87 : decode cX4_partAmongShips 87 = .ok (.aload 4, 2) := by decide +kernel
theorem dX4_partAmongShips_89 : decode cX4_partAmongShips 89 = .ok (.aload_n 0, 1) := by decide +kernel
theorem dX4_partAmongShips_90 : decode cX4_partAmongShips 90 = .ok (.getfield 72, 3) := by decide +kernel
theorem dX4_partAmongShips_93 : decode cX4_partAmongShips 93 = .ok (.aload 4, 2) := by decide +kernel
theorem dX4_partAmongShips_95 : decode cX4_partAmongShips 95 = .ok (.getfield 61, 3) := by decide +kernel
theorem dX4_partAmongShips_98 : decode cX4_partAmongShips 98 = .ok (.lmul, 1) := by decide +kernel
theorem dX4_partAmongShips_99 : decode cX4_partAmongShips 99 = .ok (.aload 4, 2) := by decide +kernel
theorem dX4_partAmongShips_101 : decode cX4_partAmongShips 101 = .ok (.getfield 75, 3) := by decide +kernel
theorem dX4_partAmongShips_104 : decode cX4_partAmongShips 104 = .ok (.aload_n 0, 1) := by decide +kernel
theorem dX4_partAmongShips_105 : decode cX4_partAmongShips 105 = .ok (.getfield 32, 3) := by decide +kernel
theorem dX4_partAmongShips_108 : decode cX4_partAmongShips 108 = .ok (.lmul, 1) := by decide +kernel
theorem dX4_partAmongShips_109 : decode cX4_partAmongShips 109 = .ok (.lsub, 1) := by decide +kernel
theorem dX4_partAmongShips_110 : decode cX4_partAmongShips 110 = .ok (.putfield 78, 3) := by decide +kernel
theorem dX4_partAmongShips_113 : decode cX4_partAmongShips 113 = .ok (.lload_n 1, 1) := by decide +kernel
theorem dX4_partAmongShips_114 : decode cX4_partAmongShips 114 = .ok (.aload 4, 2) := by decide +kernel
theorem dX4_partAmongShips_116 : decode cX4_partAmongShips 116 = .ok (.getfield 75, 3) := by decide +kernel
theorem dX4_partAmongShips_119 : decode cX4_partAmongShips 119 = .ok (.lsub, 1) := by decide +kernel
theorem dX4_partAmongShips_120 : decode cX4_partAmongShips 120 = .ok (.lstore_n 1, 1) := by decide +kernel
theorem dX4_partAmongShips_121 : decode cX4_partAmongShips 121 = .ok (.iinc 3 1, 3) := by decide +kernel
theorem dX4_partAmongShips_124 : decode cX4_partAmongShips 124 = .ok (.goto (-86), 3) := by decide +kernel
theorem dX4_partAmongShips_127 : decode cX4_partAmongShips 127 = .ok (.iconst 0, 1) := by decide +kernel
theorem dX4_partAmongShips_128 : decode cX4_partAmongShips 128 = .ok (.istore_n 3, 1) := by decide +kernel
theorem dX4_partAmongShips_129 : decode cX4_partAmongShips 129 = .ok (.iload_n 3, 1) := by decide +kernel
theorem dX4_partAmongShips_130 : decode cX4_partAmongShips 130 = .ok (.aload_n 0, 1) := by decide +kernel
theorem dX4_partAmongShips_131 : decode cX4_partAmongShips 131 = .ok (.getfield 29, 3) := by decide +kernel
theorem dX4_partAmongShips_134 : decode cX4_partAmongShips 134 = .ok (.if_icmp .ge 46, 3) := by decide +kernel
theorem dX4_partAmongShips_137 : decode cX4_partAmongShips 137 = .ok (.iload_n 3, 1) := by decide +kernel
theorem dX4_partAmongShips_138 : decode cX4_partAmongShips 138 = .ok (.i2l, 1) := by decide +kernel
theorem dX4_partAmongShips_139 : decode cX4_partAmongShips 139 = .ok (.lload_n 1, 1) := by decide +kernel
theorem dX4_partAmongShips_140 : decode cX4_partAmongShips 140 = .ok (.lcmp, 1) := by decide +kernel
theorem dX4_partAmongShips_141 : decode cX4_partAmongShips 141 = .ok (.ifCond .ge 39, 3) := by decide +kernel
theorem dX4_partAmongShips_144 : decode cX4_partAmongShips 144 = .ok (.aload_n 0, 1) := by decide +kernel
theorem dX4_partAmongShips_145 : decode cX4_partAmongShips 145 = .ok (.getfield 20, 3) := by decide +kernel
theorem dX4_partAmongShips_148 : decode cX4_partAmongShips 148 = .ok (.aload_n 0, 1) := by decide +kernel
theorem dX4_partAmongShips_149 : decode cX4_partAmongShips 149 = .ok (.invokevirtual 81, 3) := by decide +kernel
theorem dX4_partAmongShips_152 : decode cX4_partAmongShips 152 = .ok (.aaload, 1) := by decide +kernel
theorem dX4_partAmongShips_153 : decode cX4_partAmongShips 153 = .ok (.astore 4, 2) := by decide +kernel
theorem dX4_partAmongShips_155 : decode cX4_partAmongShips 155 = .ok (.aload 4, 2) := by decide +kernel
theorem dX4_partAmongShips_157 : decode cX4_partAmongShips 157 = .ok (.dup, 1) := by decide +kernel
theorem dX4_partAmongShips_158 : decode cX4_partAmongShips 158 = .ok (.getfield 75, 3) := by decide +kernel
theorem dX4_partAmongShips_161 : decode cX4_partAmongShips 161 = .ok (.lconst 1, 1) := by decide +kernel
theorem dX4_partAmongShips_162 : decode cX4_partAmongShips 162 = .ok (.ladd, 1) := by decide +kernel
theorem dX4_partAmongShips_163 : decode cX4_partAmongShips 163 = .ok (.putfield 75, 3) := by decide +kernel
theorem dX4_partAmongShips_166 : decode cX4_partAmongShips 166 = .ok (.aload 4, 2) := by decide +kernel
theorem dX4_partAmongShips_168 : decode cX4_partAmongShips 168 = .ok (.ldc2_w 85, 3) := by decide +kernel
theorem dX4_partAmongShips_171 : decode cX4_partAmongShips 171 = .ok (.putfield 78, 3) := by decide +kernel
theorem dX4_partAmongShips_174 : decode cX4_partAmongShips 174 = .ok (.iinc 3 1, 3) := by decide +kernel
theorem dX4_partAmongShips_177 : decode cX4_partAmongShips 177 = .ok (.goto (-48), 3) := by decide +kernel
theorem dX4_partAmongShips_180 : decode cX4_partAmongShips 180 = .ok (.return_, 1) := by decide +kernel
theorem dX4_greatestRest_0 : decode cX4_greatestRest 0 = .ok (.iconst 0, 1) := by decide +kernel
theorem dX4_greatestRest_1 : decode cX4_greatestRest 1 = .ok (.istore_n 1, 1) := by decide +kernel
theorem dX4_greatestRest_2 : decode cX4_greatestRest 2 = .ok (.iconst 1, 1) := by decide +kernel
theorem dX4_greatestRest_3 : decode cX4_greatestRest 3 = .ok (.istore_n 2, 1) := by decide +kernel
theorem dX4_greatestRest_4 : decode cX4_greatestRest 4 = .ok (.iload_n 2, 1) := by decide +kernel
theorem dX4_greatestRest_5 : decode cX4_greatestRest 5 = .ok (.aload_n 0, 1) := by decide +kernel
theorem dX4_greatestRest_6 : decode cX4_greatestRest 6 = .ok (.getfield 29, 3) := by decide +kernel
theorem dX4_greatestRest_9 : decode cX4_greatestRest 9 = .ok (.if_icmp .ge 33, 3) := by decide +kernel
theorem dX4_greatestRest_12 : decode cX4_greatestRest 12 = .ok (.aload_n 0, 1) := by decide +kernel
theorem dX4_greatestRest_13 : decode cX4_greatestRest 13 = .ok (.getfield 20, 3) := by decide +kernel
theorem dX4_greatestRest_16 : decode cX4_greatestRest 16 = .ok (.iload_n 2, 1) := by decide +kernel
theorem dX4_greatestRest_17 : decode cX4_greatestRest 17 = .ok (.aaload, 1) := by decide +kernel
theorem dX4_greatestRest_18 : decode cX4_greatestRest 18 = .ok (.getfield 78, 3) := by decide +kernel
theorem dX4_greatestRest_21 : decode cX4_greatestRest 21 = .ok (.aload_n 0, 1) := by decide +kernel
theorem dX4_greatestRest_22 : decode cX4_greatestRest 22 = .ok (.getfield 20, 3) := by decide +kernel
theorem dX4_greatestRest_25 : decode cX4_greatestRest 25 = .ok (.iload_n 1, 1) := by decide +kernel
theorem dX4_greatestRest_26 : decode cX4_greatestRest 26 = .ok (.aaload, 1) := by decide +kernel
theorem dX4_greatestRest_27 : decode cX4_greatestRest 27 = .ok (.getfield 78, 3) := by decide +kernel
theorem dX4_greatestRest_30 : decode cX4_greatestRest 30 = .ok (.lcmp, 1) := by decide +kernel
theorem dX4_greatestRest_31 : decode cX4_greatestRest 31 = .ok (.ifCond .le 5, 3) := by decide +kernel
theorem dX4_greatestRest_34 : decode cX4_greatestRest 34 = .ok (.iload_n 2, 1) := by decide +kernel
theorem dX4_greatestRest_35 : decode cX4_greatestRest 35 = .ok (.istore_n 1, 1) := by decide +kernel
theorem dX4_greatestRest_36 : decode cX4_greatestRest 36 = .ok (.iinc 2 1, 3) := by decide +kernel
theorem dX4_greatestRest_39 : decode cX4_greatestRest 39 = .ok (.goto (-35), 3) := by decide +kernel
theorem dX4_greatestRest_42 : decode cX4_greatestRest 42 = .ok (.iload_n 1, 1) := by decide +kernel
theorem dX4_greatestRest_43 : decode cX4_greatestRest 43 = .ok (.ireturn, 1) := by decide +kernel
theorem dX4_settle_0 : decode cX4_settle 0 = .ok (.aload_n 0, 1) := by decide +kernel
theorem dX4_settle_1 : decode cX4_settle 1 = .ok (.lconst 0, 1) := by decide +kernel
theorem dX4_settle_2 : decode cX4_settle 2 = .ok (.putfield 87, 3) := by decide +kernel
theorem dX4_settle_5 : decode cX4_settle 5 = .ok (.iconst 0, 1) := by decide +kernel
theorem dX4_settle_6 : decode cX4_settle 6 = .ok (.istore_n 3, 1) := by decide +kernel
theorem dX4_settle_7 : decode cX4_settle 7 = .ok (.iload_n 3, 1) := by decide +kernel
theorem dX4_settle_8 : decode cX4_settle 8 = .ok (.aload_n 0, 1) := by decide +kernel
theorem dX4_settle_9 : decode cX4_settle 9 = .ok (.getfield 29, 3) := by decide +kernel
theorem dX4_settle_12 : decode cX4_settle 12 = .ok (.if_icmp .ge 55, 3) := by decide +kernel
theorem dX4_settle_15 : decode cX4_settle 15 = .ok (.aload_n 0, 1) := by decide +kernel
theorem dX4_settle_16 : decode cX4_settle 16 = .ok (.getfield 20, 3) := by decide +kernel
theorem dX4_settle_19 : decode cX4_settle 19 = .ok (.iload_n 3, 1) := by decide +kernel
theorem dX4_settle_20 : decode cX4_settle 20 = .ok (.aaload, 1) := by decide +kernel
theorem dX4_settle_21 : decode cX4_settle 21 = .ok (.aload_n 1, 1) := by decide +kernel
theorem dX4_settle_22 : decode cX4_settle 22 = .ok (.iload_n 3, 1) := by decide +kernel
theorem dX4_settle_23 : decode cX4_settle 23 = .ok (.aaload, 1) := by decide +kernel
theorem dX4_settle_24 : decode cX4_settle 24 = .ok (.getfield 90, 3) := by decide +kernel
theorem dX4_settle_27 : decode cX4_settle 27 = .ok (.aload_n 2, 1) := by decide +kernel
theorem dX4_settle_28 : decode cX4_settle 28 = .ok (.invokevirtual 93, 3) := by decide +kernel
theorem dX4_settle_31 : decode cX4_settle 31 = .ok (.aload_n 0, 1) := by decide +kernel
theorem dX4_settle_32 : decode cX4_settle 32 = .ok (.dup, 1) := by decide +kernel
theorem dX4_settle_33 : decode cX4_settle 33 = .ok (.getfield 87, 3) := by decide +kernel
theorem dX4_settle_36 : decode cX4_settle 36 = .ok (.aload_n 0, 1) := by decide +kernel
theorem dX4_settle_37 : decode cX4_settle 37 = .ok (.getfield 20, 3) := by decide +kernel
theorem dX4_settle_40 : decode cX4_settle 40 = .ok (.iload_n 3, 1) := by decide +kernel
theorem dX4_settle_41 : decode cX4_settle 41 = .ok (.aaload, 1) := by decide +kernel
theorem dX4_settle_42 : decode cX4_settle 42 = .ok (.getfield 97, 3) := by decide +kernel
theorem dX4_settle_45 : decode cX4_settle 45 = .ok (.ladd, 1) := by decide +kernel
theorem dX4_settle_46 : decode cX4_settle 46 = .ok (.putfield 87, 3) := by decide +kernel
theorem dX4_settle_49 : decode cX4_settle 49 = .ok (.aload_n 0, 1) := by decide +kernel
theorem dX4_settle_50 : decode cX4_settle 50 = .ok (.getfield 20, 3) := by decide +kernel
theorem dX4_settle_53 : decode cX4_settle 53 = .ok (.iload_n 3, 1) := by decide +kernel
theorem dX4_settle_54 : decode cX4_settle 54 = .ok (.aaload, 1) := by decide +kernel
theorem dX4_settle_55 : decode cX4_settle 55 = .ok (.aload_n 1, 1) := by decide +kernel
theorem dX4_settle_56 : decode cX4_settle 56 = .ok (.iload_n 3, 1) := by decide +kernel
theorem dX4_settle_57 : decode cX4_settle 57 = .ok (.aaload, 1) := by decide +kernel
theorem dX4_settle_58 : decode cX4_settle 58 = .ok (.invokevirtual 100, 3) := by decide +kernel
theorem dX4_settle_61 : decode cX4_settle 61 = .ok (.iinc 3 1, 3) := by decide +kernel
theorem dX4_settle_64 : decode cX4_settle 64 = .ok (.goto (-57), 3) := by decide +kernel
theorem dX4_settle_67 : decode cX4_settle 67 = .ok (.return_, 1) := by decide +kernel
theorem dX5_init_0 : decode cX5_init 0 = .ok (.aload_n 0, 1) := by decide +kernel
theorem dX5_init_1 : decode cX5_init 1 = .ok (.invokespecial 3, 3) := by decide +kernel
theorem dX5_init_4 : decode cX5_init 4 = .ok (.aload_n 0, 1) := by decide +kernel
theorem dX5_init_5 : decode cX5_init 5 = .ok (.iconst 5, 1) := by decide +kernel
theorem dX5_init_6 : decode cX5_init 6 = .ok (.newarray .int, 2) := by decide +kernel
theorem dX5_init_8 : decode cX5_init 8 = .ok (.putfield 9, 3) := by decide +kernel
theorem dX5_init_11 : decode cX5_init 11 = .ok (.return_, 1) := by decide +kernel
theorem dX5_clear_0 : decode cX5_clear 0 = .ok (.aload_n 0, 1) := by decide +kernel
theorem dX5_clear_1 : decode cX5_clear 1 = .ok (.getfield 9, 3) := by decide +kernel
theorem dX5_clear_4 : decode cX5_clear 4 = .ok (.iconst 0, 1) := by decide +kernel
theorem dX5_clear_5 : decode cX5_clear 5 = .ok (.invokestatic 15, 3) := by decide +kernel
theorem dX5_clear_8 : decode cX5_clear 8 = .ok (.aload_n 0, 1) := by decide +kernel
theorem dX5_clear_9 : decode cX5_clear 9 = .ok (.iconst 0, 1) := by decide +kernel
theorem dX5_clear_10 : decode cX5_clear 10 = .ok (.putfield 21, 3) := by decide +kernel
theorem dX5_clear_13 : decode cX5_clear 13 = .ok (.aload_n 0, 1) := by decide +kernel
theorem dX5_clear_14 : decode cX5_clear 14 = .ok (.iconst 0, 1) := by decide +kernel
theorem dX5_clear_15 : decode cX5_clear 15 = .ok (.putfield 25, 3) := by decide +kernel
theorem dX5_clear_18 : decode cX5_clear 18 = .ok (.aload_n 0, 1) := by decide +kernel
theorem dX5_clear_19 : decode cX5_clear 19 = .ok (.bipush 100, 2) := by decide +kernel
theorem dX5_clear_21 : decode cX5_clear 21 = .ok (.putfield 28, 3) := by decide +kernel
theorem dX5_clear_24 : decode cX5_clear 24 = .ok (.aload_n 0, 1) := by decide +kernel
theorem dX5_clear_25 : decode cX5_clear 25 = .ok (.iconst 0, 1) := by decide +kernel
theorem dX5_clear_26 : decode cX5_clear 26 = .ok (.putfield 31, 3) := by decide +kernel
theorem dX5_clear_29 : decode cX5_clear 29 = .ok (.aload_n 0, 1) := by decide +kernel
theorem dX5_clear_30 : decode cX5_clear 30 = .ok (.iconst 0, 1) := by decide +kernel
theorem dX5_clear_31 : decode cX5_clear 31 = .ok (.putfield 34, 3) := by decide +kernel
theorem dX5_clear_34 : decode cX5_clear 34 = .ok (.aload_n 0, 1) := by decide +kernel
theorem dX5_clear_35 : decode cX5_clear 35 = .ok (.iconst 0, 1) := by decide +kernel
theorem dX5_clear_36 : decode cX5_clear 36 = .ok (.putfield 37, 3) := by decide +kernel
theorem dX5_clear_39 : decode cX5_clear 39 = .ok (.return_, 1) := by decide +kernel
theorem dX5_distance_0 : decode cX5_distance 0 = .ok (.iload_n 1, 1) := by decide +kernel
theorem dX5_distance_1 : decode cX5_distance 1 = .ok (.istore_n 3, 1) := by decide +kernel
theorem dX5_distance_2 : decode cX5_distance 2 = .ok (.iload_n 2, 1) := by decide +kernel
theorem dX5_distance_3 : decode cX5_distance 3 = .ok (.istore 4, 2) := by decide +kernel
theorem dX5_distance_5 : decode cX5_distance 5 = .ok (.iconst 0, 1) := by decide +kernel
theorem dX5_distance_6 : decode cX5_distance 6 = .ok (.istore 5, 2) := by decide +kernel
theorem dX5_distance_8 : decode cX5_distance 8 = .ok (.iconst 4, 1) := by decide +kernel
theorem dX5_distance_9 : decode cX5_distance 9 = .ok (.istore 6, 2) := by decide +kernel
theorem dX5_distance_11 : decode cX5_distance 11 = .ok (.iload 6, 2) := by decide +kernel
theorem dX5_distance_13 : decode cX5_distance 13 = .ok (.ifCond .lt 47, 3) := by decide +kernel
theorem dX5_distance_16 : decode cX5_distance 16 = .ok (.iload 5, 2) := by decide +kernel
theorem dX5_distance_18 : decode cX5_distance 18 = .ok (.aload_n 0, 1) := by decide +kernel
theorem dX5_distance_19 : decode cX5_distance 19 = .ok (.getfield 9, 3) := by decide +kernel
theorem dX5_distance_22 : decode cX5_distance 22 = .ok (.iload 6, 2) := by decide +kernel
theorem dX5_distance_24 : decode cX5_distance 24 = .ok (.iaload, 1) := by decide +kernel
theorem dX5_distance_25 : decode cX5_distance 25 = .ok (.iload_n 3, 1) := by decide +kernel
theorem dX5_distance_26 : decode cX5_distance 26 = .ok (.bipush 10, 2) := by decide +kernel
theorem dX5_distance_28 : decode cX5_distance 28 = .ok (.irem, 1) := by decide +kernel
theorem dX5_distance_29 : decode cX5_distance 29 = .ok (.iload 4, 2) := by decide +kernel
theorem dX5_distance_31 : decode cX5_distance 31 = .ok (.bipush 10, 2) := by decide +kernel
theorem dX5_distance_33 : decode cX5_distance 33 = .ok (.irem, 1) := by decide +kernel
theorem dX5_distance_34 : decode cX5_distance 34 = .ok (.isub, 1) := by decide +kernel
theorem dX5_distance_35 : decode cX5_distance 35 = .ok (.invokestatic 40, 3) := by decide +kernel
theorem dX5_distance_38 : decode cX5_distance 38 = .ok (.imul, 1) := by decide +kernel
theorem dX5_distance_39 : decode cX5_distance 39 = .ok (.iadd, 1) := by decide +kernel
theorem dX5_distance_40 : decode cX5_distance 40 = .ok (.istore 5, 2) := by decide +kernel
theorem dX5_distance_42 : decode cX5_distance 42 = .ok (.iload_n 3, 1) := by decide +kernel
theorem dX5_distance_43 : decode cX5_distance 43 = .ok (.bipush 10, 2) := by decide +kernel
theorem dX5_distance_45 : decode cX5_distance 45 = .ok (.idiv, 1) := by decide +kernel
theorem dX5_distance_46 : decode cX5_distance 46 = .ok (.istore_n 3, 1) := by decide +kernel
theorem dX5_distance_47 : decode cX5_distance 47 = .ok (.iload 4, 2) := by decide +kernel
theorem dX5_distance_49 : decode cX5_distance 49 = .ok (.bipush 10, 2) := by decide +kernel
theorem dX5_distance_51 : decode cX5_distance 51 = .ok (.idiv, 1) := by decide +kernel
theorem dX5_distance_52 : decode cX5_distance 52 = .ok (.istore 4, 2) := by decide +kernel
theorem dX5_distance_54 : decode cX5_distance 54 = .ok (.iinc 6 (-1), 3) := by decide +kernel
theorem dX5_distance_57 : decode cX5_distance 57 = .ok (.goto (-46), 3) := by decide +kernel
theorem dX5_distance_60 : decode cX5_distance 60 = .ok (.iload 5, 2) := by decide +kernel
theorem dX5_distance_62 : decode cX5_distance 62 = .ok (.ireturn, 1) := by decide +kernel
theorem dX5_rateOf_0 : decode cX5_rateOf 0 = .ok (.iload_n 2, 1) := by decide +kernel
theorem dX5_rateOf_1 : decode cX5_rateOf 1 = .ok (.ifCond .gt 10, 3) := by decide +kernel
theorem dX5_rateOf_4 : decode cX5_rateOf 4 = .ok (.aload_n 0, 1) := by decide +kernel
theorem dX5_rateOf_5 : decode cX5_rateOf 5 = .ok (.getfield 28, 3) := by decide +kernel
theorem dX5_rateOf_8 : decode cX5_rateOf 8 = .ok (.goto 9, 3) := by decide +kernel
theorem dX5_rateOf_11 : decode cX5_rateOf 11 = .ok (.aload_n 0, 1) := by decide +kernel
theorem dX5_rateOf_12 : decode cX5_rateOf 12 = .ok (.aload_n 1, 1) := by decide +kernel
theorem dX5_rateOf_13 : decode cX5_rateOf 13 = .ok (.iload_n 2, 1) := by decide +kernel
theorem dX5_rateOf_14 : decode cX5_rateOf 14 = .ok (.invokevirtual 46, 3) := by decide +kernel
theorem dX5_rateOf_17 : decode cX5_rateOf 17 = .ok (.istore 4, 2) := by decide +kernel
theorem dX5_rateOf_19 : decode cX5_rateOf 19 = .ok (.sipush 1000, 3) := by decide +kernel
theorem dX5_rateOf_22 : decode cX5_rateOf 22 = .ok (.iload 4, 2) := by decide +kernel
theorem dX5_rateOf_24 : decode cX5_rateOf 24 = .ok (.aload_n 0, 1) := by decide +kernel
theorem dX5_rateOf_25 : decode cX5_rateOf 25 = .ok (.getfield 31, 3) := by decide +kernel
theorem dX5_rateOf_28 : decode cX5_rateOf 28 = .ok (.iload_n 3, 1) := by decide +kernel
theorem dX5_rateOf_29 : decode cX5_rateOf 29 = .ok (.imul, 1) := by decide +kernel
theorem dX5_rateOf_30 : decode cX5_rateOf 30 = .ok (.iadd, 1) := by decide +kernel
theorem dX5_rateOf_31 : decode cX5_rateOf 31 = .ok (.invokestatic 50, 3) := by decide +kernel
theorem dX5_rateOf_34 : decode cX5_rateOf 34 = .ok (.ireturn, 1) := by decide +kernel
theorem dX5_givenOf_0 : decode cX5_givenOf 0 = .ok (.aload_n 0, 1) := by decide +kernel
theorem dX5_givenOf_1 : decode cX5_givenOf 1 = .ok (.getfield 25, 3) := by decide +kernel
theorem dX5_givenOf_4 : decode cX5_givenOf 4 = .ok (.tableswitch 46 0 2 #[28, 32, 40], 28) := by decide +kernel
theorem dX5_givenOf_32 : decode cX5_givenOf 32 = .ok (.aload_n 1, 1) := by decide +kernel
theorem dX5_givenOf_33 : decode cX5_givenOf 33 = .ok (.iconst 0, 1) := by decide +kernel
theorem dX5_givenOf_34 : decode cX5_givenOf 34 = .ok (.iaload, 1) := by decide +kernel
theorem dX5_givenOf_35 : decode cX5_givenOf 35 = .ok (.ireturn, 1) := by decide +kernel
theorem dX5_givenOf_36 : decode cX5_givenOf 36 = .ok (.aload_n 1, 1) := by decide +kernel
theorem dX5_givenOf_37 : decode cX5_givenOf 37 = .ok (.iload_n 2, 1) := by decide +kernel
theorem dX5_givenOf_38 : decode cX5_givenOf 38 = .ok (.iconst 1, 1) := by decide +kernel
theorem dX5_givenOf_39 : decode cX5_givenOf 39 = .ok (.isub, 1) := by decide +kernel
theorem dX5_givenOf_40 : decode cX5_givenOf 40 = .ok (.iconst 2, 1) := by decide +kernel
theorem dX5_givenOf_41 : decode cX5_givenOf 41 = .ok (.idiv, 1) := by decide +kernel
theorem dX5_givenOf_42 : decode cX5_givenOf 42 = .ok (.iaload, 1) := by decide +kernel
theorem dX5_givenOf_43 : decode cX5_givenOf 43 = .ok (.ireturn, 1) := by decide +kernel
theorem dX5_givenOf_44 : decode cX5_givenOf 44 = .ok (.aload_n 1, 1) := by decide +kernel
theorem dX5_givenOf_45 : decode cX5_givenOf 45 = .ok (.iload_n 2, 1) := by decide +kernel
theorem dX5_givenOf_46 : decode cX5_givenOf 46 = .ok (.iconst 1, 1) := by decide +kernel
theorem dX5_givenOf_47 : decode cX5_givenOf 47 = .ok (.isub, 1) := by decide +kernel
theorem dX5_givenOf_48 : decode cX5_givenOf 48 = .ok (.iaload, 1) := by decide +kernel
theorem dX5_givenOf_49 : decode cX5_givenOf 49 = .ok (.ireturn, 1) := by decide +kernel
theorem dX5_givenOf_50 : decode cX5_givenOf 50 = .ok (.aload_n 1, 1) := by decide +kernel
theorem dX5_givenOf_51 : decode cX5_givenOf 51 = .ok (.iload_n 2, 1) := by decide +kernel
theorem dX5_givenOf_52 : decode cX5_givenOf 52 = .ok (.invokestatic 54, 3) := by decide +kernel
theorem dX5_givenOf_55 : decode cX5_givenOf 55 = .ok (.ireturn, 1) := by decide +kernel
theorem dX5_mean_0 : decode cX5_mean 0 = .ok (.iconst 0, 1) := by decide +kernel
theorem dX5_mean_1 : decode cX5_mean 1 = .ok (.istore_n 2, 1) := by decide +kernel
theorem dX5_mean_2 : decode cX5_mean 2 = .ok (.iconst 0, 1) := by decide +kernel
theorem dX5_mean_3 : decode cX5_mean 3 = .ok (.istore_n 3, 1) := by decide +kernel
theorem dX5_mean_4 : decode cX5_mean 4 = .ok (.iload_n 3, 1) := by decide +kernel
theorem dX5_mean_5 : decode cX5_mean 5 = .ok (.iload_n 1, 1) := by decide +kernel
theorem dX5_mean_6 : decode cX5_mean 6 = .ok (.if_icmp .ge 15, 3) := by decide +kernel
theorem dX5_mean_9 : decode cX5_mean 9 = .ok (.iload_n 2, 1) := by decide +kernel
theorem dX5_mean_10 : decode cX5_mean 10 = .ok (.aload_n 0, 1) := by decide +kernel
theorem dX5_mean_11 : decode cX5_mean 11 = .ok (.iload_n 3, 1) := by decide +kernel
theorem dX5_mean_12 : decode cX5_mean 12 = .ok (.iaload, 1) := by decide +kernel
theorem dX5_mean_13 : decode cX5_mean 13 = .ok (.iadd, 1) := by decide +kernel
theorem dX5_mean_14 : decode cX5_mean 14 = .ok (.istore_n 2, 1) := by decide +kernel
theorem dX5_mean_15 : decode cX5_mean 15 = .ok (.iinc 3 1, 3) := by decide +kernel
theorem dX5_mean_18 : decode cX5_mean 18 = .ok (.goto (-14), 3) := by decide +kernel
theorem dX5_mean_21 : decode cX5_mean 21 = .ok (.iload_n 1, 1) := by decide +kernel
theorem dX5_mean_22 : decode cX5_mean 22 = .ok (.ifCond .le 9, 3) := by decide +kernel
theorem dX5_mean_25 : decode cX5_mean 25 = .ok (.iload_n 2, 1) := by decide +kernel
theorem dX5_mean_26 : decode cX5_mean 26 = .ok (.iload_n 1, 1) := by decide +kernel
theorem dX5_mean_27 : decode cX5_mean 27 = .ok (.idiv, 1) := by decide +kernel
theorem dX5_mean_28 : decode cX5_mean 28 = .ok (.goto 4, 3) := by decide +kernel
theorem dX5_mean_31 : decode cX5_mean 31 = .ok (.iconst 0, 1) := by decide +kernel
theorem dX5_mean_32 : decode cX5_mean 32 = .ok (.ireturn, 1) := by decide +kernel
theorem dX6_init_0 : decode cX6_init 0 = .ok (.aload_n 0, 1) := by decide +kernel
theorem dX6_init_1 : decode cX6_init 1 = .ok (.invokespecial 3, 3) := by decide +kernel
theorem dX6_init_4 : decode cX6_init 4 = .ok (.aload_n 0, 1) := by decide +kernel
theorem dX6_init_5 : decode cX6_init 5 = .ok (.bipush 60, 2) := by decide +kernel
theorem dX6_init_7 : decode cX6_init 7 = .ok (.newarray .long, 2) := by decide +kernel
theorem dX6_init_9 : decode cX6_init 9 = .ok (.putfield 9, 3) := by decide +kernel
theorem dX6_init_12 : decode cX6_init 12 = .ok (.return_, 1) := by decide +kernel
theorem dX6_loseLate_0 : decode cX6_loseLate 0 = .ok (.iconst 0, 1) := by decide +kernel
theorem dX6_loseLate_1 : decode cX6_loseLate 1 = .ok (.iload_n 1, 1) := by decide +kernel
theorem dX6_loseLate_2 : decode cX6_loseLate 2 = .ok (.aload_n 2, 1) := by decide +kernel
theorem dX6_loseLate_3 : decode cX6_loseLate 3 = .ok (.getfield 15, 3) := by decide +kernel
theorem dX6_loseLate_6 : decode cX6_loseLate 6 = .ok (.isub, 1) := by decide +kernel
theorem dX6_loseLate_7 : decode cX6_loseLate 7 = .ok (.invokestatic 21, 3) := by decide +kernel
theorem dX6_loseLate_10 : decode cX6_loseLate 10 = .ok (.bipush 30, 2) := by decide +kernel
theorem dX6_loseLate_12 : decode cX6_loseLate 12 = .ok (.idiv, 1) := by decide +kernel
theorem dX6_loseLate_13 : decode cX6_loseLate 13 = .ok (.i2l, 1) := by decide +kernel
theorem dX6_loseLate_14 : decode cX6_loseLate 14 = .ok (.lstore_n 3, 1) := by decide +kernel
theorem dX6_loseLate_15 : decode cX6_loseLate 15 = .ok (.aload_n 0, 1) := by decide +kernel
theorem dX6_loseLate_16 : decode cX6_loseLate 16 = .ok (.aload_n 0, 1) := by decide +kernel
theorem dX6_loseLate_17 : decode cX6_loseLate 17 = .ok (.getfield 27, 3) := by decide +kernel
theorem dX6_loseLate_20 : decode cX6_loseLate 20 = .ok (.ldc2_w 31, 3) := by decide +kernel
theorem dX6_loseLate_23 : decode cX6_loseLate 23 = .ok (.lload_n 3, 1) := by decide +kernel
theorem dX6_loseLate_24 : decode cX6_loseLate 24 = .ok (.aload_n 2, 1) := by decide +kernel
theorem dX6_loseLate_25 : decode cX6_loseLate 25 = .ok (.getfield 33, 3) := by decide +kernel
theorem dX6_loseLate_28 : decode cX6_loseLate 28 = .ok (.i2l, 1) := by decide +kernel
theorem dX6_loseLate_29 : decode cX6_loseLate 29 = .ok (.lmul, 1) := by decide +kernel
theorem dX6_loseLate_30 : decode cX6_loseLate 30 = .ok (.invokestatic 36, 3) := by decide +kernel
theorem dX6_loseLate_33 : decode cX6_loseLate 33 = .ok (.lmul, 1) := by decide +kernel
theorem dX6_loseLate_34 : decode cX6_loseLate 34 = .ok (.ldc2_w 31, 3) := by decide +kernel
theorem dX6_loseLate_37 : decode cX6_loseLate 37 = .ok (.ldiv, 1) := by decide +kernel
theorem dX6_loseLate_38 : decode cX6_loseLate 38 = .ok (.putfield 40, 3) := by decide +kernel
theorem dX6_loseLate_41 : decode cX6_loseLate 41 = .ok (.aload_n 0, 1) := by decide +kernel
theorem dX6_loseLate_42 : decode cX6_loseLate 42 = .ok (.dup, 1) := by decide +kernel
theorem dX6_loseLate_43 : decode cX6_loseLate 43 = .ok (.getfield 27, 3) := by decide +kernel
theorem dX6_loseLate_46 : decode cX6_loseLate 46 = .ok (.aload_n 0, 1) := by decide +kernel
theorem dX6_loseLate_47 : decode cX6_loseLate 47 = .ok (.getfield 40, 3) := by decide +kernel
theorem dX6_loseLate_50 : decode cX6_loseLate 50 = .ok (.lsub, 1) := by decide +kernel
theorem dX6_loseLate_51 : decode cX6_loseLate 51 = .ok (.putfield 27, 3) := by decide +kernel
theorem dX6_loseLate_54 : decode cX6_loseLate 54 = .ok (.return_, 1) := by decide +kernel
theorem dX6_pay_0 : decode cX6_pay 0 = .ok (.aload_n 0, 1) := by decide +kernel
theorem dX6_pay_1 : decode cX6_pay 1 = .ok (.aload_n 0, 1) := by decide +kernel
theorem dX6_pay_2 : decode cX6_pay 2 = .ok (.getfield 27, 3) := by decide +kernel
theorem dX6_pay_5 : decode cX6_pay 5 = .ok (.aload_n 1, 1) := by decide +kernel
theorem dX6_pay_6 : decode cX6_pay 6 = .ok (.getfield 43, 3) := by decide +kernel
theorem dX6_pay_9 : decode cX6_pay 9 = .ok (.i2l, 1) := by decide +kernel
theorem dX6_pay_10 : decode cX6_pay 10 = .ok (.lmul, 1) := by decide +kernel
theorem dX6_pay_11 : decode cX6_pay 11 = .ok (.ldc2_w 48, 3) := by decide +kernel
theorem dX6_pay_14 : decode cX6_pay 14 = .ok (.ldiv, 1) := by decide +kernel
theorem dX6_pay_15 : decode cX6_pay 15 = .ok (.putfield 50, 3) := by decide +kernel
theorem dX6_pay_18 : decode cX6_pay 18 = .ok (.aload_n 0, 1) := by decide +kernel
theorem dX6_pay_19 : decode cX6_pay 19 = .ok (.aload_n 0, 1) := by decide +kernel
theorem dX6_pay_20 : decode cX6_pay 20 = .ok (.getfield 27, 3) := by decide +kernel
theorem dX6_pay_23 : decode cX6_pay 23 = .ok (.aload_n 1, 1) := by decide +kernel
theorem dX6_pay_24 : decode cX6_pay 24 = .ok (.getfield 52, 3) := by decide +kernel
theorem dX6_pay_27 : decode cX6_pay 27 = .ok (.i2l, 1) := by decide +kernel
theorem dX6_pay_28 : decode cX6_pay 28 = .ok (.lmul, 1) := by decide +kernel
theorem dX6_pay_29 : decode cX6_pay 29 = .ok (.ldc2_w 48, 3) := by decide +kernel
theorem dX6_pay_32 : decode cX6_pay 32 = .ok (.ldiv, 1) := by decide +kernel
theorem dX6_pay_33 : decode cX6_pay 33 = .ok (.putfield 55, 3) := by decide +kernel
theorem dX6_pay_36 : decode cX6_pay 36 = .ok (.aload_n 0, 1) := by decide +kernel
theorem dX6_pay_37 : decode cX6_pay 37 = .ok (.aload_n 0, 1) := by decide +kernel
theorem dX6_pay_38 : decode cX6_pay 38 = .ok (.getfield 27, 3) := by decide +kernel
theorem dX6_pay_41 : decode cX6_pay 41 = .ok (.aload_n 0, 1) := by decide +kernel
theorem dX6_pay_42 : decode cX6_pay 42 = .ok (.getfield 50, 3) := by decide +kernel
theorem dX6_pay_45 : decode cX6_pay 45 = .ok (.lsub, 1) := by decide +kernel
theorem dX6_pay_46 : decode cX6_pay 46 = .ok (.aload_n 0, 1) := by decide +kernel
theorem dX6_pay_47 : decode cX6_pay 47 = .ok (.getfield 55, 3) := by decide +kernel
theorem dX6_pay_50 : decode cX6_pay 50 = .ok (.lsub, 1) := by decide +kernel
theorem dX6_pay_51 : decode cX6_pay 51 = .ok (.putfield 57, 3) := by decide +kernel
theorem dX6_pay_54 : decode cX6_pay 54 = .ok (.aload_n 0, 1) := by decide +kernel
theorem dX6_pay_55 : decode cX6_pay 55 = .ok (.aload_n 1, 1) := by decide +kernel
theorem dX6_pay_56 : decode cX6_pay 56 = .ok (.getfield 60, 3) := by decide +kernel
theorem dX6_pay_59 : decode cX6_pay 59 = .ok (.invokevirtual 63, 3) := by decide +kernel
theorem dX6_pay_62 : decode cX6_pay 62 = .ok (.return_, 1) := by decide +kernel
theorem dX6_payHands_0 : decode cX6_payHands 0 = .ok (.aload_n 0, 1) := by decide +kernel
theorem dX6_payHands_1 : decode cX6_payHands 1 = .ok (.aload_n 1, 1) := by decide +kernel
theorem dX6_payHands_2 : decode cX6_payHands 2 = .ok (.getfield 67, 3) := by decide +kernel
theorem dX6_payHands_5 : decode cX6_payHands 5 = .ok (.putfield 72, 3) := by decide +kernel
theorem dX6_payHands_8 : decode cX6_payHands 8 = .ok (.aload_n 1, 1) := by decide +kernel
theorem dX6_payHands_9 : decode cX6_payHands 9 = .ok (.getfield 73, 3) := by decide +kernel
theorem dX6_payHands_12 : decode cX6_payHands 12 = .ok (.ifCond .gt 4, 3) := by decide +kernel
theorem dX6_payHands_15 : decode cX6_payHands 15 = .ok (.return_, 1) := by decide +kernel
theorem dX6_payHands_16 : decode cX6_payHands 16 = .ok (.aload_n 0, 1) := by decide +kernel
theorem dX6_payHands_17 : decode cX6_payHands 17 = .ok (.getfield 57, 3) := by decide +kernel
theorem dX6_payHands_20 : decode cX6_payHands 20 = .ok (.lstore_n 2, 1) := by decide +kernel
theorem dX6_payHands_21 : decode cX6_payHands 21 = .ok (.iconst 0, 1) := by decide +kernel
theorem dX6_payHands_22 : decode cX6_payHands 22 = .ok (.istore 4, 2) := by decide +kernel
theorem dX6_payHands_24 : decode cX6_payHands 24 = .ok (.iload 4, 2) := by decide +kernel
theorem dX6_payHands_26 : decode cX6_payHands 26 = .ok (.aload_n 0, 1) := by decide +kernel
theorem dX6_payHands_27 : decode cX6_payHands 27 = .ok (.getfield 72, 3) := by decide +kernel
theorem dX6_payHands_30 : decode cX6_payHands 30 = .ok (.if_icmp .ge 45, 3) := by decide +kernel
theorem dX6_payHands_33 : decode cX6_payHands 33 = .ok (.aload_n 0, 1) := by decide +kernel
theorem dX6_payHands_34 : decode cX6_payHands 34 = .ok (.getfield 9, 3) := by decide +kernel
theorem dX6_payHands_37 : decode cX6_payHands 37 = .ok (.iload 4, 2) := by decide +kernel
theorem dX6_payHands_39 : decode cX6_payHands 39 = .ok (.aload_n 0, 1) := by decide +kernel
theorem dX6_payHands_40 : decode cX6_payHands 40 = .ok (.getfield 57, 3) := by decide +kernel
theorem dX6_payHands_43 : decode cX6_payHands 43 = .ok (.aload_n 1, 1) := by decide +kernel
theorem dX6_payHands_44 : decode cX6_payHands 44 = .ok (.getfield 76, 3) := by decide +kernel
theorem dX6_payHands_47 : decode cX6_payHands 47 = .ok (.iload 4, 2) := by decide +kernel
theorem dX6_payHands_49 : decode cX6_payHands 49 = .ok (.iaload, 1) := by decide +kernel
theorem dX6_payHands_50 : decode cX6_payHands 50 = .ok (.i2l, 1) := by decide +kernel
theorem dX6_payHands_51 : decode cX6_payHands 51 = .ok (.lmul, 1) := by decide +kernel
theorem dX6_payHands_52 : decode cX6_payHands 52 = .ok (.aload_n 1, 1) := by decide +kernel
theorem dX6_payHands_53 : decode cX6_payHands 53 = .ok (.getfield 73, 3) := by decide +kernel
theorem dX6_payHands_56 : decode cX6_payHands 56 = .ok (.i2l, 1) := by decide +kernel
theorem dX6_payHands_57 : decode cX6_payHands 57 = .ok (.ldiv, 1) := by decide +kernel
theorem dX6_payHands_58 : decode cX6_payHands 58 = .ok (.lastore, 1) := by decide +kernel
theorem dX6_payHands_59 : decode cX6_payHands 59 = .ok (.lload_n 2, 1) := by decide +kernel
theorem dX6_payHands_60 : decode cX6_payHands 60 = .ok (.aload_n 0, 1) := by decide +kernel
theorem dX6_payHands_61 : decode cX6_payHands 61 = .ok (.getfield 9, 3) := by decide +kernel
theorem dX6_payHands_64 : decode cX6_payHands 64 = .ok (.iload 4, 2) := by decide +kernel
theorem dX6_payHands_66 : decode cX6_payHands 66 = .ok (.laload, 1) := by decide +kernel
theorem dX6_payHands_67 : decode cX6_payHands 67 = .ok (.lsub, 1) := by decide +kernel
theorem dX6_payHands_68 : decode cX6_payHands 68 = .ok (.lstore_n 2, 1) := by decide +kernel
theorem dX6_payHands_69 : decode cX6_payHands 69 = .ok (.iinc 4 1, 3) := by decide +kernel
theorem dX6_payHands_72 : decode cX6_payHands 72 = .ok (.goto (-48), 3) := by decide +kernel
theorem dX6_payHands_75 : decode cX6_payHands 75 = .ok (.iconst 0, 1) := by decide +kernel
theorem dX6_payHands_76 : decode cX6_payHands 76 = .ok (.istore 4, 2) := by decide +kernel
theorem dX6_payHands_78 : decode cX6_payHands 78 = .ok (.iload 4, 2) := by decide +kernel
theorem dX6_payHands_80 : decode cX6_payHands 80 = .ok (.aload_n 0, 1) := by decide +kernel
theorem dX6_payHands_81 : decode cX6_payHands 81 = .ok (.getfield 72, 3) := by decide +kernel
theorem dX6_payHands_84 : decode cX6_payHands 84 = .ok (.if_icmp .ge 28, 3) := by decide +kernel
theorem dX6_payHands_87 : decode cX6_payHands 87 = .ok (.iload 4, 2) := by decide +kernel
theorem dX6_payHands_89 : decode cX6_payHands 89 = .ok (.i2l, 1) := by decide +kernel
theorem dX6_payHands_90 : decode cX6_payHands 90 = .ok (.lload_n 2, 1) := by decide +kernel
theorem dX6_payHands_91 : decode cX6_payHands 91 = .ok (.lcmp, 1) := by decide +kernel
theorem dX6_payHands_92 : decode cX6_payHands 92 = .ok (.ifCond .ge 20, 3) := by decide +kernel
theorem dX6_payHands_95 : decode cX6_payHands 95 = .ok (.aload_n 0, 1) := by decide +kernel
theorem dX6_payHands_96 : decode cX6_payHands 96 = .ok (.getfield 9, 3) := by decide +kernel
theorem dX6_payHands_99 : decode cX6_payHands 99 = .ok (.iload 4, 2) := by decide +kernel
theorem dX6_payHands_101 : decode cX6_payHands 101 = .ok (.dup2, 1) := by decide +kernel
theorem dX6_payHands_102 : decode cX6_payHands 102 = .ok (.laload, 1) := by decide +kernel
theorem dX6_payHands_103 : decode cX6_payHands 103 = .ok (.lconst 1, 1) := by decide +kernel
theorem dX6_payHands_104 : decode cX6_payHands 104 = .ok (.ladd, 1) := by decide +kernel
theorem dX6_payHands_105 : decode cX6_payHands 105 = .ok (.lastore, 1) := by decide +kernel
theorem dX6_payHands_106 : decode cX6_payHands 106 = .ok (.iinc 4 1, 3) := by decide +kernel
theorem dX6_payHands_109 : decode cX6_payHands 109 = .ok (.goto (-31), 3) := by decide +kernel
theorem dX6_payHands_112 : decode cX6_payHands 112 = .ok (.return_, 1) := by decide +kernel
theorem dX7_init_0 : decode cX7_init 0 = .ok (.aload_n 0, 1) := by decide +kernel
theorem dX7_init_1 : decode cX7_init 1 = .ok (.invokespecial 1, 3) := by decide +kernel
theorem dX7_init_4 : decode cX7_init 4 = .ok (.aload_n 0, 1) := by decide +kernel
theorem dX7_init_5 : decode cX7_init 5 = .ok (.new 7, 3) := by decide +kernel
theorem dX7_init_8 : decode cX7_init 8 = .ok (.dup, 1) := by decide +kernel
theorem dX7_init_9 : decode cX7_init 9 = .ok (.invokespecial 9, 3) := by decide +kernel
theorem dX7_init_12 : decode cX7_init 12 = .ok (.putfield 10, 3) := by decide +kernel
theorem dX7_init_15 : decode cX7_init 15 = .ok (.return_, 1) := by decide +kernel
theorem dX8_init_0 : decode cX8_init 0 = .ok (.aload_n 0, 1) := by decide +kernel
theorem dX8_init_1 : decode cX8_init 1 = .ok (.invokespecial 3, 3) := by decide +kernel
theorem dX8_init_4 : decode cX8_init 4 = .ok (.aload_n 0, 1) := by decide +kernel
theorem dX8_init_5 : decode cX8_init 5 = .ok (.bipush 6, 2) := by decide +kernel
theorem dX8_init_7 : decode cX8_init 7 = .ok (.newarray .int, 2) := by decide +kernel
theorem dX8_init_9 : decode cX8_init 9 = .ok (.putfield 9, 3) := by decide +kernel
theorem dX8_init_12 : decode cX8_init 12 = .ok (.aload_n 0, 1) := by decide +kernel
theorem dX8_init_13 : decode cX8_init 13 = .ok (.bipush 40, 2) := by decide +kernel
theorem dX8_init_15 : decode cX8_init 15 = .ok (.newarray .int, 2) := by decide +kernel
theorem dX8_init_17 : decode cX8_init 17 = .ok (.putfield 15, 3) := by decide +kernel
theorem dX8_init_20 : decode cX8_init 20 = .ok (.aload_n 0, 1) := by decide +kernel
theorem dX8_init_21 : decode cX8_init 21 = .ok (.bipush 40, 2) := by decide +kernel
theorem dX8_init_23 : decode cX8_init 23 = .ok (.newarray .int, 2) := by decide +kernel
theorem dX8_init_25 : decode cX8_init 25 = .ok (.putfield 18, 3) := by decide +kernel
theorem dX8_init_28 : decode cX8_init 28 = .ok (.aload_n 0, 1) := by decide +kernel
theorem dX8_init_29 : decode cX8_init 29 = .ok (.bipush 40, 2) := by decide +kernel
theorem dX8_init_31 : decode cX8_init 31 = .ok (.newarray .int, 2) := by decide +kernel
theorem dX8_init_33 : decode cX8_init 33 = .ok (.putfield 21, 3) := by decide +kernel
theorem dX8_init_36 : decode cX8_init 36 = .ok (.aload_n 0, 1) := by decide +kernel
theorem dX8_init_37 : decode cX8_init 37 = .ok (.bipush 40, 2) := by decide +kernel
theorem dX8_init_39 : decode cX8_init 39 = .ok (.newarray .int, 2) := by decide +kernel
theorem dX8_init_41 : decode cX8_init 41 = .ok (.putfield 24, 3) := by decide +kernel
theorem dX8_init_44 : decode cX8_init 44 = .ok (.aload_n 0, 1) := by decide +kernel
theorem dX8_init_45 : decode cX8_init 45 = .ok (.bipush 40, 2) := by decide +kernel
theorem dX8_init_47 : decode cX8_init 47 = .ok (.newarray .int, 2) := by decide +kernel
theorem dX8_init_49 : decode cX8_init 49 = .ok (.putfield 27, 3) := by decide +kernel
theorem dX8_init_52 : decode cX8_init 52 = .ok (.aload_n 0, 1) := by decide +kernel
theorem dX8_init_53 : decode cX8_init 53 = .ok (.new 30, 3) := by decide +kernel
theorem dX8_init_56 : decode cX8_init 56 = .ok (.dup, 1) := by decide +kernel
theorem dX8_init_57 : decode cX8_init 57 = .ok (.invokespecial 32, 3) := by decide +kernel
theorem dX8_init_60 : decode cX8_init 60 = .ok (.putfield 33, 3) := by decide +kernel
theorem dX8_init_63 : decode cX8_init 63 = .ok (.aload_n 0, 1) := by decide +kernel
theorem dX8_init_64 : decode cX8_init 64 = .ok (.bipush 40, 2) := by decide +kernel
theorem dX8_init_66 : decode cX8_init 66 = .ok (.newarray .boolean, 2) := by decide +kernel
theorem dX8_init_68 : decode cX8_init 68 = .ok (.putfield 37, 3) := by decide +kernel
theorem dX8_init_71 : decode cX8_init 71 = .ok (.aload_n 0, 1) := by decide +kernel
theorem dX8_init_72 : decode cX8_init 72 = .ok (.new 30, 3) := by decide +kernel
theorem dX8_init_75 : decode cX8_init 75 = .ok (.dup, 1) := by decide +kernel
theorem dX8_init_76 : decode cX8_init 76 = .ok (.invokespecial 32, 3) := by decide +kernel
theorem dX8_init_79 : decode cX8_init 79 = .ok (.putfield 41, 3) := by decide +kernel
theorem dX8_init_82 : decode cX8_init 82 = .ok (.aload_n 0, 1) := by decide +kernel
theorem dX8_init_83 : decode cX8_init 83 = .ok (.bipush 40, 2) := by decide +kernel
theorem dX8_init_85 : decode cX8_init 85 = .ok (.newarray .boolean, 2) := by decide +kernel
theorem dX8_init_87 : decode cX8_init 87 = .ok (.putfield 44, 3) := by decide +kernel
theorem dX8_init_90 : decode cX8_init 90 = .ok (.aload_n 0, 1) := by decide +kernel
theorem dX8_init_91 : decode cX8_init 91 = .ok (.getfield 9, 3) := by decide +kernel
theorem dX8_init_94 : decode cX8_init 94 = .ok (.iconst 5, 1) := by decide +kernel
theorem dX8_init_95 : decode cX8_init 95 = .ok (.invokestatic 47, 3) := by decide +kernel
theorem dX8_init_98 : decode cX8_init 98 = .ok (.return_, 1) := by decide +kernel
theorem dX8_setTrust_0 : decode cX8_setTrust 0 = .ok (.aload_n 0, 1) := by decide +kernel
theorem dX8_setTrust_1 : decode cX8_setTrust 1 = .ok (.getfield 9, 3) := by decide +kernel
theorem dX8_setTrust_4 : decode cX8_setTrust 4 = .ok (.iload_n 1, 1) := by decide +kernel
theorem dX8_setTrust_5 : decode cX8_setTrust 5 = .ok (.iaload, 1) := by decide +kernel
theorem dX8_setTrust_6 : decode cX8_setTrust 6 = .ok (.istore_n 3, 1) := by decide +kernel
theorem dX8_setTrust_7 : decode cX8_setTrust 7 = .ok (.aload_n 0, 1) := by decide +kernel
theorem dX8_setTrust_8 : decode cX8_setTrust 8 = .ok (.getfield 9, 3) := by decide +kernel
theorem dX8_setTrust_11 : decode cX8_setTrust 11 = .ok (.iload_n 1, 1) := by decide +kernel
theorem dX8_setTrust_12 : decode cX8_setTrust 12 = .ok (.iload_n 2, 1) := by decide +kernel
theorem dX8_setTrust_13 : decode cX8_setTrust 13 = .ok (.iastore, 1) := by decide +kernel
theorem dX8_setTrust_14 : decode cX8_setTrust 14 = .ok (.aload_n 0, 1) := by decide +kernel
theorem dX8_setTrust_15 : decode cX8_setTrust 15 = .ok (.aload_n 0, 1) := by decide +kernel
theorem dX8_setTrust_16 : decode cX8_setTrust 16 = .ok (.getfield 53, 3) := by decide +kernel
theorem dX8_setTrust_19 : decode cX8_setTrust 19 = .ok (.ifCond .eq 12, 3) := by decide +kernel
theorem dX8_setTrust_22 : decode cX8_setTrust 22 = .ok (.iload_n 3, 1) := by decide +kernel
theorem dX8_setTrust_23 : decode cX8_setTrust 23 = .ok (.iload_n 2, 1) := by decide +kernel
theorem dX8_setTrust_24 : decode cX8_setTrust 24 = .ok (.if_icmp .ne 7, 3) := by decide +kernel
theorem dX8_setTrust_27 : decode cX8_setTrust 27 = .ok (.iconst 1, 1) := by decide +kernel
theorem dX8_setTrust_28 : decode cX8_setTrust 28 = .ok (.goto 4, 3) := by decide +kernel
theorem dX8_setTrust_31 : decode cX8_setTrust 31 = .ok (.iconst 0, 1) := by decide +kernel
theorem dX8_setTrust_32 : decode cX8_setTrust 32 = .ok (.putfield 53, 3) := by decide +kernel
theorem dX8_setTrust_35 : decode cX8_setTrust 35 = .ok (.iload_n 3, 1) := by decide +kernel
theorem dX8_setTrust_36 : decode cX8_setTrust 36 = .ok (.ireturn, 1) := by decide +kernel
theorem dX8_add_0 : decode cX8_add 0 = .ok (.aload_n 0, 1) := by decide +kernel
theorem dX8_add_1 : decode cX8_add 1 = .ok (.getfield 57, 3) := by decide +kernel
theorem dX8_add_4 : decode cX8_add 4 = .ok (.bipush 40, 2) := by decide +kernel
theorem dX8_add_6 : decode cX8_add 6 = .ok (.if_icmp .lt 5, 3) := by decide +kernel
theorem dX8_add_9 : decode cX8_add 9 = .ok (.iconst (-1), 1) := by decide +kernel
theorem dX8_add_10 : decode cX8_add 10 = .ok (.ireturn, 1) := by decide +kernel
theorem dX8_add_11 : decode cX8_add 11 = .ok (.aload_n 0, 1) := by decide +kernel
theorem dX8_add_12 : decode cX8_add 12 = .ok (.getfield 15, 3) := by decide +kernel
theorem dX8_add_15 : decode cX8_add 15 = .ok (.aload_n 0, 1) := by decide +kernel
theorem dX8_add_16 : decode cX8_add 16 = .ok (.getfield 57, 3) := by decide +kernel
theorem dX8_add_19 : decode cX8_add 19 = .ok (.iload_n 1, 1) := by decide +kernel
theorem dX8_add_20 : decode cX8_add 20 = .ok (.iastore, 1) := by decide +kernel
theorem dX8_add_21 : decode cX8_add 21 = .ok (.aload_n 0, 1) := by decide +kernel
theorem dX8_add_22 : decode cX8_add 22 = .ok (.getfield 18, 3) := by decide +kernel
theorem dX8_add_25 : decode cX8_add 25 = .ok (.aload_n 0, 1) := by decide +kernel
theorem dX8_add_26 : decode cX8_add 26 = .ok (.getfield 57, 3) := by decide +kernel
theorem dX8_add_29 : decode cX8_add 29 = .ok (.iload_n 2, 1) := by decide +kernel
theorem dX8_add_30 : decode cX8_add 30 = .ok (.iastore, 1) := by decide +kernel
theorem dX8_add_31 : decode cX8_add 31 = .ok (.aload_n 0, 1) := by decide +kernel
theorem dX8_add_32 : decode cX8_add 32 = .ok (.getfield 21, 3) := by decide +kernel
theorem dX8_add_35 : decode cX8_add 35 = .ok (.aload_n 0, 1) := by decide +kernel
theorem dX8_add_36 : decode cX8_add 36 = .ok (.getfield 57, 3) := by decide +kernel
theorem dX8_add_39 : decode cX8_add 39 = .ok (.iload_n 3, 1) := by decide +kernel
theorem dX8_add_40 : decode cX8_add 40 = .ok (.iastore, 1) := by decide +kernel
theorem dX8_add_41 : decode cX8_add 41 = .ok (.aload_n 0, 1) := by decide +kernel
theorem dX8_add_42 : decode cX8_add 42 = .ok (.getfield 24, 3) := by decide +kernel
theorem dX8_add_45 : decode cX8_add 45 = .ok (.aload_n 0, 1) := by decide +kernel
theorem dX8_add_46 : decode cX8_add 46 = .ok (.getfield 57, 3) := by decide +kernel
theorem dX8_add_49 : decode cX8_add 49 = .ok (.iload 4, 2) := by decide +kernel
theorem dX8_add_51 : decode cX8_add 51 = .ok (.iastore, 1) := by decide +kernel
theorem dX8_add_52 : decode cX8_add 52 = .ok (.aload_n 0, 1) := by decide +kernel
theorem dX8_add_53 : decode cX8_add 53 = .ok (.getfield 27, 3) := by decide +kernel
theorem dX8_add_56 : decode cX8_add 56 = .ok (.aload_n 0, 1) := by decide +kernel
theorem dX8_add_57 : decode cX8_add 57 = .ok (.getfield 57, 3) := by decide +kernel
theorem dX8_add_60 : decode cX8_add 60 = .ok (.iload 5, 2) := by decide +kernel
theorem dX8_add_62 : decode cX8_add 62 = .ok (.iastore, 1) := by decide +kernel
theorem dX8_add_63 : decode cX8_add 63 = .ok (.aload_n 0, 1) := by decide +kernel
theorem dX8_add_64 : decode cX8_add 64 = .ok (.dup, 1) := by decide +kernel
theorem dX8_add_65 : decode cX8_add 65 = .ok (.getfield 57, 3) := by decide +kernel
theorem dX8_add_68 : decode cX8_add 68 = .ok (.iconst 1, 1) := by decide +kernel
theorem dX8_add_69 : decode cX8_add 69 = .ok (.iadd, 1) := by decide +kernel
theorem dX8_add_70 : decode cX8_add 70 = .ok (.putfield 57, 3) := by decide +kernel
theorem dX8_add_73 : decode cX8_add 73 = .ok (.aload_n 0, 1) := by decide +kernel
theorem dX8_add_74 : decode cX8_add 74 = .ok (.iconst 0, 1) := by decide +kernel
theorem dX8_add_75 : decode cX8_add 75 = .ok (.putfield 53, 3) := by decide +kernel
theorem dX8_add_78 : decode cX8_add 78 = .ok (.aload_n 0, 1) := by decide +kernel
theorem dX8_add_79 : decode cX8_add 79 = .ok (.iconst 0, 1) := by decide +kernel
theorem dX8_add_80 : decode cX8_add 80 = .ok (.putfield 61, 3) := by decide +kernel
theorem dX8_add_83 : decode cX8_add 83 = .ok (.aload_n 0, 1) := by decide +kernel
theorem dX8_add_84 : decode cX8_add 84 = .ok (.getfield 57, 3) := by decide +kernel
theorem dX8_add_87 : decode cX8_add 87 = .ok (.iconst 1, 1) := by decide +kernel
theorem dX8_add_88 : decode cX8_add 88 = .ok (.isub, 1) := by decide +kernel
theorem dX8_add_89 : decode cX8_add 89 = .ok (.ireturn, 1) := by decide +kernel
theorem dX8_has_0 : decode cX8_has 0 = .ok (.iload_n 1, 1) := by decide +kernel
theorem dX8_has_1 : decode cX8_has 1 = .ok (.iconst 0, 1) := by decide +kernel
theorem dX8_has_2 : decode cX8_has 2 = .ok (.aload_n 0, 1) := by decide +kernel
theorem dX8_has_3 : decode cX8_has 3 = .ok (.getfield 57, 3) := by decide +kernel
theorem dX8_has_6 : decode cX8_has 6 = .ok (.iconst 1, 1) := by decide +kernel
theorem dX8_has_7 : decode cX8_has 7 = .ok (.isub, 1) := by decide +kernel
theorem dX8_has_8 : decode cX8_has 8 = .ok (.invokestatic 64, 3) := by decide +kernel
theorem dX8_has_11 : decode cX8_has 11 = .ok (.ireturn, 1) := by decide +kernel
theorem dX8_believes_0 : decode cX8_believes 0 = .ok (.aload_n 0, 1) := by decide +kernel
theorem dX8_believes_1 : decode cX8_believes 1 = .ok (.invokevirtual 68, 3) := by decide +kernel
theorem dX8_believes_4 : decode cX8_believes 4 = .ok (.aload_n 0, 1) := by decide +kernel
theorem dX8_believes_5 : decode cX8_believes 5 = .ok (.getfield 37, 3) := by decide +kernel
theorem dX8_believes_8 : decode cX8_believes 8 = .ok (.iload_n 1, 1) := by decide +kernel
theorem dX8_believes_9 : decode cX8_believes 9 = .ok (.baload, 1) := by decide +kernel
theorem dX8_believes_10 : decode cX8_believes 10 = .ok (.ireturn, 1) := by decide +kernel
theorem dX8_howManyBelieved_0 : decode cX8_howManyBelieved 0 = .ok (.aload_n 0, 1) := by decide +kernel
theorem dX8_howManyBelieved_1 : decode cX8_howManyBelieved 1 = .ok (.invokevirtual 68, 3) := by decide +kernel
theorem dX8_howManyBelieved_4 : decode cX8_howManyBelieved 4 = .ok (.aload_n 0, 1) := by decide +kernel
theorem dX8_howManyBelieved_5 : decode cX8_howManyBelieved 5 = .ok (.getfield 71, 3) := by decide +kernel
theorem dX8_howManyBelieved_8 : decode cX8_howManyBelieved 8 = .ok (.ireturn, 1) := by decide +kernel
theorem dX8_leastSpan_0 : decode cX8_leastSpan 0 = .ok (.aload_n 0, 1) := by decide +kernel
theorem dX8_leastSpan_1 : decode cX8_leastSpan 1 = .ok (.invokevirtual 68, 3) := by decide +kernel
theorem dX8_leastSpan_4 : decode cX8_leastSpan 4 = .ok (.aload_n 0, 1) := by decide +kernel
theorem dX8_leastSpan_5 : decode cX8_leastSpan 5 = .ok (.getfield 33, 3) := by decide +kernel
theorem dX8_leastSpan_8 : decode cX8_leastSpan 8 = .ok (.iload_n 1, 1) := by decide +kernel
theorem dX8_leastSpan_9 : decode cX8_leastSpan 9 = .ok (.iload_n 2, 1) := by decide +kernel
theorem dX8_leastSpan_10 : decode cX8_leastSpan 10 = .ok (.invokevirtual 74, 3) := by decide +kernel
theorem dX8_leastSpan_13 : decode cX8_leastSpan 13 = .ok (.ireturn, 1) := by decide +kernel
theorem dX8_greatestSpan_0 : decode cX8_greatestSpan 0 = .ok (.aload_n 0, 1) := by decide +kernel
theorem dX8_greatestSpan_1 : decode cX8_greatestSpan 1 = .ok (.invokevirtual 68, 3) := by decide +kernel
theorem dX8_greatestSpan_4 : decode cX8_greatestSpan 4 = .ok (.aload_n 0, 1) := by decide +kernel
theorem dX8_greatestSpan_5 : decode cX8_greatestSpan 5 = .ok (.getfield 33, 3) := by decide +kernel
theorem dX8_greatestSpan_8 : decode cX8_greatestSpan 8 = .ok (.iload_n 1, 1) := by decide +kernel
theorem dX8_greatestSpan_9 : decode cX8_greatestSpan 9 = .ok (.iload_n 2, 1) := by decide +kernel
theorem dX8_greatestSpan_10 : decode cX8_greatestSpan 10 = .ok (.invokevirtual 78, 3) := by decide +kernel
theorem dX8_greatestSpan_13 : decode cX8_greatestSpan 13 = .ok (.ireturn, 1) := by decide +kernel
theorem dX8_quarrelSize_0 : decode cX8_quarrelSize 0 = .ok (.aload_n 0, 1) := by decide +kernel
theorem dX8_quarrelSize_1 : decode cX8_quarrelSize 1 = .ok (.invokevirtual 81, 3) := by decide +kernel
theorem dX8_quarrelSize_4 : decode cX8_quarrelSize 4 = .ok (.aload_n 0, 1) := by decide +kernel
theorem dX8_quarrelSize_5 : decode cX8_quarrelSize 5 = .ok (.getfield 84, 3) := by decide +kernel
theorem dX8_quarrelSize_8 : decode cX8_quarrelSize 8 = .ok (.ireturn, 1) := by decide +kernel
theorem dX8_quarrelling_0 : decode cX8_quarrelling 0 = .ok (.aload_n 0, 1) := by decide +kernel
theorem dX8_quarrelling_1 : decode cX8_quarrelling 1 = .ok (.invokevirtual 81, 3) := by decide +kernel
theorem dX8_quarrelling_4 : decode cX8_quarrelling 4 = .ok (.iconst 0, 1) := by decide +kernel
theorem dX8_quarrelling_5 : decode cX8_quarrelling 5 = .ok (.istore_n 2, 1) := by decide +kernel
theorem dX8_quarrelling_6 : decode cX8_quarrelling 6 = .ok (.iconst 0, 1) := by decide +kernel
theorem dX8_quarrelling_7 : decode cX8_quarrelling 7 = .ok (.istore_n 3, 1) := by decide +kernel
theorem dX8_quarrelling_8 : decode cX8_quarrelling 8 = .ok (.iload_n 3, 1) := by decide +kernel
theorem dX8_quarrelling_9 : decode cX8_quarrelling 9 = .ok (.aload_n 0, 1) := by decide +kernel
theorem dX8_quarrelling_10 : decode cX8_quarrelling 10 = .ok (.getfield 57, 3) := by decide +kernel
theorem dX8_quarrelling_13 : decode cX8_quarrelling 13 = .ok (.if_icmp .ge 28, 3) := by decide +kernel
theorem dX8_quarrelling_16 : decode cX8_quarrelling 16 = .ok (.aload_n 0, 1) := by decide +kernel
theorem dX8_quarrelling_17 : decode cX8_quarrelling 17 = .ok (.getfield 44, 3) := by decide +kernel
theorem dX8_quarrelling_20 : decode cX8_quarrelling 20 = .ok (.iload_n 3, 1) := by decide +kernel
theorem dX8_quarrelling_21 : decode cX8_quarrelling 21 = .ok (.baload, 1) := by decide +kernel
theorem dX8_quarrelling_22 : decode cX8_quarrelling 22 = .ok (.ifCond .eq 13, 3) := by decide +kernel
theorem dX8_quarrelling_25 : decode cX8_quarrelling 25 = .ok (.iload_n 2, 1) := by decide +kernel
theorem dX8_quarrelling_26 : decode cX8_quarrelling 26 = .ok (.iload_n 1, 1) := by decide +kernel
theorem dX8_quarrelling_27 : decode cX8_quarrelling 27 = .ok (.if_icmp .ne 5, 3) := by decide +kernel
theorem dX8_quarrelling_30 : decode cX8_quarrelling 30 = .ok (.iload_n 3, 1) := by decide +kernel
theorem dX8_quarrelling_31 : decode cX8_quarrelling 31 = .ok (.ireturn, 1) := by decide +kernel
theorem dX8_quarrelling_32 : decode cX8_quarrelling 32 = .ok (.iinc 2 1, 3) := by decide +kernel
theorem dX8_quarrelling_35 : decode cX8_quarrelling 35 = .ok (.iinc 3 1, 3) := by decide +kernel
theorem dX8_quarrelling_38 : decode cX8_quarrelling 38 = .ok (.goto (-30), 3) := by decide +kernel
theorem dX8_quarrelling_41 : decode cX8_quarrelling 41 = .ok (.iconst (-1), 1) := by decide +kernel
theorem dX8_quarrelling_42 : decode cX8_quarrelling 42 = .ok (.ireturn, 1) := by decide +kernel
theorem dX8_settleBelief_0 : decode cX8_settleBelief 0 = .ok (.aload_n 0, 1) := by decide +kernel
theorem dX8_settleBelief_1 : decode cX8_settleBelief 1 = .ok (.getfield 53, 3) := by decide +kernel
theorem dX8_settleBelief_4 : decode cX8_settleBelief 4 = .ok (.ifCond .eq 4, 3) := by decide +kernel
theorem dX8_settleBelief_7 : decode cX8_settleBelief 7 = .ok (.return_, 1) := by decide +kernel
theorem dX8_settleBelief_8 : decode cX8_settleBelief 8 = .ok (.aload_n 0, 1) := by decide +kernel
theorem dX8_settleBelief_9 : decode cX8_settleBelief 9 = .ok (.getfield 33, 3) := by decide +kernel
theorem dX8_settleBelief_12 : decode cX8_settleBelief 12 = .ok (.invokevirtual 87, 3) := by decide +kernel
theorem dX8_settleBelief_15 : decode cX8_settleBelief 15 = .ok (.aload_n 0, 1) := by decide +kernel
theorem dX8_settleBelief_16 : decode cX8_settleBelief 16 = .ok (.iconst 0, 1) := by decide +kernel
theorem dX8_settleBelief_17 : decode cX8_settleBelief 17 = .ok (.putfield 71, 3) := by decide +kernel
theorem dX8_settleBelief_20 : decode cX8_settleBelief 20 = .ok (.bipush 9, 2) := by decide +kernel
theorem dX8_settleBelief_22 : decode cX8_settleBelief 22 = .ok (.istore_n 1, 1) := by decide +kernel
theorem dX8_settleBelief_23 : decode cX8_settleBelief 23 = .ok (.iload_n 1, 1) := by decide +kernel
theorem dX8_settleBelief_24 : decode cX8_settleBelief 24 = .ok (.ifCond .lt 78, 3) := by decide +kernel
theorem dX8_settleBelief_27 : decode cX8_settleBelief 27 = .ok (.iconst 0, 1) := by decide +kernel
theorem dX8_settleBelief_28 : decode cX8_settleBelief 28 = .ok (.istore_n 2, 1) := by decide +kernel
theorem dX8_settleBelief_29 : decode cX8_settleBelief 29 = .ok (.iload_n 2, 1) := by decide +kernel
theorem dX8_settleBelief_30 : decode cX8_settleBelief 30 = .ok (.aload_n 0, 1) := by decide +kernel
theorem dX8_settleBelief_31 : decode cX8_settleBelief 31 = .ok (.getfield 57, 3) := by decide +kernel
theorem dX8_settleBelief_34 : decode cX8_settleBelief 34 = .ok (.if_icmp .ge 62, 3) := by decide +kernel
theorem dX8_settleBelief_37 : decode cX8_settleBelief 37 = .ok (.aload_n 0, 1) := by decide +kernel
theorem dX8_settleBelief_38 : decode cX8_settleBelief 38 = .ok (.getfield 9, 3) := by decide +kernel
theorem dX8_settleBelief_41 : decode cX8_settleBelief 41 = .ok (.aload_n 0, 1) := by decide +kernel
theorem dX8_settleBelief_42 : decode cX8_settleBelief 42 = .ok (.getfield 15, 3) := by decide +kernel
theorem dX8_settleBelief_45 : decode cX8_settleBelief 45 = .ok (.iload_n 2, 1) := by decide +kernel
theorem dX8_settleBelief_46 : decode cX8_settleBelief 46 = .ok (.iaload, 1) := by decide +kernel
theorem dX8_settleBelief_47 : decode cX8_settleBelief 47 = .ok (.iaload, 1) := by decide +kernel
theorem dX8_settleBelief_48 : decode cX8_settleBelief 48 = .ok (.iload_n 1, 1) := by decide +kernel
theorem dX8_settleBelief_49 : decode cX8_settleBelief 49 = .ok (.if_icmp .ne 41, 3) := by decide +kernel
theorem dX8_settleBelief_52 : decode cX8_settleBelief 52 = .ok (.aload_n 0, 1) := by decide +kernel
theorem dX8_settleBelief_53 : decode cX8_settleBelief 53 = .ok (.getfield 37, 3) := by decide +kernel
theorem dX8_settleBelief_56 : decode cX8_settleBelief 56 = .ok (.iload_n 2, 1) := by decide +kernel
theorem dX8_settleBelief_57 : decode cX8_settleBelief 57 = .ok (.aload_n 0, 1) := by decide +kernel
theorem dX8_settleBelief_58 : decode cX8_settleBelief 58 = .ok (.aload_n 0, 1) := by decide +kernel
theorem dX8_settleBelief_59 : decode cX8_settleBelief 59 = .ok (.getfield 33, 3) := by decide +kernel
theorem dX8_settleBelief_62 : decode cX8_settleBelief 62 = .ok (.iload_n 2, 1) := by decide +kernel
theorem dX8_settleBelief_63 : decode cX8_settleBelief 63 = .ok (.invokevirtual 90, 3) := by decide +kernel
theorem dX8_settleBelief_66 : decode cX8_settleBelief 66 = .ok (.bastore, 1) := by decide +kernel
theorem dX8_settleBelief_67 : decode cX8_settleBelief 67 = .ok (.aload_n 0, 1) := by decide +kernel
theorem dX8_settleBelief_68 : decode cX8_settleBelief 68 = .ok (.dup, 1) := by decide +kernel
theorem dX8_settleBelief_69 : decode cX8_settleBelief 69 = .ok (.getfield 71, 3) := by decide +kernel
theorem dX8_settleBelief_72 : decode cX8_settleBelief 72 = .ok (.aload_n 0, 1) := by decide +kernel
theorem dX8_settleBelief_73 : decode cX8_settleBelief 73 = .ok (.getfield 37, 3) := by decide +kernel
theorem dX8_settleBelief_76 : decode cX8_settleBelief 76 = .ok (.iload_n 2, 1) := by decide +kernel
theorem dX8_settleBelief_77 : decode cX8_settleBelief 77 = .ok (.baload, 1) := by decide +kernel
theorem dX8_settleBelief_78 : decode cX8_settleBelief 78 = .ok (.ifCond .eq 7, 3) := by decide +kernel
theorem dX8_settleBelief_81 : decode cX8_settleBelief 81 = .ok (.iconst 1, 1) := by decide +kernel
theorem dX8_settleBelief_82 : decode cX8_settleBelief 82 = .ok (.goto 4, 3) := by decide +kernel
theorem dX8_settleBelief_85 : decode cX8_settleBelief 85 = .ok (.iconst 0, 1) := by decide +kernel
theorem dX8_settleBelief_86 : decode cX8_settleBelief 86 = .ok (.iadd, 1) := by decide +kernel
theorem dX8_settleBelief_87 : decode cX8_settleBelief 87 = .ok (.putfield 71, 3) := by decide +kernel
theorem dX8_settleBelief_90 : decode cX8_settleBelief 90 = .ok (.iinc 2 1, 3) := by decide +kernel
theorem dX8_settleBelief_93 : decode cX8_settleBelief 93 = .ok (.goto (-64), 3) := by decide +kernel
theorem dX8_settleBelief_96 : decode cX8_settleBelief 96 = .ok (.iinc 1 (-1), 3) := by decide +kernel
theorem dX8_settleBelief_99 : decode cX8_settleBelief 99 = .ok (.goto (-76), 3) := by decide +kernel
theorem dX8_settleBelief_102 : decode cX8_settleBelief 102 = .ok (.aload_n 0, 1) := by decide +kernel
theorem dX8_settleBelief_103 : decode cX8_settleBelief 103 = .ok (.iconst 1, 1) := by decide +kernel
theorem dX8_settleBelief_104 : decode cX8_settleBelief 104 = .ok (.putfield 53, 3) := by decide +kernel
theorem dX8_settleBelief_107 : decode cX8_settleBelief 107 = .ok (.return_, 1) := by decide +kernel
theorem dX8_settleQuarrel_0 : decode cX8_settleQuarrel 0 = .ok (.aload_n 0, 1) := by decide +kernel
theorem dX8_settleQuarrel_1 : decode cX8_settleQuarrel 1 = .ok (.getfield 61, 3) := by decide +kernel
theorem dX8_settleQuarrel_4 : decode cX8_settleQuarrel 4 = .ok (.ifCond .eq 4, 3) := by decide +kernel
theorem dX8_settleQuarrel_7 : decode cX8_settleQuarrel 7 = .ok (.return_, 1) := by decide +kernel
theorem dX8_settleQuarrel_8 : decode cX8_settleQuarrel 8 = .ok (.iconst 0, 1) := by decide +kernel
theorem dX8_settleQuarrel_9 : decode cX8_settleQuarrel 9 = .ok (.istore_n 1, 1) := by decide +kernel
theorem dX8_settleQuarrel_10 : decode cX8_settleQuarrel 10 = .ok (.iload_n 1, 1) := by decide +kernel
theorem dX8_settleQuarrel_11 : decode cX8_settleQuarrel 11 = .ok (.aload_n 0, 1) := by decide +kernel
theorem dX8_settleQuarrel_12 : decode cX8_settleQuarrel 12 = .ok (.getfield 57, 3) := by decide +kernel
theorem dX8_settleQuarrel_15 : decode cX8_settleQuarrel 15 = .ok (.if_icmp .ge 16, 3) := by decide +kernel
theorem dX8_settleQuarrel_18 : decode cX8_settleQuarrel 18 = .ok (.aload_n 0, 1) := by decide +kernel
theorem dX8_settleQuarrel_19 : decode cX8_settleQuarrel 19 = .ok (.getfield 44, 3) := by decide +kernel
theorem dX8_settleQuarrel_22 : decode cX8_settleQuarrel 22 = .ok (.iload_n 1, 1) := by decide +kernel
theorem dX8_settleQuarrel_23 : decode cX8_settleQuarrel 23 = .ok (.iconst 0, 1) := by decide +kernel
theorem dX8_settleQuarrel_24 : decode cX8_settleQuarrel 24 = .ok (.bastore, 1) := by decide +kernel
theorem dX8_settleQuarrel_25 : decode cX8_settleQuarrel 25 = .ok (.iinc 1 1, 3) := by decide +kernel
theorem dX8_settleQuarrel_28 : decode cX8_settleQuarrel 28 = .ok (.goto (-18), 3) := by decide +kernel
theorem dX8_settleQuarrel_31 : decode cX8_settleQuarrel 31 = .ok (.aload_n 0, 1) := by decide +kernel
theorem dX8_settleQuarrel_32 : decode cX8_settleQuarrel 32 = .ok (.iconst 0, 1) := by decide +kernel
theorem dX8_settleQuarrel_33 : decode cX8_settleQuarrel 33 = .ok (.putfield 84, 3) := by decide +kernel
theorem dX8_settleQuarrel_36 : decode cX8_settleQuarrel 36 = .ok (.aload_n 0, 1) := by decide +kernel
theorem dX8_settleQuarrel_37 : decode cX8_settleQuarrel 37 = .ok (.aload_n 0, 1) := by decide +kernel
theorem dX8_settleQuarrel_38 : decode cX8_settleQuarrel 38 = .ok (.getfield 57, 3) := by decide +kernel
theorem dX8_settleQuarrel_41 : decode cX8_settleQuarrel 41 = .ok (.invokevirtual 94, 3) := by decide +kernel
theorem dX8_settleQuarrel_44 : decode cX8_settleQuarrel 44 = .ok (.istore_n 1, 1) := by decide +kernel
theorem dX8_settleQuarrel_45 : decode cX8_settleQuarrel 45 = .ok (.iconst 0, 1) := by decide +kernel
theorem dX8_settleQuarrel_46 : decode cX8_settleQuarrel 46 = .ok (.istore_n 2, 1) := by decide +kernel
theorem dX8_settleQuarrel_47 : decode cX8_settleQuarrel 47 = .ok (.iload_n 2, 1) := by decide +kernel
theorem dX8_settleQuarrel_48 : decode cX8_settleQuarrel 48 = .ok (.bipush 40, 2) := by decide +kernel
theorem dX8_settleQuarrel_50 : decode cX8_settleQuarrel 50 = .ok (.if_icmp .ge 36, 3) := by decide +kernel
theorem dX8_settleQuarrel_53 : decode cX8_settleQuarrel 53 = .ok (.iload_n 1, 1) := by decide +kernel
theorem dX8_settleQuarrel_54 : decode cX8_settleQuarrel 54 = .ok (.ifCond .lt 32, 3) := by decide +kernel
theorem dX8_settleQuarrel_57 : decode cX8_settleQuarrel 57 = .ok (.aload_n 0, 1) := by decide +kernel
theorem dX8_settleQuarrel_58 : decode cX8_settleQuarrel 58 = .ok (.getfield 44, 3) := by decide +kernel
theorem dX8_settleQuarrel_61 : decode cX8_settleQuarrel 61 = .ok (.iload_n 1, 1) := by decide +kernel
theorem dX8_settleQuarrel_62 : decode cX8_settleQuarrel 62 = .ok (.iconst 1, 1) := by decide +kernel
theorem dX8_settleQuarrel_63 : decode cX8_settleQuarrel 63 = .ok (.bastore, 1) := by decide +kernel
theorem dX8_settleQuarrel_64 : decode cX8_settleQuarrel 64 = .ok (.aload_n 0, 1) := by decide +kernel
theorem dX8_settleQuarrel_65 : decode cX8_settleQuarrel 65 = .ok (.dup, 1) := by decide +kernel
theorem dX8_settleQuarrel_66 : decode cX8_settleQuarrel 66 = .ok (.getfield 84, 3) := by decide +kernel
theorem dX8_settleQuarrel_69 : decode cX8_settleQuarrel 69 = .ok (.iconst 1, 1) := by decide +kernel
theorem dX8_settleQuarrel_70 : decode cX8_settleQuarrel 70 = .ok (.iadd, 1) := by decide +kernel
theorem dX8_settleQuarrel_71 : decode cX8_settleQuarrel 71 = .ok (.putfield 84, 3) := by decide +kernel
theorem dX8_settleQuarrel_74 : decode cX8_settleQuarrel 74 = .ok (.aload_n 0, 1) := by decide +kernel
theorem dX8_settleQuarrel_75 : decode cX8_settleQuarrel 75 = .ok (.iload_n 1, 1) := by decide +kernel
theorem dX8_settleQuarrel_76 : decode cX8_settleQuarrel 76 = .ok (.invokevirtual 94, 3) := by decide +kernel
theorem dX8_settleQuarrel_79 : decode cX8_settleQuarrel 79 = .ok (.istore_n 1, 1) := by decide +kernel
theorem dX8_settleQuarrel_80 : decode cX8_settleQuarrel 80 = .ok (.iinc 2 1, 3) := by decide +kernel
theorem dX8_settleQuarrel_83 : decode cX8_settleQuarrel 83 = .ok (.goto (-36), 3) := by decide +kernel
theorem dX8_settleQuarrel_86 : decode cX8_settleQuarrel 86 = .ok (.aload_n 0, 1) := by decide +kernel
theorem dX8_settleQuarrel_87 : decode cX8_settleQuarrel 87 = .ok (.iconst 1, 1) := by decide +kernel
theorem dX8_settleQuarrel_88 : decode cX8_settleQuarrel 88 = .ok (.putfield 61, 3) := by decide +kernel
theorem dX8_settleQuarrel_91 : decode cX8_settleQuarrel 91 = .ok (.return_, 1) := by decide +kernel
theorem dX8_firstToBreak_0 : decode cX8_firstToBreak 0 = .ok (.aload_n 0, 1) := by decide +kernel
theorem dX8_firstToBreak_1 : decode cX8_firstToBreak 1 = .ok (.getfield 41, 3) := by decide +kernel
theorem dX8_firstToBreak_4 : decode cX8_firstToBreak 4 = .ok (.invokevirtual 87, 3) := by decide +kernel
theorem dX8_firstToBreak_7 : decode cX8_firstToBreak 7 = .ok (.iload_n 1, 1) := by decide +kernel
theorem dX8_firstToBreak_8 : decode cX8_firstToBreak 8 = .ok (.istore_n 2, 1) := by decide +kernel
theorem dX8_firstToBreak_9 : decode cX8_firstToBreak 9 = .ok (.iload_n 2, 1) := by decide +kernel
theorem dX8_firstToBreak_10 : decode cX8_firstToBreak 10 = .ok (.aload_n 0, 1) := by decide +kernel
theorem dX8_firstToBreak_11 : decode cX8_firstToBreak 11 = .ok (.getfield 57, 3) := by decide +kernel
theorem dX8_firstToBreak_14 : decode cX8_firstToBreak 14 = .ok (.if_icmp .ge 32, 3) := by decide +kernel
theorem dX8_firstToBreak_17 : decode cX8_firstToBreak 17 = .ok (.aload_n 0, 1) := by decide +kernel
theorem dX8_firstToBreak_18 : decode cX8_firstToBreak 18 = .ok (.getfield 44, 3) := by decide +kernel
theorem dX8_firstToBreak_21 : decode cX8_firstToBreak 21 = .ok (.iload_n 2, 1) := by decide +kernel
theorem dX8_firstToBreak_22 : decode cX8_firstToBreak 22 = .ok (.baload, 1) := by decide +kernel
theorem dX8_firstToBreak_23 : decode cX8_firstToBreak 23 = .ok (.ifCond .eq 17, 3) := by decide +kernel
theorem dX8_firstToBreak_26 : decode cX8_firstToBreak 26 = .ok (.aload_n 0, 1) := by decide +kernel
theorem dX8_firstToBreak_27 : decode cX8_firstToBreak 27 = .ok (.aload_n 0, 1) := by decide +kernel
theorem dX8_firstToBreak_28 : decode cX8_firstToBreak 28 = .ok (.getfield 41, 3) := by decide +kernel
theorem dX8_firstToBreak_31 : decode cX8_firstToBreak 31 = .ok (.iload_n 2, 1) := by decide +kernel
theorem dX8_firstToBreak_32 : decode cX8_firstToBreak 32 = .ok (.invokevirtual 90, 3) := by decide +kernel
theorem dX8_firstToBreak_35 : decode cX8_firstToBreak 35 = .ok (.ifCond .ne 5, 3) := by decide +kernel
theorem dX8_firstToBreak_38 : decode cX8_firstToBreak 38 = .ok (.iconst (-1), 1) := by decide +kernel
theorem dX8_firstToBreak_39 : decode cX8_firstToBreak 39 = .ok (.ireturn, 1) := by decide +kernel
theorem dX8_firstToBreak_40 : decode cX8_firstToBreak 40 = .ok (.iinc 2 1, 3) := by decide +kernel
theorem dX8_firstToBreak_43 : decode cX8_firstToBreak 43 = .ok (.goto (-34), 3) := by decide +kernel
theorem dX8_firstToBreak_46 : decode cX8_firstToBreak 46 = .ok (.iconst 0, 1) := by decide +kernel
theorem dX8_firstToBreak_47 : decode cX8_firstToBreak 47 = .ok (.istore_n 2, 1) := by decide +kernel
theorem dX8_firstToBreak_48 : decode cX8_firstToBreak 48 = .ok (.iload_n 2, 1) := by decide +kernel
theorem dX8_firstToBreak_49 : decode cX8_firstToBreak 49 = .ok (.iload_n 1, 1) := by decide +kernel
theorem dX8_firstToBreak_50 : decode cX8_firstToBreak 50 = .ok (.if_icmp .ge 23, 3) := by decide +kernel
theorem dX8_firstToBreak_53 : decode cX8_firstToBreak 53 = .ok (.aload_n 0, 1) := by decide +kernel
theorem dX8_firstToBreak_54 : decode cX8_firstToBreak 54 = .ok (.aload_n 0, 1) := by decide +kernel
theorem dX8_firstToBreak_55 : decode cX8_firstToBreak 55 = .ok (.getfield 41, 3) := by decide +kernel
theorem dX8_firstToBreak_58 : decode cX8_firstToBreak 58 = .ok (.iload_n 2, 1) := by decide +kernel
theorem dX8_firstToBreak_59 : decode cX8_firstToBreak 59 = .ok (.invokevirtual 90, 3) := by decide +kernel
theorem dX8_firstToBreak_62 : decode cX8_firstToBreak 62 = .ok (.ifCond .ne 5, 3) := by decide +kernel
theorem dX8_firstToBreak_65 : decode cX8_firstToBreak 65 = .ok (.iload_n 2, 1) := by decide +kernel
theorem dX8_firstToBreak_66 : decode cX8_firstToBreak 66 = .ok (.ireturn, 1) := by decide +kernel
theorem dX8_firstToBreak_67 : decode cX8_firstToBreak 67 = .ok (.iinc 2 1, 3) := by decide +kernel
theorem dX8_firstToBreak_70 : decode cX8_firstToBreak 70 = .ok (.goto (-22), 3) := by decide +kernel
theorem dX8_firstToBreak_73 : decode cX8_firstToBreak 73 = .ok (.iconst (-1), 1) := by decide +kernel
theorem dX8_firstToBreak_74 : decode cX8_firstToBreak 74 = .ok (.ireturn, 1) := by decide +kernel
theorem dX8_takes_0 : decode cX8_takes 0 = .ok (.aload_n 1, 1) := by decide +kernel
theorem dX8_takes_1 : decode cX8_takes 1 = .ok (.aload_n 0, 1) := by decide +kernel
theorem dX8_takes_2 : decode cX8_takes 2 = .ok (.getfield 18, 3) := by decide +kernel
theorem dX8_takes_5 : decode cX8_takes 5 = .ok (.iload_n 2, 1) := by decide +kernel
theorem dX8_takes_6 : decode cX8_takes 6 = .ok (.iaload, 1) := by decide +kernel
theorem dX8_takes_7 : decode cX8_takes 7 = .ok (.aload_n 0, 1) := by decide +kernel
theorem dX8_takes_8 : decode cX8_takes 8 = .ok (.getfield 21, 3) := by decide +kernel
theorem dX8_takes_11 : decode cX8_takes 11 = .ok (.iload_n 2, 1) := by decide +kernel
theorem dX8_takes_12 : decode cX8_takes 12 = .ok (.iaload, 1) := by decide +kernel
theorem dX8_takes_13 : decode cX8_takes 13 = .ok (.aload_n 0, 1) := by decide +kernel
theorem dX8_takes_14 : decode cX8_takes 14 = .ok (.getfield 24, 3) := by decide +kernel
theorem dX8_takes_17 : decode cX8_takes 17 = .ok (.iload_n 2, 1) := by decide +kernel
theorem dX8_takes_18 : decode cX8_takes 18 = .ok (.iaload, 1) := by decide +kernel
theorem dX8_takes_19 : decode cX8_takes 19 = .ok (.aload_n 0, 1) := by decide +kernel
theorem dX8_takes_20 : decode cX8_takes 20 = .ok (.getfield 27, 3) := by decide +kernel
theorem dX8_takes_23 : decode cX8_takes 23 = .ok (.iload_n 2, 1) := by decide +kernel
theorem dX8_takes_24 : decode cX8_takes 24 = .ok (.iaload, 1) := by decide +kernel
theorem dX8_takes_25 : decode cX8_takes 25 = .ok (.invokevirtual 98, 3) := by decide +kernel
theorem dX8_takes_28 : decode cX8_takes 28 = .ok (.ireturn, 1) := by decide +kernel
theorem dX9_init_0 : decode cX9_init 0 = .ok (.aload_n 0, 1) := by decide +kernel
theorem dX9_init_1 : decode cX9_init 1 = .ok (.invokespecial 3, 3) := by decide +kernel
theorem dX9_init_4 : decode cX9_init 4 = .ok (.aload_n 0, 1) := by decide +kernel
theorem dX9_init_5 : decode cX9_init 5 = .ok (.sipush 300, 3) := by decide +kernel
theorem dX9_init_8 : decode cX9_init 8 = .ok (.newarray .byte, 2) := by decide +kernel
theorem dX9_init_10 : decode cX9_init 10 = .ok (.putfield 9, 3) := by decide +kernel
theorem dX9_init_13 : decode cX9_init 13 = .ok (.return_, 1) := by decide +kernel
theorem dX9_append_0 : decode cX9_append 0 = .ok (.bipush 24, 2) := by decide +kernel
theorem dX9_append_2 : decode cX9_append 2 = .ok (.istore_n 2, 1) := by decide +kernel
theorem dX9_append_3 : decode cX9_append 3 = .ok (.iload_n 2, 1) := by decide +kernel
theorem dX9_append_4 : decode cX9_append 4 = .ok (.ifCond .lt 42, 3) := by decide +kernel
theorem dX9_append_7 : decode cX9_append 7 = .ok (.aload_n 0, 1) := by decide +kernel
theorem dX9_append_8 : decode cX9_append 8 = .ok (.getfield 15, 3) := by decide +kernel
theorem dX9_append_11 : decode cX9_append 11 = .ok (.sipush 300, 3) := by decide +kernel
theorem dX9_append_14 : decode cX9_append 14 = .ok (.if_icmp .ge 32, 3) := by decide +kernel
theorem dX9_append_17 : decode cX9_append 17 = .ok (.aload_n 0, 1) := by decide +kernel
theorem dX9_append_18 : decode cX9_append 18 = .ok (.getfield 9, 3) := by decide +kernel
theorem dX9_append_21 : decode cX9_append 21 = .ok (.aload_n 0, 1) := by decide +kernel
theorem dX9_append_22 : decode cX9_append 22 = .ok (.getfield 15, 3) := by decide +kernel
theorem dX9_append_25 : decode cX9_append 25 = .ok (.iload_n 1, 1) := by decide +kernel
theorem dX9_append_26 : decode cX9_append 26 = .ok (.iload_n 2, 1) := by decide +kernel
theorem dX9_append_27 : decode cX9_append 27 = .ok (.iushr, 1) := by decide +kernel
theorem dX9_append_28 : decode cX9_append 28 = .ok (.i2b, 1) := by decide +kernel
theorem dX9_append_29 : decode cX9_append 29 = .ok (.bastore, 1) := by decide +kernel
theorem dX9_append_30 : decode cX9_append 30 = .ok (.aload_n 0, 1) := by decide +kernel
theorem dX9_append_31 : decode cX9_append 31 = .ok (.dup, 1) := by decide +kernel
theorem dX9_append_32 : decode cX9_append 32 = .ok (.getfield 15, 3) := by decide +kernel
theorem dX9_append_35 : decode cX9_append 35 = .ok (.iconst 1, 1) := by decide +kernel
theorem dX9_append_36 : decode cX9_append 36 = .ok (.iadd, 1) := by decide +kernel
theorem dX9_append_37 : decode cX9_append 37 = .ok (.putfield 15, 3) := by decide +kernel
theorem dX9_append_40 : decode cX9_append 40 = .ok (.iinc 2 (-8), 3) := by decide +kernel
theorem dX9_append_43 : decode cX9_append 43 = .ok (.goto (-40), 3) := by decide +kernel
theorem dX9_append_46 : decode cX9_append 46 = .ok (.return_, 1) := by decide +kernel
theorem dX9_readInto_0 : decode cX9_readInto 0 = .ok (.aload_n 1, 1) := by decide +kernel
theorem dX9_readInto_1 : decode cX9_readInto 1 = .ok (.invokevirtual 19, 3) := by decide +kernel
theorem dX9_readInto_4 : decode cX9_readInto 4 = .ok (.aload_n 0, 1) := by decide +kernel
theorem dX9_readInto_5 : decode cX9_readInto 5 = .ok (.iconst 0, 1) := by decide +kernel
theorem dX9_readInto_6 : decode cX9_readInto 6 = .ok (.putfield 24, 3) := by decide +kernel
theorem dX9_readInto_9 : decode cX9_readInto 9 = .ok (.aload_n 0, 1) := by decide +kernel
theorem dX9_readInto_10 : decode cX9_readInto 10 = .ok (.iconst 0, 1) := by decide +kernel
theorem dX9_readInto_11 : decode cX9_readInto 11 = .ok (.putfield 27, 3) := by decide +kernel
theorem dX9_readInto_14 : decode cX9_readInto 14 = .ok (.aload_n 0, 1) := by decide +kernel
theorem dX9_readInto_15 : decode cX9_readInto 15 = .ok (.iconst 0, 1) := by decide +kernel
theorem dX9_readInto_16 : decode cX9_readInto 16 = .ok (.putfield 30, 3) := by decide +kernel
theorem dX9_readInto_19 : decode cX9_readInto 19 = .ok (.aload_n 0, 1) := by decide +kernel
theorem dX9_readInto_20 : decode cX9_readInto 20 = .ok (.invokevirtual 33, 3) := by decide +kernel
theorem dX9_readInto_23 : decode cX9_readInto 23 = .ok (.iconst 0, 1) := by decide +kernel
theorem dX9_readInto_24 : decode cX9_readInto 24 = .ok (.istore_n 2, 1) := by decide +kernel
theorem dX9_readInto_25 : decode cX9_readInto 25 = .ok (.iload_n 2, 1) := by decide +kernel
theorem dX9_readInto_26 : decode cX9_readInto 26 = .ok (.sipush 300, 3) := by decide +kernel
theorem dX9_readInto_29 : decode cX9_readInto 29 = .ok (.if_icmp .ge 36, 3) := by decide +kernel
theorem dX9_readInto_32 : decode cX9_readInto 32 = .ok (.aload_n 0, 1) := by decide +kernel
theorem dX9_readInto_33 : decode cX9_readInto 33 = .ok (.getfield 24, 3) := by decide +kernel
theorem dX9_readInto_36 : decode cX9_readInto 36 = .ok (.aload_n 0, 1) := by decide +kernel
theorem dX9_readInto_37 : decode cX9_readInto 37 = .ok (.getfield 15, 3) := by decide +kernel
theorem dX9_readInto_40 : decode cX9_readInto 40 = .ok (.if_icmp .ge 25, 3) := by decide +kernel
theorem dX9_readInto_43 : decode cX9_readInto 43 = .ok (.aload_n 0, 1) := by decide +kernel
theorem dX9_readInto_44 : decode cX9_readInto 44 = .ok (.getfield 30, 3) := by decide +kernel
theorem dX9_readInto_47 : decode cX9_readInto 47 = .ok (.ifCond .ne 18, 3) := by decide +kernel
theorem dX9_readInto_50 : decode cX9_readInto 50 = .ok (.aload_n 0, 1) := by decide +kernel
theorem dX9_readInto_51 : decode cX9_readInto 51 = .ok (.aload_n 1, 1) := by decide +kernel
theorem dX9_readInto_52 : decode cX9_readInto 52 = .ok (.invokevirtual 36, 3) := by decide +kernel
theorem dX9_readInto_55 : decode cX9_readInto 55 = .ok (.aload_n 0, 1) := by decide +kernel
theorem dX9_readInto_56 : decode cX9_readInto 56 = .ok (.invokevirtual 33, 3) := by decide +kernel
theorem dX9_readInto_59 : decode cX9_readInto 59 = .ok (.iinc 2 1, 3) := by decide +kernel
theorem dX9_readInto_62 : decode cX9_readInto 62 = .ok (.goto (-37), 3) := by decide +kernel
theorem dX9_readInto_65 : decode cX9_readInto 65 = .ok (.aload_n 0, 1) := by decide +kernel
theorem dX9_readInto_66 : decode cX9_readInto 66 = .ok (.getfield 27, 3) := by decide +kernel
theorem dX9_readInto_69 : decode cX9_readInto 69 = .ok (.iconst 4, 1) := by decide +kernel
theorem dX9_readInto_70 : decode cX9_readInto 70 = .ok (.iand, 1) := by decide +kernel
theorem dX9_readInto_71 : decode cX9_readInto 71 = .ok (.ifCond .ne 12, 3) := by decide +kernel
theorem dX9_readInto_74 : decode cX9_readInto 74 = .ok (.aload_n 0, 1) := by decide +kernel
theorem dX9_readInto_75 : decode cX9_readInto 75 = .ok (.iconst 4, 1) := by decide +kernel
theorem dX9_readInto_76 : decode cX9_readInto 76 = .ok (.aload_n 0, 1) := by decide +kernel
theorem dX9_readInto_77 : decode cX9_readInto 77 = .ok (.getfield 15, 3) := by decide +kernel
theorem dX9_readInto_80 : decode cX9_readInto 80 = .ok (.invokevirtual 40, 3) := by decide +kernel
theorem dX9_readInto_83 : decode cX9_readInto 83 = .ok (.aload_n 0, 1) := by decide +kernel
theorem dX9_readInto_84 : decode cX9_readInto 84 = .ok (.getfield 30, 3) := by decide +kernel
theorem dX9_readInto_87 : decode cX9_readInto 87 = .ok (.ireturn, 1) := by decide +kernel
theorem dX9_readClause_0 : decode cX9_readClause 0 = .ok (.aload_n 0, 1) := by decide +kernel
theorem dX9_readClause_1 : decode cX9_readClause 1 = .ok (.ldc 44, 2) := by decide +kernel
theorem dX9_readClause_3 : decode cX9_readClause 3 = .ok (.invokevirtual 46, 3) := by decide +kernel
theorem dX9_readClause_6 : decode cX9_readClause 6 = .ok (.istore_n 2, 1) := by decide +kernel
theorem dX9_readClause_7 : decode cX9_readClause 7 = .ok (.iload_n 2, 1) := by decide +kernel
theorem dX9_readClause_8 : decode cX9_readClause 8 = .ok (.ifCond .eq 8, 3) := by decide +kernel
theorem dX9_readClause_11 : decode cX9_readClause 11 = .ok (.aload_n 0, 1) := by decide +kernel
theorem dX9_readClause_12 : decode cX9_readClause 12 = .ok (.iload_n 2, 1) := by decide +kernel
theorem dX9_readClause_13 : decode cX9_readClause 13 = .ok (.invokevirtual 50, 3) := by decide +kernel
theorem dX9_readClause_16 : decode cX9_readClause 16 = .ok (.iload_n 2, 1) := by decide +kernel
theorem dX9_readClause_17 : decode cX9_readClause 17 = .ok (.tableswitch 133 0 5 #[39, 47, 61, 74, 88, 101], 39) := by decide +kernel
theorem dX9_readClause_56 : decode cX9_readClause 56 = .ok (.aload_n 0, 1) := by decide +kernel
theorem dX9_readClause_57 : decode cX9_readClause 57 = .ok (.aload_n 1, 1) := by decide +kernel
theorem dX9_readClause_58 : decode cX9_readClause 58 = .ok (.invokevirtual 54, 3) := by decide +kernel
theorem dX9_readClause_61 : decode cX9_readClause 61 = .ok (.goto 89, 3) := by decide +kernel
theorem dX9_readClause_64 : decode cX9_readClause 64 = .ok (.aload_n 1, 1) := by decide +kernel
theorem dX9_readClause_65 : decode cX9_readClause 65 = .ok (.aload_n 0, 1) := by decide +kernel
theorem dX9_readClause_66 : decode cX9_readClause 66 = .ok (.sipush 9999, 3) := by decide +kernel
theorem dX9_readClause_69 : decode cX9_readClause 69 = .ok (.invokevirtual 57, 3) := by decide +kernel
theorem dX9_readClause_72 : decode cX9_readClause 72 = .ok (.putfield 61, 3) := by decide +kernel
theorem dX9_readClause_75 : decode cX9_readClause 75 = .ok (.goto 75, 3) := by decide +kernel
theorem dX9_readClause_78 : decode cX9_readClause 78 = .ok (.aload_n 1, 1) := by decide +kernel
theorem dX9_readClause_79 : decode cX9_readClause 79 = .ok (.aload_n 0, 1) := by decide +kernel
theorem dX9_readClause_80 : decode cX9_readClause 80 = .ok (.ldc 64, 2) := by decide +kernel
theorem dX9_readClause_82 : decode cX9_readClause 82 = .ok (.invokevirtual 46, 3) := by decide +kernel
theorem dX9_readClause_85 : decode cX9_readClause 85 = .ok (.putfield 66, 3) := by decide +kernel
theorem dX9_readClause_88 : decode cX9_readClause 88 = .ok (.goto 62, 3) := by decide +kernel
theorem dX9_readClause_91 : decode cX9_readClause 91 = .ok (.aload_n 1, 1) := by decide +kernel
theorem dX9_readClause_92 : decode cX9_readClause 92 = .ok (.aload_n 0, 1) := by decide +kernel
theorem dX9_readClause_93 : decode cX9_readClause 93 = .ok (.sipush 1000, 3) := by decide +kernel
theorem dX9_readClause_96 : decode cX9_readClause 96 = .ok (.invokevirtual 57, 3) := by decide +kernel
theorem dX9_readClause_99 : decode cX9_readClause 99 = .ok (.putfield 69, 3) := by decide +kernel
theorem dX9_readClause_102 : decode cX9_readClause 102 = .ok (.goto 48, 3) := by decide +kernel
theorem dX9_readClause_105 : decode cX9_readClause 105 = .ok (.aload_n 1, 1) := by decide +kernel
theorem dX9_readClause_106 : decode cX9_readClause 106 = .ok (.aload_n 0, 1) := by decide +kernel
theorem dX9_readClause_107 : decode cX9_readClause 107 = .ok (.bipush 100, 2) := by decide +kernel
theorem dX9_readClause_109 : decode cX9_readClause 109 = .ok (.invokevirtual 57, 3) := by decide +kernel
theorem dX9_readClause_112 : decode cX9_readClause 112 = .ok (.putfield 72, 3) := by decide +kernel
theorem dX9_readClause_115 : decode cX9_readClause 115 = .ok (.goto 35, 3) := by decide +kernel
theorem dX9_readClause_118 : decode cX9_readClause 118 = .ok (.aload_n 1, 1) := by decide +kernel
theorem dX9_readClause_119 : decode cX9_readClause 119 = .ok (.aload_n 0, 1) := by decide +kernel
theorem dX9_readClause_120 : decode cX9_readClause 120 = .ok (.sipush 1000, 3) := by decide +kernel
theorem dX9_readClause_123 : decode cX9_readClause 123 = .ok (.invokevirtual 57, 3) := by decide +kernel
theorem dX9_readClause_126 : decode cX9_readClause 126 = .ok (.putfield 75, 3) := by decide +kernel
theorem dX9_readClause_129 : decode cX9_readClause 129 = .ok (.aload_n 0, 1) := by decide +kernel
theorem dX9_readClause_130 : decode cX9_readClause 130 = .ok (.ldc 78, 2) := by decide +kernel
theorem dX9_readClause_132 : decode cX9_readClause 132 = .ok (.invokevirtual 46, 3) := by decide +kernel
theorem dX9_readClause_135 : decode cX9_readClause 135 = .ok (.pop, 1) := by decide +kernel
theorem dX9_readClause_136 : decode cX9_readClause 136 = .ok (.aload_n 1, 1) := by decide +kernel
theorem dX9_readClause_137 : decode cX9_readClause 137 = .ok (.aload_n 0, 1) := by decide +kernel
theorem dX9_readClause_138 : decode cX9_readClause 138 = .ok (.sipush 5000, 3) := by decide +kernel
theorem dX9_readClause_141 : decode cX9_readClause 141 = .ok (.invokevirtual 57, 3) := by decide +kernel
theorem dX9_readClause_144 : decode cX9_readClause 144 = .ok (.putfield 80, 3) := by decide +kernel
theorem dX9_readClause_147 : decode cX9_readClause 147 = .ok (.goto 3, 3) := by decide +kernel
theorem dX9_readClause_150 : decode cX9_readClause 150 = .ok (.aload_n 0, 1) := by decide +kernel
theorem dX9_readClause_151 : decode cX9_readClause 151 = .ok (.invokevirtual 83, 3) := by decide +kernel
theorem dX9_readClause_154 : decode cX9_readClause 154 = .ok (.return_, 1) := by decide +kernel
theorem dX9_readWeight_0 : decode cX9_readWeight 0 = .ok (.aload_n 0, 1) := by decide +kernel
theorem dX9_readWeight_1 : decode cX9_readWeight 1 = .ok (.ldc 86, 2) := by decide +kernel
theorem dX9_readWeight_3 : decode cX9_readWeight 3 = .ok (.invokevirtual 46, 3) := by decide +kernel
theorem dX9_readWeight_6 : decode cX9_readWeight 6 = .ok (.istore_n 2, 1) := by decide +kernel
theorem dX9_readWeight_7 : decode cX9_readWeight 7 = .ok (.iload_n 2, 1) := by decide +kernel
theorem dX9_readWeight_8 : decode cX9_readWeight 8 = .ok (.ifCond .ge 4, 3) := by decide +kernel
theorem dX9_readWeight_11 : decode cX9_readWeight 11 = .ok (.return_, 1) := by decide +kernel
theorem dX9_readWeight_12 : decode cX9_readWeight 12 = .ok (.aload_n 0, 1) := by decide +kernel
theorem dX9_readWeight_13 : decode cX9_readWeight 13 = .ok (.bipush 6, 2) := by decide +kernel
theorem dX9_readWeight_15 : decode cX9_readWeight 15 = .ok (.iload_n 2, 1) := by decide +kernel
theorem dX9_readWeight_16 : decode cX9_readWeight 16 = .ok (.iadd, 1) := by decide +kernel
theorem dX9_readWeight_17 : decode cX9_readWeight 17 = .ok (.invokevirtual 50, 3) := by decide +kernel
theorem dX9_readWeight_20 : decode cX9_readWeight 20 = .ok (.aload_n 1, 1) := by decide +kernel
theorem dX9_readWeight_21 : decode cX9_readWeight 21 = .ok (.getfield 88, 3) := by decide +kernel
theorem dX9_readWeight_24 : decode cX9_readWeight 24 = .ok (.iload_n 2, 1) := by decide +kernel
theorem dX9_readWeight_25 : decode cX9_readWeight 25 = .ok (.aload_n 0, 1) := by decide +kernel
theorem dX9_readWeight_26 : decode cX9_readWeight 26 = .ok (.bipush 99, 2) := by decide +kernel
theorem dX9_readWeight_28 : decode cX9_readWeight 28 = .ok (.invokevirtual 57, 3) := by decide +kernel
theorem dX9_readWeight_31 : decode cX9_readWeight 31 = .ok (.iastore, 1) := by decide +kernel
theorem dX9_readWeight_32 : decode cX9_readWeight 32 = .ok (.return_, 1) := by decide +kernel
theorem dX9_tellOnce_0 : decode cX9_tellOnce 0 = .ok (.iload_n 1, 1) := by decide +kernel
theorem dX9_tellOnce_1 : decode cX9_tellOnce 1 = .ok (.ifCond .ge 4, 3) := by decide +kernel
theorem dX9_tellOnce_4 : decode cX9_tellOnce 4 = .ok (.return_, 1) := by decide +kernel
theorem dX9_tellOnce_5 : decode cX9_tellOnce 5 = .ok (.aload_n 0, 1) := by decide +kernel
theorem dX9_tellOnce_6 : decode cX9_tellOnce 6 = .ok (.getfield 27, 3) := by decide +kernel
theorem dX9_tellOnce_9 : decode cX9_tellOnce 9 = .ok (.iconst 1, 1) := by decide +kernel
theorem dX9_tellOnce_10 : decode cX9_tellOnce 10 = .ok (.iload_n 1, 1) := by decide +kernel
theorem dX9_tellOnce_11 : decode cX9_tellOnce 11 = .ok (.ishl, 1) := by decide +kernel
theorem dX9_tellOnce_12 : decode cX9_tellOnce 12 = .ok (.iand, 1) := by decide +kernel
theorem dX9_tellOnce_13 : decode cX9_tellOnce 13 = .ok (.ifCond .eq 12, 3) := by decide +kernel
theorem dX9_tellOnce_16 : decode cX9_tellOnce 16 = .ok (.aload_n 0, 1) := by decide +kernel
theorem dX9_tellOnce_17 : decode cX9_tellOnce 17 = .ok (.iconst 3, 1) := by decide +kernel
theorem dX9_tellOnce_18 : decode cX9_tellOnce 18 = .ok (.aload_n 0, 1) := by decide +kernel
theorem dX9_tellOnce_19 : decode cX9_tellOnce 19 = .ok (.getfield 92, 3) := by decide +kernel
theorem dX9_tellOnce_22 : decode cX9_tellOnce 22 = .ok (.invokevirtual 40, 3) := by decide +kernel
theorem dX9_tellOnce_25 : decode cX9_tellOnce 25 = .ok (.aload_n 0, 1) := by decide +kernel
theorem dX9_tellOnce_26 : decode cX9_tellOnce 26 = .ok (.dup, 1) := by decide +kernel
theorem dX9_tellOnce_27 : decode cX9_tellOnce 27 = .ok (.getfield 27, 3) := by decide +kernel
theorem dX9_tellOnce_30 : decode cX9_tellOnce 30 = .ok (.iconst 1, 1) := by decide +kernel
theorem dX9_tellOnce_31 : decode cX9_tellOnce 31 = .ok (.iload_n 1, 1) := by decide +kernel
theorem dX9_tellOnce_32 : decode cX9_tellOnce 32 = .ok (.ishl, 1) := by decide +kernel
theorem dX9_tellOnce_33 : decode cX9_tellOnce 33 = .ok (.ior, 1) := by decide +kernel
theorem dX9_tellOnce_34 : decode cX9_tellOnce 34 = .ok (.putfield 27, 3) := by decide +kernel
theorem dX9_tellOnce_37 : decode cX9_tellOnce 37 = .ok (.return_, 1) := by decide +kernel
theorem dX9_readWord_0 : decode cX9_readWord 0 = .ok (.aload_n 0, 1) := by decide +kernel
theorem dX9_readWord_1 : decode cX9_readWord 1 = .ok (.invokevirtual 33, 3) := by decide +kernel
theorem dX9_readWord_4 : decode cX9_readWord 4 = .ok (.aload_n 0, 1) := by decide +kernel
theorem dX9_readWord_5 : decode cX9_readWord 5 = .ok (.aload_n 0, 1) := by decide +kernel
theorem dX9_readWord_6 : decode cX9_readWord 6 = .ok (.getfield 24, 3) := by decide +kernel
theorem dX9_readWord_9 : decode cX9_readWord 9 = .ok (.putfield 92, 3) := by decide +kernel
theorem dX9_readWord_12 : decode cX9_readWord 12 = .ok (.aload_n 0, 1) := by decide +kernel
theorem dX9_readWord_13 : decode cX9_readWord 13 = .ok (.getfield 24, 3) := by decide +kernel
theorem dX9_readWord_16 : decode cX9_readWord 16 = .ok (.aload_n 0, 1) := by decide +kernel
theorem dX9_readWord_17 : decode cX9_readWord 17 = .ok (.getfield 15, 3) := by decide +kernel
theorem dX9_readWord_20 : decode cX9_readWord 20 = .ok (.if_icmp .ge 35, 3) := by decide +kernel
theorem dX9_readWord_23 : decode cX9_readWord 23 = .ok (.aload_n 0, 1) := by decide +kernel
theorem dX9_readWord_24 : decode cX9_readWord 24 = .ok (.getfield 9, 3) := by decide +kernel
theorem dX9_readWord_27 : decode cX9_readWord 27 = .ok (.aload_n 0, 1) := by decide +kernel
theorem dX9_readWord_28 : decode cX9_readWord 28 = .ok (.getfield 24, 3) := by decide +kernel
theorem dX9_readWord_31 : decode cX9_readWord 31 = .ok (.baload, 1) := by decide +kernel
theorem dX9_readWord_32 : decode cX9_readWord 32 = .ok (.bipush 97, 2) := by decide +kernel
theorem dX9_readWord_34 : decode cX9_readWord 34 = .ok (.bipush 122, 2) := by decide +kernel
theorem dX9_readWord_36 : decode cX9_readWord 36 = .ok (.invokestatic 95, 3) := by decide +kernel
theorem dX9_readWord_39 : decode cX9_readWord 39 = .ok (.ifCond .eq 16, 3) := by decide +kernel
theorem dX9_readWord_42 : decode cX9_readWord 42 = .ok (.aload_n 0, 1) := by decide +kernel
theorem dX9_readWord_43 : decode cX9_readWord 43 = .ok (.dup, 1) := by decide +kernel
theorem dX9_readWord_44 : decode cX9_readWord 44 = .ok (.getfield 24, 3) := by decide +kernel
theorem dX9_readWord_47 : decode cX9_readWord 47 = .ok (.iconst 1, 1) := by decide +kernel
theorem dX9_readWord_48 : decode cX9_readWord 48 = .ok (.iadd, 1) := by decide +kernel
theorem dX9_readWord_49 : decode cX9_readWord 49 = .ok (.putfield 24, 3) := by decide +kernel
theorem dX9_readWord_52 : decode cX9_readWord 52 = .ok (.goto (-40), 3) := by decide +kernel
theorem dX9_readWord_55 : decode cX9_readWord 55 = .ok (.aload_n 0, 1) := by decide +kernel
theorem dX9_readWord_56 : decode cX9_readWord 56 = .ok (.aload_n 1, 1) := by decide +kernel
theorem dX9_readWord_57 : decode cX9_readWord 57 = .ok (.invokevirtual 99, 3) := by decide +kernel
theorem dX9_readWord_60 : decode cX9_readWord 60 = .ok (.istore_n 2, 1) := by decide +kernel
theorem dX9_readWord_61 : decode cX9_readWord 61 = .ok (.iload_n 2, 1) := by decide +kernel
theorem dX9_readWord_62 : decode cX9_readWord 62 = .ok (.ifCond .ge 12, 3) := by decide +kernel
theorem dX9_readWord_65 : decode cX9_readWord 65 = .ok (.aload_n 0, 1) := by decide +kernel
theorem dX9_readWord_66 : decode cX9_readWord 66 = .ok (.iconst 1, 1) := by decide +kernel
theorem dX9_readWord_67 : decode cX9_readWord 67 = .ok (.aload_n 0, 1) := by decide +kernel
theorem dX9_readWord_68 : decode cX9_readWord 68 = .ok (.getfield 92, 3) := by decide +kernel
theorem dX9_readWord_71 : decode cX9_readWord 71 = .ok (.invokevirtual 40, 3) := by decide +kernel
theorem dX9_readWord_74 : decode cX9_readWord 74 = .ok (.iload_n 2, 1) := by decide +kernel
theorem dX9_readWord_75 : decode cX9_readWord 75 = .ok (.ireturn, 1) := by decide +kernel
theorem dX9_numberOfWord_0 : decode cX9_numberOfWord 0 = .ok (.iconst 0, 1) := by decide +kernel
theorem dX9_numberOfWord_1 : decode cX9_numberOfWord 1 = .ok (.istore_n 2, 1) := by decide +kernel
theorem dX9_numberOfWord_2 : decode cX9_numberOfWord 2 = .ok (.aload_n 0, 1) := by decide +kernel
theorem dX9_numberOfWord_3 : decode cX9_numberOfWord 3 = .ok (.getfield 92, 3) := by decide +kernel
theorem dX9_numberOfWord_6 : decode cX9_numberOfWord 6 = .ok (.istore_n 3, 1) := by decide +kernel
theorem dX9_numberOfWord_7 : decode cX9_numberOfWord 7 = .ok (.iconst 1, 1) := by decide +kernel
theorem dX9_numberOfWord_8 : decode cX9_numberOfWord 8 = .ok (.istore 4, 2) := by decide +kernel
theorem dX9_numberOfWord_10 : decode cX9_numberOfWord 10 = .ok (.iconst 0, 1) := by decide +kernel
theorem dX9_numberOfWord_11 : decode cX9_numberOfWord 11 = .ok (.istore 5, 2) := by decide +kernel
theorem dX9_numberOfWord_13 : decode cX9_numberOfWord 13 = .ok (.iload 5, 2) := by decide +kernel
theorem dX9_numberOfWord_15 : decode cX9_numberOfWord 15 = .ok (.aload_n 1, 1) := by decide +kernel
theorem dX9_numberOfWord_16 : decode cX9_numberOfWord 16 = .ok (.invokevirtual 102, 3) := by decide +kernel
theorem dX9_numberOfWord_19 : decode cX9_numberOfWord 19 = .ok (.if_icmp .ge 87, 3) := by decide +kernel
theorem dX9_numberOfWord_22 : decode cX9_numberOfWord 22 = .ok (.aload_n 1, 1) := by decide +kernel
theorem dX9_numberOfWord_23 : decode cX9_numberOfWord 23 = .ok (.iload 5, 2) := by decide +kernel
theorem dX9_numberOfWord_25 : decode cX9_numberOfWord 25 = .ok (.invokevirtual 107, 3) := by decide +kernel
theorem dX9_numberOfWord_28 : decode cX9_numberOfWord 28 = .ok (.istore 6, 2) := by decide +kernel
theorem dX9_numberOfWord_30 : decode cX9_numberOfWord 30 = .ok (.iload 6, 2) := by decide +kernel
theorem dX9_numberOfWord_32 : decode cX9_numberOfWord 32 = .ok (.bipush 32, 2) := by decide +kernel
theorem dX9_numberOfWord_34 : decode cX9_numberOfWord 34 = .ok (.if_icmp .eq 40, 3) := by decide +kernel
theorem dX9_numberOfWord_37 : decode cX9_numberOfWord 37 = .ok (.iload 4, 2) := by decide +kernel
theorem dX9_numberOfWord_39 : decode cX9_numberOfWord 39 = .ok (.ifCond .eq 26, 3) := by decide +kernel
theorem dX9_numberOfWord_42 : decode cX9_numberOfWord 42 = .ok (.iload_n 3, 1) := by decide +kernel
theorem dX9_numberOfWord_43 : decode cX9_numberOfWord 43 = .ok (.aload_n 0, 1) := by decide +kernel
theorem dX9_numberOfWord_44 : decode cX9_numberOfWord 44 = .ok (.getfield 24, 3) := by decide +kernel
theorem dX9_numberOfWord_47 : decode cX9_numberOfWord 47 = .ok (.if_icmp .ge 18, 3) := by decide +kernel
theorem dX9_numberOfWord_50 : decode cX9_numberOfWord 50 = .ok (.aload_n 0, 1) := by decide +kernel
theorem dX9_numberOfWord_51 : decode cX9_numberOfWord 51 = .ok (.getfield 9, 3) := by decide +kernel
theorem dX9_numberOfWord_54 : decode cX9_numberOfWord 54 = .ok (.iload_n 3, 1) := by decide +kernel
theorem dX9_numberOfWord_55 : decode cX9_numberOfWord 55 = .ok (.baload, 1) := by decide +kernel
theorem dX9_numberOfWord_56 : decode cX9_numberOfWord 56 = .ok (.iload 6, 2) := by decide +kernel
theorem dX9_numberOfWord_58 : decode cX9_numberOfWord 58 = .ok (.if_icmp .ne 7, 3) := by decide +kernel
theorem dX9_numberOfWord_61 : decode cX9_numberOfWord 61 = .ok (.iconst 1, 1) := by decide +kernel
theorem dX9_numberOfWord_62 : decode cX9_numberOfWord 62 = .ok (.goto 4, 3) := by decide +kernel
theorem dX9_numberOfWord_65 : decode cX9_numberOfWord 65 = .ok (.iconst 0, 1) := by decide +kernel
theorem dX9_numberOfWord_66 : decode cX9_numberOfWord 66 = .ok (.istore 4, 2) := by decide +kernel
theorem dX9_numberOfWord_68 : decode cX9_numberOfWord 68 = .ok (.iinc 3 1, 3) := by decide +kernel
theorem dX9_numberOfWord_71 : decode cX9_numberOfWord 71 = .ok (.goto 29, 3) := by decide +kernel
theorem dX9_numberOfWord_74 : decode cX9_numberOfWord 74 = .ok (.iload 4, 2) := by decide +kernel
theorem dX9_numberOfWord_76 : decode cX9_numberOfWord 76 = .ok (.ifCond .eq 13, 3) := by decide +kernel
theorem dX9_numberOfWord_79 : decode cX9_numberOfWord 79 = .ok (.iload_n 3, 1) := by decide +kernel
theorem dX9_numberOfWord_80 : decode cX9_numberOfWord 80 = .ok (.aload_n 0, 1) := by decide +kernel
theorem dX9_numberOfWord_81 : decode cX9_numberOfWord 81 = .ok (.getfield 24, 3) := by decide +kernel
theorem dX9_numberOfWord_84 : decode cX9_numberOfWord 84 = .ok (.if_icmp .ne 5, 3) := by decide +kernel
theorem dX9_numberOfWord_87 : decode cX9_numberOfWord 87 = .ok (.iload_n 2, 1) := by decide +kernel
theorem dX9_numberOfWord_88 : decode cX9_numberOfWord 88 = .ok (.ireturn, 1) := by decide +kernel
theorem dX9_numberOfWord_89 : decode cX9_numberOfWord 89 = .ok (.iinc 2 1, 3) := by decide +kernel
theorem dX9_numberOfWord_92 : decode cX9_numberOfWord 92 = .ok (.aload_n 0, 1) := by decide +kernel
theorem dX9_numberOfWord_93 : decode cX9_numberOfWord 93 = .ok (.getfield 92, 3) := by decide +kernel
theorem dX9_numberOfWord_96 : decode cX9_numberOfWord 96 = .ok (.istore_n 3, 1) := by decide +kernel
theorem dX9_numberOfWord_97 : decode cX9_numberOfWord 97 = .ok (.iconst 1, 1) := by decide +kernel
theorem dX9_numberOfWord_98 : decode cX9_numberOfWord 98 = .ok (.istore 4, 2) := by decide +kernel
theorem dX9_numberOfWord_100 : decode cX9_numberOfWord 100 = .ok (.iinc 5 1, 3) := by decide +kernel
theorem dX9_numberOfWord_103 : decode cX9_numberOfWord 103 = .ok (.goto (-90), 3) := by decide +kernel
theorem dX9_numberOfWord_106 : decode cX9_numberOfWord 106 = .ok (.iconst (-1), 1) := by decide +kernel
theorem dX9_numberOfWord_107 : decode cX9_numberOfWord 107 = .ok (.ireturn, 1) := by decide +kernel
theorem dX9_readNumber_0 : decode cX9_readNumber 0 = .ok (.aload_n 0, 1) := by decide +kernel
theorem dX9_readNumber_1 : decode cX9_readNumber 1 = .ok (.invokevirtual 33, 3) := by decide +kernel
theorem dX9_readNumber_4 : decode cX9_readNumber 4 = .ok (.aload_n 0, 1) := by decide +kernel
theorem dX9_readNumber_5 : decode cX9_readNumber 5 = .ok (.getfield 24, 3) := by decide +kernel
theorem dX9_readNumber_8 : decode cX9_readNumber 8 = .ok (.istore_n 2, 1) := by decide +kernel
theorem dX9_readNumber_9 : decode cX9_readNumber 9 = .ok (.iconst 0, 1) := by decide +kernel
theorem dX9_readNumber_10 : decode cX9_readNumber 10 = .ok (.istore_n 3, 1) := by decide +kernel
theorem dX9_readNumber_11 : decode cX9_readNumber 11 = .ok (.aload_n 0, 1) := by decide +kernel
theorem dX9_readNumber_12 : decode cX9_readNumber 12 = .ok (.getfield 24, 3) := by decide +kernel
theorem dX9_readNumber_15 : decode cX9_readNumber 15 = .ok (.aload_n 0, 1) := by decide +kernel
theorem dX9_readNumber_16 : decode cX9_readNumber 16 = .ok (.getfield 15, 3) := by decide +kernel
theorem dX9_readNumber_19 : decode cX9_readNumber 19 = .ok (.if_icmp .ge 63, 3) := by decide +kernel
theorem dX9_readNumber_22 : decode cX9_readNumber 22 = .ok (.aload_n 0, 1) := by decide +kernel
theorem dX9_readNumber_23 : decode cX9_readNumber 23 = .ok (.getfield 9, 3) := by decide +kernel
theorem dX9_readNumber_26 : decode cX9_readNumber 26 = .ok (.aload_n 0, 1) := by decide +kernel
theorem dX9_readNumber_27 : decode cX9_readNumber 27 = .ok (.getfield 24, 3) := by decide +kernel
theorem dX9_readNumber_30 : decode cX9_readNumber 30 = .ok (.baload, 1) := by decide +kernel
theorem dX9_readNumber_31 : decode cX9_readNumber 31 = .ok (.bipush 48, 2) := by decide +kernel
theorem dX9_readNumber_33 : decode cX9_readNumber 33 = .ok (.bipush 57, 2) := by decide +kernel
theorem dX9_readNumber_35 : decode cX9_readNumber 35 = .ok (.invokestatic 95, 3) := by decide +kernel
theorem dX9_readNumber_38 : decode cX9_readNumber 38 = .ok (.ifCond .eq 44, 3) := by decide +kernel
theorem dX9_readNumber_41 : decode cX9_readNumber 41 = .ok (.aload_n 0, 1) := by decide +kernel
theorem dX9_readNumber_42 : decode cX9_readNumber 42 = .ok (.getfield 24, 3) := by decide +kernel
theorem dX9_readNumber_45 : decode cX9_readNumber 45 = .ok (.iload_n 2, 1) := by decide +kernel
theorem dX9_readNumber_46 : decode cX9_readNumber 46 = .ok (.isub, 1) := by decide +kernel
theorem dX9_readNumber_47 : decode cX9_readNumber 47 = .ok (.iconst 4, 1) := by decide +kernel
theorem dX9_readNumber_48 : decode cX9_readNumber 48 = .ok (.if_icmp .ge 21, 3) := by decide +kernel
theorem dX9_readNumber_51 : decode cX9_readNumber 51 = .ok (.iload_n 3, 1) := by decide +kernel
theorem dX9_readNumber_52 : decode cX9_readNumber 52 = .ok (.bipush 10, 2) := by decide +kernel
theorem dX9_readNumber_54 : decode cX9_readNumber 54 = .ok (.imul, 1) := by decide +kernel
theorem dX9_readNumber_55 : decode cX9_readNumber 55 = .ok (.aload_n 0, 1) := by decide +kernel
theorem dX9_readNumber_56 : decode cX9_readNumber 56 = .ok (.getfield 9, 3) := by decide +kernel
theorem dX9_readNumber_59 : decode cX9_readNumber 59 = .ok (.aload_n 0, 1) := by decide +kernel
theorem dX9_readNumber_60 : decode cX9_readNumber 60 = .ok (.getfield 24, 3) := by decide +kernel
theorem dX9_readNumber_63 : decode cX9_readNumber 63 = .ok (.baload, 1) := by decide +kernel
theorem dX9_readNumber_64 : decode cX9_readNumber 64 = .ok (.iadd, 1) := by decide +kernel
theorem dX9_readNumber_65 : decode cX9_readNumber 65 = .ok (.bipush 48, 2) := by decide +kernel
theorem dX9_readNumber_67 : decode cX9_readNumber 67 = .ok (.isub, 1) := by decide +kernel
theorem dX9_readNumber_68 : decode cX9_readNumber 68 = .ok (.istore_n 3, 1) := by decide +kernel
theorem dX9_readNumber_69 : decode cX9_readNumber 69 = .ok (.aload_n 0, 1) := by decide +kernel
theorem dX9_readNumber_70 : decode cX9_readNumber 70 = .ok (.dup, 1) := by decide +kernel
theorem dX9_readNumber_71 : decode cX9_readNumber 71 = .ok (.getfield 24, 3) := by decide +kernel
theorem dX9_readNumber_74 : decode cX9_readNumber 74 = .ok (.iconst 1, 1) := by decide +kernel
theorem dX9_readNumber_75 : decode cX9_readNumber 75 = .ok (.iadd, 1) := by decide +kernel
theorem dX9_readNumber_76 : decode cX9_readNumber 76 = .ok (.putfield 24, 3) := by decide +kernel
theorem dX9_readNumber_79 : decode cX9_readNumber 79 = .ok (.goto (-68), 3) := by decide +kernel
theorem dX9_readNumber_82 : decode cX9_readNumber 82 = .ok (.aload_n 0, 1) := by decide +kernel
theorem dX9_readNumber_83 : decode cX9_readNumber 83 = .ok (.getfield 24, 3) := by decide +kernel
theorem dX9_readNumber_86 : decode cX9_readNumber 86 = .ok (.iload_n 2, 1) := by decide +kernel
theorem dX9_readNumber_87 : decode cX9_readNumber 87 = .ok (.if_icmp .ne 12, 3) := by decide +kernel
theorem dX9_readNumber_90 : decode cX9_readNumber 90 = .ok (.aload_n 0, 1) := by decide +kernel
theorem dX9_readNumber_91 : decode cX9_readNumber 91 = .ok (.iconst 1, 1) := by decide +kernel
theorem dX9_readNumber_92 : decode cX9_readNumber 92 = .ok (.iload_n 2, 1) := by decide +kernel
theorem dX9_readNumber_93 : decode cX9_readNumber 93 = .ok (.invokevirtual 40, 3) := by decide +kernel
theorem dX9_readNumber_96 : decode cX9_readNumber 96 = .ok (.goto 24, 3) := by decide +kernel
theorem dX9_readNumber_99 : decode cX9_readNumber 99 = .ok (.aload_n 0, 1) := by decide +kernel
theorem dX9_readNumber_100 : decode cX9_readNumber 100 = .ok (.getfield 24, 3) := by decide +kernel
theorem dX9_readNumber_103 : decode cX9_readNumber 103 = .ok (.iload_n 2, 1) := by decide +kernel
theorem dX9_readNumber_104 : decode cX9_readNumber 104 = .ok (.isub, 1) := by decide +kernel
theorem dX9_readNumber_105 : decode cX9_readNumber 105 = .ok (.iconst 4, 1) := by decide +kernel
theorem dX9_readNumber_106 : decode cX9_readNumber 106 = .ok (.if_icmp .gt 8, 3) := by decide +kernel
theorem dX9_readNumber_109 : decode cX9_readNumber 109 = .ok (.iload_n 3, 1) := by decide +kernel
theorem dX9_readNumber_110 : decode cX9_readNumber 110 = .ok (.iload_n 1, 1) := by decide +kernel
theorem dX9_readNumber_111 : decode cX9_readNumber 111 = .ok (.if_icmp .le 9, 3) := by decide +kernel
theorem dX9_readNumber_114 : decode cX9_readNumber 114 = .ok (.aload_n 0, 1) := by decide +kernel
theorem dX9_readNumber_115 : decode cX9_readNumber 115 = .ok (.iconst 2, 1) := by decide +kernel
theorem dX9_readNumber_116 : decode cX9_readNumber 116 = .ok (.iload_n 2, 1) := by decide +kernel
theorem dX9_readNumber_117 : decode cX9_readNumber 117 = .ok (.invokevirtual 40, 3) := by decide +kernel
theorem dX9_readNumber_120 : decode cX9_readNumber 120 = .ok (.iload_n 3, 1) := by decide +kernel
theorem dX9_readNumber_121 : decode cX9_readNumber 121 = .ok (.ireturn, 1) := by decide +kernel
theorem dX9_readSemicolon_0 : decode cX9_readSemicolon 0 = .ok (.aload_n 0, 1) := by decide +kernel
theorem dX9_readSemicolon_1 : decode cX9_readSemicolon 1 = .ok (.invokevirtual 33, 3) := by decide +kernel
theorem dX9_readSemicolon_4 : decode cX9_readSemicolon 4 = .ok (.aload_n 0, 1) := by decide +kernel
theorem dX9_readSemicolon_5 : decode cX9_readSemicolon 5 = .ok (.getfield 24, 3) := by decide +kernel
theorem dX9_readSemicolon_8 : decode cX9_readSemicolon 8 = .ok (.aload_n 0, 1) := by decide +kernel
theorem dX9_readSemicolon_9 : decode cX9_readSemicolon 9 = .ok (.getfield 15, 3) := by decide +kernel
theorem dX9_readSemicolon_12 : decode cX9_readSemicolon 12 = .ok (.if_icmp .ge 30, 3) := by decide +kernel
theorem dX9_readSemicolon_15 : decode cX9_readSemicolon 15 = .ok (.aload_n 0, 1) := by decide +kernel
theorem dX9_readSemicolon_16 : decode cX9_readSemicolon 16 = .ok (.getfield 9, 3) := by decide +kernel
theorem dX9_readSemicolon_19 : decode cX9_readSemicolon 19 = .ok (.aload_n 0, 1) := by decide +kernel
theorem dX9_readSemicolon_20 : decode cX9_readSemicolon 20 = .ok (.getfield 24, 3) := by decide +kernel
theorem dX9_readSemicolon_23 : decode cX9_readSemicolon 23 = .ok (.baload, 1) := by decide +kernel
theorem dX9_readSemicolon_24 : decode cX9_readSemicolon 24 = .ok (.bipush 59, 2) := by decide +kernel
theorem dX9_readSemicolon_26 : decode cX9_readSemicolon 26 = .ok (.if_icmp .ne 16, 3) := by decide +kernel
theorem dX9_readSemicolon_29 : decode cX9_readSemicolon 29 = .ok (.aload_n 0, 1) := by decide +kernel
theorem dX9_readSemicolon_30 : decode cX9_readSemicolon 30 = .ok (.dup, 1) := by decide +kernel
theorem dX9_readSemicolon_31 : decode cX9_readSemicolon 31 = .ok (.getfield 24, 3) := by decide +kernel
theorem dX9_readSemicolon_34 : decode cX9_readSemicolon 34 = .ok (.iconst 1, 1) := by decide +kernel
theorem dX9_readSemicolon_35 : decode cX9_readSemicolon 35 = .ok (.iadd, 1) := by decide +kernel
theorem dX9_readSemicolon_36 : decode cX9_readSemicolon 36 = .ok (.putfield 24, 3) := by decide +kernel
theorem dX9_readSemicolon_39 : decode cX9_readSemicolon 39 = .ok (.goto 12, 3) := by decide +kernel
theorem dX9_readSemicolon_42 : decode cX9_readSemicolon 42 = .ok (.aload_n 0, 1) := by decide +kernel
theorem dX9_readSemicolon_43 : decode cX9_readSemicolon 43 = .ok (.iconst 1, 1) := by decide +kernel
theorem dX9_readSemicolon_44 : decode cX9_readSemicolon 44 = .ok (.aload_n 0, 1) := by decide +kernel
theorem dX9_readSemicolon_45 : decode cX9_readSemicolon 45 = .ok (.getfield 24, 3) := by decide +kernel
theorem dX9_readSemicolon_48 : decode cX9_readSemicolon 48 = .ok (.invokevirtual 40, 3) := by decide +kernel
theorem dX9_readSemicolon_51 : decode cX9_readSemicolon 51 = .ok (.return_, 1) := by decide +kernel
theorem dX9_skipBlanks_0 : decode cX9_skipBlanks 0 = .ok (.aload_n 0, 1) := by decide +kernel
theorem dX9_skipBlanks_1 : decode cX9_skipBlanks 1 = .ok (.getfield 24, 3) := by decide +kernel
theorem dX9_skipBlanks_4 : decode cX9_skipBlanks 4 = .ok (.aload_n 0, 1) := by decide +kernel
theorem dX9_skipBlanks_5 : decode cX9_skipBlanks 5 = .ok (.getfield 15, 3) := by decide +kernel
theorem dX9_skipBlanks_8 : decode cX9_skipBlanks 8 = .ok (.if_icmp .ge 30, 3) := by decide +kernel
theorem dX9_skipBlanks_11 : decode cX9_skipBlanks 11 = .ok (.aload_n 0, 1) := by decide +kernel
theorem dX9_skipBlanks_12 : decode cX9_skipBlanks 12 = .ok (.getfield 9, 3) := by decide +kernel
theorem dX9_skipBlanks_15 : decode cX9_skipBlanks 15 = .ok (.aload_n 0, 1) := by decide +kernel
theorem dX9_skipBlanks_16 : decode cX9_skipBlanks 16 = .ok (.getfield 24, 3) := by decide +kernel
theorem dX9_skipBlanks_19 : decode cX9_skipBlanks 19 = .ok (.baload, 1) := by decide +kernel
theorem dX9_skipBlanks_20 : decode cX9_skipBlanks 20 = .ok (.bipush 32, 2) := by decide +kernel
theorem dX9_skipBlanks_22 : decode cX9_skipBlanks 22 = .ok (.if_icmp .ne 16, 3) := by decide +kernel
theorem dX9_skipBlanks_25 : decode cX9_skipBlanks 25 = .ok (.aload_n 0, 1) := by decide +kernel
theorem dX9_skipBlanks_26 : decode cX9_skipBlanks 26 = .ok (.dup, 1) := by decide +kernel
theorem dX9_skipBlanks_27 : decode cX9_skipBlanks 27 = .ok (.getfield 24, 3) := by decide +kernel
theorem dX9_skipBlanks_30 : decode cX9_skipBlanks 30 = .ok (.iconst 1, 1) := by decide +kernel
theorem dX9_skipBlanks_31 : decode cX9_skipBlanks 31 = .ok (.iadd, 1) := by decide +kernel
theorem dX9_skipBlanks_32 : decode cX9_skipBlanks 32 = .ok (.putfield 24, 3) := by decide +kernel
theorem dX9_skipBlanks_35 : decode cX9_skipBlanks 35 = .ok (.goto (-35), 3) := by decide +kernel
theorem dX9_skipBlanks_38 : decode cX9_skipBlanks 38 = .ok (.return_, 1) := by decide +kernel
theorem dX9_refuse_0 : decode cX9_refuse 0 = .ok (.aload_n 0, 1) := by decide +kernel
theorem dX9_refuse_1 : decode cX9_refuse 1 = .ok (.getfield 30, 3) := by decide +kernel
theorem dX9_refuse_4 : decode cX9_refuse 4 = .ok (.ifCond .ne 12, 3) := by decide +kernel
theorem dX9_refuse_7 : decode cX9_refuse 7 = .ok (.aload_n 0, 1) := by decide +kernel
theorem dX9_refuse_8 : decode cX9_refuse 8 = .ok (.iload_n 1, 1) := by decide +kernel
theorem dX9_refuse_9 : decode cX9_refuse 9 = .ok (.iconst 4, 1) := by decide +kernel
theorem dX9_refuse_10 : decode cX9_refuse 10 = .ok (.iload_n 2, 1) := by decide +kernel
theorem dX9_refuse_11 : decode cX9_refuse 11 = .ok (.imul, 1) := by decide +kernel
theorem dX9_refuse_12 : decode cX9_refuse 12 = .ok (.iadd, 1) := by decide +kernel
theorem dX9_refuse_13 : decode cX9_refuse 13 = .ok (.putfield 30, 3) := by decide +kernel
theorem dX9_refuse_16 : decode cX9_refuse 16 = .ok (.return_, 1) := by decide +kernel
theorem dX9_isBetween_0 : decode cX9_isBetween 0 = .ok (.iload_n 0, 1) := by decide +kernel
theorem dX9_isBetween_1 : decode cX9_isBetween 1 = .ok (.iload_n 1, 1) := by decide +kernel
theorem dX9_isBetween_2 : decode cX9_isBetween 2 = .ok (.if_icmp .lt 12, 3) := by decide +kernel
theorem dX9_isBetween_5 : decode cX9_isBetween 5 = .ok (.iload_n 0, 1) := by decide +kernel
theorem dX9_isBetween_6 : decode cX9_isBetween 6 = .ok (.iload_n 2, 1) := by decide +kernel
theorem dX9_isBetween_7 : decode cX9_isBetween 7 = .ok (.if_icmp .gt 7, 3) := by decide +kernel
theorem dX9_isBetween_10 : decode cX9_isBetween 10 = .ok (.iconst 1, 1) := by decide +kernel
theorem dX9_isBetween_11 : decode cX9_isBetween 11 = .ok (.goto 4, 3) := by decide +kernel
theorem dX9_isBetween_14 : decode cX9_isBetween 14 = .ok (.iconst 0, 1) := by decide +kernel
theorem dX9_isBetween_15 : decode cX9_isBetween 15 = .ok (.ireturn, 1) := by decide +kernel
theorem dX10_init_0 : decode cX10_init 0 = .ok (.aload_n 0, 1) := by decide +kernel
theorem dX10_init_1 : decode cX10_init 1 = .ok (.invokespecial 3, 3) := by decide +kernel
theorem dX10_init_4 : decode cX10_init 4 = .ok (.aload_n 0, 1) := by decide +kernel
theorem dX10_init_5 : decode cX10_init 5 = .ok (.iload_n 1, 1) := by decide +kernel
theorem dX10_init_6 : decode cX10_init 6 = .ok (.newarray .int, 2) := by decide +kernel
theorem dX10_init_8 : decode cX10_init 8 = .ok (.putfield 9, 3) := by decide +kernel
theorem dX10_init_11 : decode cX10_init 11 = .ok (.aload_n 0, 1) := by decide +kernel
theorem dX10_init_12 : decode cX10_init 12 = .ok (.iload_n 1, 1) := by decide +kernel
theorem dX10_init_13 : decode cX10_init 13 = .ok (.newarray .int, 2) := by decide +kernel
theorem dX10_init_15 : decode cX10_init 15 = .ok (.putfield 15, 3) := by decide +kernel
theorem dX10_init_18 : decode cX10_init 18 = .ok (.aload_n 0, 1) := by decide +kernel
theorem dX10_init_19 : decode cX10_init 19 = .ok (.getfield 9, 3) := by decide +kernel
theorem dX10_init_22 : decode cX10_init 22 = .ok (.sipush 5001, 3) := by decide +kernel
theorem dX10_init_25 : decode cX10_init 25 = .ok (.invokestatic 18, 3) := by decide +kernel
theorem dX10_init_28 : decode cX10_init 28 = .ok (.aload_n 0, 1) := by decide +kernel
theorem dX10_init_29 : decode cX10_init 29 = .ok (.getfield 15, 3) := by decide +kernel
theorem dX10_init_32 : decode cX10_init 32 = .ok (.sipush 5001, 3) := by decide +kernel
theorem dX10_init_35 : decode cX10_init 35 = .ok (.invokestatic 18, 3) := by decide +kernel
theorem dX10_init_38 : decode cX10_init 38 = .ok (.return_, 1) := by decide +kernel
theorem dX10_set_0 : decode cX10_set 0 = .ok (.aload_n 0, 1) := by decide +kernel
theorem dX10_set_1 : decode cX10_set 1 = .ok (.getfield 9, 3) := by decide +kernel
theorem dX10_set_4 : decode cX10_set 4 = .ok (.iload_n 1, 1) := by decide +kernel
theorem dX10_set_5 : decode cX10_set 5 = .ok (.iload_n 2, 1) := by decide +kernel
theorem dX10_set_6 : decode cX10_set 6 = .ok (.iastore, 1) := by decide +kernel
theorem dX10_set_7 : decode cX10_set 7 = .ok (.aload_n 0, 1) := by decide +kernel
theorem dX10_set_8 : decode cX10_set 8 = .ok (.getfield 15, 3) := by decide +kernel
theorem dX10_set_11 : decode cX10_set 11 = .ok (.iload_n 1, 1) := by decide +kernel
theorem dX10_set_12 : decode cX10_set 12 = .ok (.iload_n 3, 1) := by decide +kernel
theorem dX10_set_13 : decode cX10_set 13 = .ok (.iastore, 1) := by decide +kernel
theorem dX10_set_14 : decode cX10_set 14 = .ok (.return_, 1) := by decide +kernel
theorem dX10_isSet_0 : decode cX10_isSet 0 = .ok (.aload_n 0, 1) := by decide +kernel
theorem dX10_isSet_1 : decode cX10_isSet 1 = .ok (.getfield 9, 3) := by decide +kernel
theorem dX10_isSet_4 : decode cX10_isSet 4 = .ok (.iload_n 1, 1) := by decide +kernel
theorem dX10_isSet_5 : decode cX10_isSet 5 = .ok (.iaload, 1) := by decide +kernel
theorem dX10_isSet_6 : decode cX10_isSet 6 = .ok (.sipush 5001, 3) := by decide +kernel
theorem dX10_isSet_9 : decode cX10_isSet 9 = .ok (.if_icmp .eq 7, 3) := by decide +kernel
theorem dX10_isSet_12 : decode cX10_isSet 12 = .ok (.iconst 1, 1) := by decide +kernel
theorem dX10_isSet_13 : decode cX10_isSet 13 = .ok (.goto 4, 3) := by decide +kernel
theorem dX10_isSet_16 : decode cX10_isSet 16 = .ok (.iconst 0, 1) := by decide +kernel
theorem dX10_isSet_17 : decode cX10_isSet 17 = .ok (.ireturn, 1) := by decide +kernel
theorem dX10_holds_0 : decode cX10_holds 0 = .ok (.aload_n 0, 1) := by decide +kernel
theorem dX10_holds_1 : decode cX10_holds 1 = .ok (.getfield 15, 3) := by decide +kernel
theorem dX10_holds_4 : decode cX10_holds 4 = .ok (.iload_n 1, 1) := by decide +kernel
theorem dX10_holds_5 : decode cX10_holds 5 = .ok (.iaload, 1) := by decide +kernel
theorem dX10_holds_6 : decode cX10_holds 6 = .ok (.iload_n 2, 1) := by decide +kernel
theorem dX10_holds_7 : decode cX10_holds 7 = .ok (.if_icmp .gt 17, 3) := by decide +kernel
theorem dX10_holds_10 : decode cX10_holds 10 = .ok (.aload_n 0, 1) := by decide +kernel
theorem dX10_holds_11 : decode cX10_holds 11 = .ok (.getfield 9, 3) := by decide +kernel
theorem dX10_holds_14 : decode cX10_holds 14 = .ok (.iload_n 1, 1) := by decide +kernel
theorem dX10_holds_15 : decode cX10_holds 15 = .ok (.iaload, 1) := by decide +kernel
theorem dX10_holds_16 : decode cX10_holds 16 = .ok (.iload_n 3, 1) := by decide +kernel
theorem dX10_holds_17 : decode cX10_holds 17 = .ok (.if_icmp .gt 7, 3) := by decide +kernel
theorem dX10_holds_20 : decode cX10_holds 20 = .ok (.iconst 1, 1) := by decide +kernel
theorem dX10_holds_21 : decode cX10_holds 21 = .ok (.goto 4, 3) := by decide +kernel
theorem dX10_holds_24 : decode cX10_holds 24 = .ok (.iconst 0, 1) := by decide +kernel
theorem dX10_holds_25 : decode cX10_holds 25 = .ok (.ireturn, 1) := by decide +kernel
theorem dX10_supersedes_0 : decode cX10_supersedes 0 = .ok (.aload_n 0, 1) := by decide +kernel
theorem dX10_supersedes_1 : decode cX10_supersedes 1 = .ok (.getfield 9, 3) := by decide +kernel
theorem dX10_supersedes_4 : decode cX10_supersedes 4 = .ok (.iload_n 1, 1) := by decide +kernel
theorem dX10_supersedes_5 : decode cX10_supersedes 5 = .ok (.iaload, 1) := by decide +kernel
theorem dX10_supersedes_6 : decode cX10_supersedes 6 = .ok (.aload_n 0, 1) := by decide +kernel
theorem dX10_supersedes_7 : decode cX10_supersedes 7 = .ok (.getfield 9, 3) := by decide +kernel
theorem dX10_supersedes_10 : decode cX10_supersedes 10 = .ok (.iload_n 2, 1) := by decide +kernel
theorem dX10_supersedes_11 : decode cX10_supersedes 11 = .ok (.iaload, 1) := by decide +kernel
theorem dX10_supersedes_12 : decode cX10_supersedes 12 = .ok (.if_icmp .lt 7, 3) := by decide +kernel
theorem dX10_supersedes_15 : decode cX10_supersedes 15 = .ok (.iconst 1, 1) := by decide +kernel
theorem dX10_supersedes_16 : decode cX10_supersedes 16 = .ok (.goto 4, 3) := by decide +kernel
theorem dX10_supersedes_19 : decode cX10_supersedes 19 = .ok (.iconst 0, 1) := by decide +kernel
theorem dX10_supersedes_20 : decode cX10_supersedes 20 = .ok (.ireturn, 1) := by decide +kernel
theorem dX10_latestOf_0 : decode cX10_latestOf 0 = .ok (.iconst (-1), 1) := by decide +kernel
theorem dX10_latestOf_1 : decode cX10_latestOf 1 = .ok (.istore 4, 2) := by decide +kernel
theorem dX10_latestOf_3 : decode cX10_latestOf 3 = .ok (.iconst 0, 1) := by decide +kernel
theorem dX10_latestOf_4 : decode cX10_latestOf 4 = .ok (.istore 5, 2) := by decide +kernel
theorem dX10_latestOf_6 : decode cX10_latestOf 6 = .ok (.iload 5, 2) := by decide +kernel
theorem dX10_latestOf_8 : decode cX10_latestOf 8 = .ok (.iload_n 1, 1) := by decide +kernel
theorem dX10_latestOf_9 : decode cX10_latestOf 9 = .ok (.if_icmp .ge 50, 3) := by decide +kernel
theorem dX10_latestOf_12 : decode cX10_latestOf 12 = .ok (.iload 5, 2) := by decide +kernel
theorem dX10_latestOf_14 : decode cX10_latestOf 14 = .ok (.aload_n 0, 1) := by decide +kernel
theorem dX10_latestOf_15 : decode cX10_latestOf 15 = .ok (.getfield 9, 3) := by decide +kernel
theorem dX10_latestOf_18 : decode cX10_latestOf 18 = .ok (.arraylength, 1) := by decide +kernel
theorem dX10_latestOf_19 : decode cX10_latestOf 19 = .ok (.if_icmp .ge 40, 3) := by decide +kernel
theorem dX10_latestOf_22 : decode cX10_latestOf 22 = .ok (.aload_n 0, 1) := by decide +kernel
theorem dX10_latestOf_23 : decode cX10_latestOf 23 = .ok (.iload 5, 2) := by decide +kernel
theorem dX10_latestOf_25 : decode cX10_latestOf 25 = .ok (.iload_n 2, 1) := by decide +kernel
theorem dX10_latestOf_26 : decode cX10_latestOf 26 = .ok (.iload_n 3, 1) := by decide +kernel
theorem dX10_latestOf_27 : decode cX10_latestOf 27 = .ok (.invokevirtual 24, 3) := by decide +kernel
theorem dX10_latestOf_30 : decode cX10_latestOf 30 = .ok (.ifCond .eq 23, 3) := by decide +kernel
theorem dX10_latestOf_33 : decode cX10_latestOf 33 = .ok (.iload 4, 2) := by decide +kernel
theorem dX10_latestOf_35 : decode cX10_latestOf 35 = .ok (.ifCond .lt 14, 3) := by decide +kernel
theorem dX10_latestOf_38 : decode cX10_latestOf 38 = .ok (.aload_n 0, 1) := by decide +kernel
theorem dX10_latestOf_39 : decode cX10_latestOf 39 = .ok (.iload 5, 2) := by decide +kernel
theorem dX10_latestOf_41 : decode cX10_latestOf 41 = .ok (.iload 4, 2) := by decide +kernel
theorem dX10_latestOf_43 : decode cX10_latestOf 43 = .ok (.invokevirtual 28, 3) := by decide +kernel
theorem dX10_latestOf_46 : decode cX10_latestOf 46 = .ok (.ifCond .eq 7, 3) := by decide +kernel
theorem dX10_latestOf_49 : decode cX10_latestOf 49 = .ok (.iload 5, 2) := by decide +kernel
theorem dX10_latestOf_51 : decode cX10_latestOf 51 = .ok (.istore 4, 2) := by decide +kernel
theorem dX10_latestOf_53 : decode cX10_latestOf 53 = .ok (.iinc 5 1, 3) := by decide +kernel
theorem dX10_latestOf_56 : decode cX10_latestOf 56 = .ok (.goto (-50), 3) := by decide +kernel
theorem dX10_latestOf_59 : decode cX10_latestOf 59 = .ok (.iload 4, 2) := by decide +kernel
theorem dX10_latestOf_61 : decode cX10_latestOf 61 = .ok (.ireturn, 1) := by decide +kernel
theorem dJ9_abs_0f7a4_0 : decode cJ9_abs_0f7a4 0 = .ok (.iload_n 0, 1) := by decide +kernel
theorem dJ9_abs_0f7a4_1 : decode cJ9_abs_0f7a4 1 = .ok (.ifCond .ge 8, 3) := by decide +kernel
theorem dJ9_abs_0f7a4_4 : decode cJ9_abs_0f7a4 4 = .ok (.iload_n 0, 1) := by decide +kernel
theorem dJ9_abs_0f7a4_5 : decode cJ9_abs_0f7a4 5 = .ok (.ineg, 1) := by decide +kernel
theorem dJ9_abs_0f7a4_6 : decode cJ9_abs_0f7a4 6 = .ok (.goto 4, 3) := by decide +kernel
theorem dJ9_abs_0f7a4_9 : decode cJ9_abs_0f7a4 9 = .ok (.iload_n 0, 1) := by decide +kernel
theorem dJ9_abs_0f7a4_10 : decode cJ9_abs_0f7a4 10 = .ok (.ireturn, 1) := by decide +kernel
theorem dJ9_max_7cf53_0 : decode cJ9_max_7cf53 0 = .ok (.iload_n 0, 1) := by decide +kernel
theorem dJ9_max_7cf53_1 : decode cJ9_max_7cf53 1 = .ok (.iload_n 1, 1) := by decide +kernel
theorem dJ9_max_7cf53_2 : decode cJ9_max_7cf53 2 = .ok (.if_icmp .lt 7, 3) := by decide +kernel
theorem dJ9_max_7cf53_5 : decode cJ9_max_7cf53 5 = .ok (.iload_n 0, 1) := by decide +kernel
theorem dJ9_max_7cf53_6 : decode cJ9_max_7cf53 6 = .ok (.goto 4, 3) := by decide +kernel
theorem dJ9_max_7cf53_9 : decode cJ9_max_7cf53 9 = .ok (.iload_n 1, 1) := by decide +kernel
theorem dJ9_max_7cf53_10 : decode cJ9_max_7cf53 10 = .ok (.ireturn, 1) := by decide +kernel
theorem dJ9_min_7cf53_0 : decode cJ9_min_7cf53 0 = .ok (.iload_n 0, 1) := by decide +kernel
theorem dJ9_min_7cf53_1 : decode cJ9_min_7cf53 1 = .ok (.iload_n 1, 1) := by decide +kernel
theorem dJ9_min_7cf53_2 : decode cJ9_min_7cf53 2 = .ok (.if_icmp .gt 7, 3) := by decide +kernel
theorem dJ9_min_7cf53_5 : decode cJ9_min_7cf53 5 = .ok (.iload_n 0, 1) := by decide +kernel
theorem dJ9_min_7cf53_6 : decode cJ9_min_7cf53 6 = .ok (.goto 4, 3) := by decide +kernel
theorem dJ9_min_7cf53_9 : decode cJ9_min_7cf53 9 = .ok (.iload_n 1, 1) := by decide +kernel
theorem dJ9_min_7cf53_10 : decode cJ9_min_7cf53 10 = .ok (.ireturn, 1) := by decide +kernel
theorem dJ9_min_f86c9_0 : decode cJ9_min_f86c9 0 = .ok (.lload_n 0, 1) := by decide +kernel
theorem dJ9_min_f86c9_1 : decode cJ9_min_f86c9 1 = .ok (.lload_n 2, 1) := by decide +kernel
theorem dJ9_min_f86c9_2 : decode cJ9_min_f86c9 2 = .ok (.lcmp, 1) := by decide +kernel
theorem dJ9_min_f86c9_3 : decode cJ9_min_f86c9 3 = .ok (.ifCond .gt 7, 3) := by decide +kernel
theorem dJ9_min_f86c9_6 : decode cJ9_min_f86c9 6 = .ok (.lload_n 0, 1) := by decide +kernel
theorem dJ9_min_f86c9_7 : decode cJ9_min_f86c9 7 = .ok (.goto 4, 3) := by decide +kernel
theorem dJ9_min_f86c9_10 : decode cJ9_min_f86c9 10 = .ok (.lload_n 2, 1) := by decide +kernel
theorem dJ9_min_f86c9_11 : decode cJ9_min_f86c9 11 = .ok (.lreturn, 1) := by decide +kernel
theorem dJ0_length_8abf5_0 : decode cJ0_length_8abf5 0 = .ok (.aload_n 0, 1) := by decide +kernel
theorem dJ0_length_8abf5_1 : decode cJ0_length_8abf5 1 = .ok (.getfield 9, 3) := by decide +kernel
theorem dJ0_length_8abf5_4 : decode cJ0_length_8abf5 4 = .ok (.arraylength, 1) := by decide +kernel
theorem dJ0_length_8abf5_5 : decode cJ0_length_8abf5 5 = .ok (.aload_n 0, 1) := by decide +kernel
theorem dJ0_length_8abf5_6 : decode cJ0_length_8abf5 6 = .ok (.invokevirtual 335, 3) := by decide +kernel
theorem dJ0_length_8abf5_9 : decode cJ0_length_8abf5 9 = .ok (.ishr, 1) := by decide +kernel
theorem dJ0_length_8abf5_10 : decode cJ0_length_8abf5 10 = .ok (.ireturn, 1) := by decide +kernel
theorem dJ0_charAt_5068e_0 : decode cJ0_charAt_5068e 0 = .ok (.aload_n 0, 1) := by decide +kernel
theorem dJ0_charAt_5068e_1 : decode cJ0_charAt_5068e 1 = .ok (.invokevirtual 492, 3) := by decide +kernel
theorem dJ0_charAt_5068e_4 : decode cJ0_charAt_5068e 4 = .ok (.ifCond .eq 12, 3) := by decide +kernel
theorem dJ0_charAt_5068e_7 : decode cJ0_charAt_5068e 7 = .ok (.aload_n 0, 1) := by decide +kernel
theorem dJ0_charAt_5068e_8 : decode cJ0_charAt_5068e 8 = .ok (.getfield 9, 3) := by decide +kernel
theorem dJ0_charAt_5068e_11 : decode cJ0_charAt_5068e 11 = .ok (.iload_n 1, 1) := by decide +kernel
theorem dJ0_charAt_5068e_12 : decode cJ0_charAt_5068e 12 = .ok (.invokestatic 495, 3) := by decide +kernel
theorem dJ0_charAt_5068e_15 : decode cJ0_charAt_5068e 15 = .ok (.ireturn, 1) := by decide +kernel
theorem dJ0_charAt_5068e_16 : decode cJ0_charAt_5068e 16 = .ok (.aload_n 0, 1) := by decide +kernel
theorem dJ0_charAt_5068e_17 : decode cJ0_charAt_5068e 17 = .ok (.getfield 9, 3) := by decide +kernel
theorem dJ0_charAt_5068e_20 : decode cJ0_charAt_5068e 20 = .ok (.iload_n 1, 1) := by decide +kernel
theorem dJ0_charAt_5068e_21 : decode cJ0_charAt_5068e 21 = .ok (.invokestatic 498, 3) := by decide +kernel
theorem dJ0_charAt_5068e_24 : decode cJ0_charAt_5068e 24 = .ok (.ireturn, 1) := by decide +kernel
theorem dJ0_coder_7d493_0 : decode cJ0_coder_7d493 0 = .ok (.getstatic 38, 3) := by decide +kernel
theorem dJ0_coder_7d493_3 : decode cJ0_coder_7d493 3 = .ok (.ifCond .eq 10, 3) := by decide +kernel
theorem dJ0_coder_7d493_6 : decode cJ0_coder_7d493 6 = .ok (.aload_n 0, 1) := by decide +kernel
theorem dJ0_coder_7d493_7 : decode cJ0_coder_7d493 7 = .ok (.getfield 15, 3) := by decide +kernel
theorem dJ0_coder_7d493_10 : decode cJ0_coder_7d493 10 = .ok (.goto 4, 3) := by decide +kernel
theorem dJ0_coder_7d493_13 : decode cJ0_coder_7d493 13 = .ok (.iconst 1, 1) := by decide +kernel
theorem dJ0_coder_7d493_14 : decode cJ0_coder_7d493 14 = .ok (.ireturn, 1) := by decide +kernel
theorem dJ0_isLatin1_aae02_0 : decode cJ0_isLatin1_aae02 0 = .ok (.getstatic 38, 3) := by decide +kernel
theorem dJ0_isLatin1_aae02_3 : decode cJ0_isLatin1_aae02 3 = .ok (.ifCond .eq 14, 3) := by decide +kernel
theorem dJ0_isLatin1_aae02_6 : decode cJ0_isLatin1_aae02 6 = .ok (.aload_n 0, 1) := by decide +kernel
theorem dJ0_isLatin1_aae02_7 : decode cJ0_isLatin1_aae02 7 = .ok (.getfield 15, 3) := by decide +kernel
theorem dJ0_isLatin1_aae02_10 : decode cJ0_isLatin1_aae02 10 = .ok (.ifCond .ne 7, 3) := by decide +kernel
theorem dJ0_isLatin1_aae02_13 : decode cJ0_isLatin1_aae02 13 = .ok (.iconst 1, 1) := by decide +kernel
theorem dJ0_isLatin1_aae02_14 : decode cJ0_isLatin1_aae02 14 = .ok (.goto 4, 3) := by decide +kernel
theorem dJ0_isLatin1_aae02_17 : decode cJ0_isLatin1_aae02 17 = .ok (.iconst 0, 1) := by decide +kernel
theorem dJ0_isLatin1_aae02_18 : decode cJ0_isLatin1_aae02 18 = .ok (.ireturn, 1) := by decide +kernel
theorem dJ0_checkIndex_df160_0 : decode cJ0_checkIndex_df160 0 = .ok (.iload_n 0, 1) := by decide +kernel
theorem dJ0_checkIndex_df160_1 : decode cJ0_checkIndex_df160 1 = .ok (.iload_n 1, 1) := by decide +kernel
theorem dJ0_checkIndex_df160_2 : decode cJ0_checkIndex_df160 2 = .ok (.getstatic 1053, 3) := by decide +kernel
theorem dJ0_checkIndex_df160_5 : decode cJ0_checkIndex_df160 5 = .ok (.invokestatic 1059, 3) := by decide +kernel
theorem dJ0_checkIndex_df160_8 : decode cJ0_checkIndex_df160 8 = .ok (.pop, 1) := by decide +kernel
theorem dJ0_checkIndex_df160_9 : decode cJ0_checkIndex_df160 9 = .ok (.return_, 1) := by decide +kernel
theorem dJ1_charAt_3b067_0 : decode cJ1_charAt_3b067 0 = .ok (.iload_n 1, 1) := by decide +kernel
theorem dJ1_charAt_3b067_1 : decode cJ1_charAt_3b067 1 = .ok (.aload_n 0, 1) := by decide +kernel
theorem dJ1_charAt_3b067_2 : decode cJ1_charAt_3b067 2 = .ok (.arraylength, 1) := by decide +kernel
theorem dJ1_charAt_3b067_3 : decode cJ1_charAt_3b067 3 = .ok (.invokestatic 9, 3) := by decide +kernel
theorem dJ1_charAt_3b067_6 : decode cJ1_charAt_3b067 6 = .ok (.aload_n 0, 1) := by decide +kernel
theorem dJ1_charAt_3b067_7 : decode cJ1_charAt_3b067 7 = .ok (.iload_n 1, 1) := by decide +kernel
theorem dJ1_charAt_3b067_8 : decode cJ1_charAt_3b067 8 = .ok (.baload, 1) := by decide +kernel
theorem dJ1_charAt_3b067_9 : decode cJ1_charAt_3b067 9 = .ok (.sipush 255, 3) := by decide +kernel
theorem dJ1_charAt_3b067_12 : decode cJ1_charAt_3b067 12 = .ok (.iand, 1) := by decide +kernel
theorem dJ1_charAt_3b067_13 : decode cJ1_charAt_3b067 13 = .ok (.i2c, 1) := by decide +kernel
theorem dJ1_charAt_3b067_14 : decode cJ1_charAt_3b067 14 = .ok (.ireturn, 1) := by decide +kernel
theorem dJ2_getChar_3b067_0 : decode cJ2_getChar_3b067 0 = .ok (.getstatic 44, 3) := by decide +kernel
theorem dJ2_getChar_3b067_3 : decode cJ2_getChar_3b067 3 = .ok (.ifCond .ne 25, 3) := by decide +kernel
theorem dJ2_getChar_3b067_6 : decode cJ2_getChar_3b067 6 = .ok (.iload_n 1, 1) := by decide +kernel
theorem dJ2_getChar_3b067_7 : decode cJ2_getChar_3b067 7 = .ok (.ifCond .lt 11, 3) := by decide +kernel
theorem dJ2_getChar_3b067_10 : decode cJ2_getChar_3b067 10 = .ok (.iload_n 1, 1) := by decide +kernel
theorem dJ2_getChar_3b067_11 : decode cJ2_getChar_3b067 11 = .ok (.aload_n 0, 1) := by decide +kernel
theorem dJ2_getChar_3b067_12 : decode cJ2_getChar_3b067 12 = .ok (.invokestatic 48, 3) := by decide +kernel
theorem dJ2_getChar_3b067_15 : decode cJ2_getChar_3b067 15 = .ok (.if_icmp .lt 13, 3) := by decide +kernel
theorem dJ2_getChar_3b067_18 : decode cJ2_getChar_3b067 18 = .ok (.new 52, 3) := by decide +kernel
theorem dJ2_getChar_3b067_21 : decode cJ2_getChar_3b067 21 = .ok (.dup, 1) := by decide +kernel
theorem dJ2_getChar_3b067_22 : decode cJ2_getChar_3b067 22 = .ok (.ldc 54, 2) := by decide +kernel
theorem dJ2_getChar_3b067_24 : decode cJ2_getChar_3b067 24 = .ok (.invokespecial 56, 3) := by decide +kernel
theorem dJ2_getChar_3b067_27 : decode cJ2_getChar_3b067 27 = .ok (.athrow, 1) := by decide +kernel
theorem dJ2_getChar_3b067_28 : decode cJ2_getChar_3b067 28 = .ok (.iload_n 1, 1) := by decide +kernel
theorem dJ2_getChar_3b067_29 : decode cJ2_getChar_3b067 29 = .ok (.iconst 1, 1) := by decide +kernel
theorem dJ2_getChar_3b067_30 : decode cJ2_getChar_3b067 30 = .ok (.ishl, 1) := by decide +kernel
theorem dJ2_getChar_3b067_31 : decode cJ2_getChar_3b067 31 = .ok (.istore_n 1, 1) := by decide +kernel
theorem dJ2_getChar_3b067_32 : decode cJ2_getChar_3b067 32 = .ok (.aload_n 0, 1) := by decide +kernel
theorem dJ2_getChar_3b067_33 : decode cJ2_getChar_3b067 33 = .ok (.iload_n 1, 1) := by decide +kernel
theorem dJ2_getChar_3b067_34 : decode cJ2_getChar_3b067 34 = .ok (.iinc 1 1, 3) := by decide +kernel
theorem dJ2_getChar_3b067_37 : decode cJ2_getChar_3b067 37 = .ok (.baload, 1) := by decide +kernel
theorem dJ2_getChar_3b067_38 : decode cJ2_getChar_3b067 38 = .ok (.sipush 255, 3) := by decide +kernel
theorem dJ2_getChar_3b067_41 : decode cJ2_getChar_3b067 41 = .ok (.iand, 1) := by decide +kernel
theorem dJ2_getChar_3b067_42 : decode cJ2_getChar_3b067 42 = .ok (.getstatic 59, 3) := by decide +kernel
theorem dJ2_getChar_3b067_45 : decode cJ2_getChar_3b067 45 = .ok (.ishl, 1) := by decide +kernel
theorem dJ2_getChar_3b067_46 : decode cJ2_getChar_3b067 46 = .ok (.aload_n 0, 1) := by decide +kernel
theorem dJ2_getChar_3b067_47 : decode cJ2_getChar_3b067 47 = .ok (.iload_n 1, 1) := by decide +kernel
theorem dJ2_getChar_3b067_48 : decode cJ2_getChar_3b067 48 = .ok (.baload, 1) := by decide +kernel
theorem dJ2_getChar_3b067_49 : decode cJ2_getChar_3b067 49 = .ok (.sipush 255, 3) := by decide +kernel
theorem dJ2_getChar_3b067_52 : decode cJ2_getChar_3b067 52 = .ok (.iand, 1) := by decide +kernel
theorem dJ2_getChar_3b067_53 : decode cJ2_getChar_3b067 53 = .ok (.getstatic 63, 3) := by decide +kernel
theorem dJ2_getChar_3b067_56 : decode cJ2_getChar_3b067 56 = .ok (.ishl, 1) := by decide +kernel
theorem dJ2_getChar_3b067_57 : decode cJ2_getChar_3b067 57 = .ok (.ior, 1) := by decide +kernel
theorem dJ2_getChar_3b067_58 : decode cJ2_getChar_3b067 58 = .ok (.i2c, 1) := by decide +kernel
theorem dJ2_getChar_3b067_59 : decode cJ2_getChar_3b067 59 = .ok (.ireturn, 1) := by decide +kernel
theorem dJ2_length_9d52b_0 : decode cJ2_length_9d52b 0 = .ok (.aload_n 0, 1) := by decide +kernel
theorem dJ2_length_9d52b_1 : decode cJ2_length_9d52b 1 = .ok (.arraylength, 1) := by decide +kernel
theorem dJ2_length_9d52b_2 : decode cJ2_length_9d52b 2 = .ok (.iconst 1, 1) := by decide +kernel
theorem dJ2_length_9d52b_3 : decode cJ2_length_9d52b 3 = .ok (.ishr, 1) := by decide +kernel
theorem dJ2_length_9d52b_4 : decode cJ2_length_9d52b 4 = .ok (.ireturn, 1) := by decide +kernel
theorem dJ2_charAt_3b067_0 : decode cJ2_charAt_3b067 0 = .ok (.iload_n 1, 1) := by decide +kernel
theorem dJ2_charAt_3b067_1 : decode cJ2_charAt_3b067 1 = .ok (.aload_n 0, 1) := by decide +kernel
theorem dJ2_charAt_3b067_2 : decode cJ2_charAt_3b067 2 = .ok (.invokestatic 67, 3) := by decide +kernel
theorem dJ2_charAt_3b067_5 : decode cJ2_charAt_3b067 5 = .ok (.aload_n 0, 1) := by decide +kernel
theorem dJ2_charAt_3b067_6 : decode cJ2_charAt_3b067 6 = .ok (.iload_n 1, 1) := by decide +kernel
theorem dJ2_charAt_3b067_7 : decode cJ2_charAt_3b067 7 = .ok (.invokestatic 71, 3) := by decide +kernel
theorem dJ2_charAt_3b067_10 : decode cJ2_charAt_3b067 10 = .ok (.ireturn, 1) := by decide +kernel
theorem dJ2_checkIndex_2214a_0 : decode cJ2_checkIndex_2214a 0 = .ok (.iload_n 0, 1) := by decide +kernel
theorem dJ2_checkIndex_2214a_1 : decode cJ2_checkIndex_2214a 1 = .ok (.aload_n 1, 1) := by decide +kernel
theorem dJ2_checkIndex_2214a_2 : decode cJ2_checkIndex_2214a 2 = .ok (.invokestatic 48, 3) := by decide +kernel
theorem dJ2_checkIndex_2214a_5 : decode cJ2_checkIndex_2214a 5 = .ok (.invokestatic 414, 3) := by decide +kernel
theorem dJ2_checkIndex_2214a_8 : decode cJ2_checkIndex_2214a 8 = .ok (.return_, 1) := by decide +kernel
theorem dJ3_checkIndex_8e157_0 : decode cJ3_checkIndex_8e157 0 = .ok (.iload_n 0, 1) := by decide +kernel
theorem dJ3_checkIndex_8e157_1 : decode cJ3_checkIndex_8e157 1 = .ok (.ifCond .lt 8, 3) := by decide +kernel
theorem dJ3_checkIndex_8e157_4 : decode cJ3_checkIndex_8e157 4 = .ok (.iload_n 0, 1) := by decide +kernel
theorem dJ3_checkIndex_8e157_5 : decode cJ3_checkIndex_8e157 5 = .ok (.iload_n 1, 1) := by decide +kernel
theorem dJ3_checkIndex_8e157_6 : decode cJ3_checkIndex_8e157 6 = .ok (.if_icmp .lt 10, 3) := by decide +kernel
theorem dJ3_checkIndex_8e157_9 : decode cJ3_checkIndex_8e157 9 = .ok (.aload_n 2, 1) := by decide +kernel
theorem dJ3_checkIndex_8e157_10 : decode cJ3_checkIndex_8e157 10 = .ok (.iload_n 0, 1) := by decide +kernel
theorem dJ3_checkIndex_8e157_11 : decode cJ3_checkIndex_8e157 11 = .ok (.iload_n 1, 1) := by decide +kernel
theorem dJ3_checkIndex_8e157_12 : decode cJ3_checkIndex_8e157 12 = .ok (.invokestatic 95, 3) := by decide +kernel
theorem dJ3_checkIndex_8e157_15 : decode cJ3_checkIndex_8e157 15 = .ok (.athrow, 1) := by decide +kernel
theorem dJ3_checkIndex_8e157_16 : decode cJ3_checkIndex_8e157 16 = .ok (.iload_n 0, 1) := by decide +kernel
theorem dJ3_checkIndex_8e157_17 : decode cJ3_checkIndex_8e157 17 = .ok (.ireturn, 1) := by decide +kernel
theorem dJ7_fill_53178_0 : decode cJ7_fill_53178 0 = .ok (.iconst 0, 1) := by decide +kernel
theorem dJ7_fill_53178_1 : decode cJ7_fill_53178 1 = .ok (.istore_n 2, 1) := by decide +kernel
theorem dJ7_fill_53178_2 : decode cJ7_fill_53178 2 = .ok (.aload_n 0, 1) := by decide +kernel
theorem dJ7_fill_53178_3 : decode cJ7_fill_53178 3 = .ok (.arraylength, 1) := by decide +kernel
theorem dJ7_fill_53178_4 : decode cJ7_fill_53178 4 = .ok (.istore_n 3, 1) := by decide +kernel
theorem dJ7_fill_53178_5 : decode cJ7_fill_53178 5 = .ok (.iload_n 2, 1) := by decide +kernel
theorem dJ7_fill_53178_6 : decode cJ7_fill_53178 6 = .ok (.iload_n 3, 1) := by decide +kernel
theorem dJ7_fill_53178_7 : decode cJ7_fill_53178 7 = .ok (.if_icmp .ge 13, 3) := by decide +kernel
theorem dJ7_fill_53178_10 : decode cJ7_fill_53178 10 = .ok (.aload_n 0, 1) := by decide +kernel
theorem dJ7_fill_53178_11 : decode cJ7_fill_53178 11 = .ok (.iload_n 2, 1) := by decide +kernel
theorem dJ7_fill_53178_12 : decode cJ7_fill_53178 12 = .ok (.iload_n 1, 1) := by decide +kernel
theorem dJ7_fill_53178_13 : decode cJ7_fill_53178 13 = .ok (.iastore, 1) := by decide +kernel
theorem dJ7_fill_53178_14 : decode cJ7_fill_53178 14 = .ok (.iinc 2 1, 3) := by decide +kernel
theorem dJ7_fill_53178_17 : decode cJ7_fill_53178 17 = .ok (.goto (-12), 3) := by decide +kernel
theorem dJ7_fill_53178_20 : decode cJ7_fill_53178 20 = .ok (.return_, 1) := by decide +kernel
end
section
theorem dX11_init_0 : decode cX11_init 0 = .ok (.aload_n 0, 1) := by decide +kernel
theorem dX11_init_1 : decode cX11_init 1 = .ok (.invokespecial 1, 3) := by decide +kernel
theorem dX11_init_4 : decode cX11_init 4 = .ok (.aload_n 0, 1) := by decide +kernel
theorem dX11_init_5 : decode cX11_init 5 = .ok (.new 7, 3) := by decide +kernel
theorem dX11_init_8 : decode cX11_init 8 = .ok (.dup, 1) := by decide +kernel
theorem dX11_init_9 : decode cX11_init 9 = .ok (.invokespecial 9, 3) := by decide +kernel
theorem dX11_init_12 : decode cX11_init 12 = .ok (.putfield 10, 3) := by decide +kernel
theorem dX11_init_15 : decode cX11_init 15 = .ok (.aload_n 0, 1) := by decide +kernel
theorem dX11_init_16 : decode cX11_init 16 = .ok (.new 16, 3) := by decide +kernel
theorem dX11_init_19 : decode cX11_init 19 = .ok (.dup, 1) := by decide +kernel
theorem dX11_init_20 : decode cX11_init 20 = .ok (.invokespecial 18, 3) := by decide +kernel
theorem dX11_init_23 : decode cX11_init 23 = .ok (.putfield 19, 3) := by decide +kernel
theorem dX11_init_26 : decode cX11_init 26 = .ok (.aload_n 0, 1) := by decide +kernel
theorem dX11_init_27 : decode cX11_init 27 = .ok (.new 23, 3) := by decide +kernel
theorem dX11_init_30 : decode cX11_init 30 = .ok (.dup, 1) := by decide +kernel
theorem dX11_init_31 : decode cX11_init 31 = .ok (.invokespecial 25, 3) := by decide +kernel
theorem dX11_init_34 : decode cX11_init 34 = .ok (.putfield 26, 3) := by decide +kernel
theorem dX11_init_37 : decode cX11_init 37 = .ok (.aload_n 0, 1) := by decide +kernel
theorem dX11_init_38 : decode cX11_init 38 = .ok (.new 30, 3) := by decide +kernel
theorem dX11_init_41 : decode cX11_init 41 = .ok (.dup, 1) := by decide +kernel
theorem dX11_init_42 : decode cX11_init 42 = .ok (.invokespecial 32, 3) := by decide +kernel
theorem dX11_init_45 : decode cX11_init 45 = .ok (.putfield 33, 3) := by decide +kernel
theorem dX11_init_48 : decode cX11_init 48 = .ok (.aload_n 0, 1) := by decide +kernel
theorem dX11_init_49 : decode cX11_init 49 = .ok (.bipush 6, 2) := by decide +kernel
theorem dX11_init_51 : decode cX11_init 51 = .ok (.anewarray 37, 3) := by decide +kernel
theorem dX11_init_54 : decode cX11_init 54 = .ok (.putfield 39, 3) := by decide +kernel
theorem dX11_init_57 : decode cX11_init 57 = .ok (.aload_n 0, 1) := by decide +kernel
theorem dX11_init_58 : decode cX11_init 58 = .ok (.new 43, 3) := by decide +kernel
theorem dX11_init_61 : decode cX11_init 61 = .ok (.dup, 1) := by decide +kernel
theorem dX11_init_62 : decode cX11_init 62 = .ok (.bipush 6, 2) := by decide +kernel
theorem dX11_init_64 : decode cX11_init 64 = .ok (.invokespecial 45, 3) := by decide +kernel
theorem dX11_init_67 : decode cX11_init 67 = .ok (.putfield 48, 3) := by decide +kernel
theorem dX11_init_70 : decode cX11_init 70 = .ok (.aload_n 0, 1) := by decide +kernel
theorem dX11_init_71 : decode cX11_init 71 = .ok (.new 52, 3) := by decide +kernel
theorem dX11_init_74 : decode cX11_init 74 = .ok (.dup, 1) := by decide +kernel
theorem dX11_init_75 : decode cX11_init 75 = .ok (.invokespecial 54, 3) := by decide +kernel
theorem dX11_init_78 : decode cX11_init 78 = .ok (.putfield 55, 3) := by decide +kernel
theorem dX11_init_81 : decode cX11_init 81 = .ok (.aload_n 0, 1) := by decide +kernel
theorem dX11_init_82 : decode cX11_init 82 = .ok (.bipush 8, 2) := by decide +kernel
theorem dX11_init_84 : decode cX11_init 84 = .ok (.anewarray 59, 3) := by decide +kernel
theorem dX11_init_87 : decode cX11_init 87 = .ok (.putfield 61, 3) := by decide +kernel
theorem dX11_init_90 : decode cX11_init 90 = .ok (.aload_n 0, 1) := by decide +kernel
theorem dX11_init_91 : decode cX11_init 91 = .ok (.new 65, 3) := by decide +kernel
theorem dX11_init_94 : decode cX11_init 94 = .ok (.dup, 1) := by decide +kernel
theorem dX11_init_95 : decode cX11_init 95 = .ok (.invokespecial 67, 3) := by decide +kernel
theorem dX11_init_98 : decode cX11_init 98 = .ok (.putfield 68, 3) := by decide +kernel
theorem dX11_init_101 : decode cX11_init 101 = .ok (.iconst 0, 1) := by decide +kernel
theorem dX11_init_102 : decode cX11_init 102 = .ok (.istore_n 1, 1) := by decide +kernel
theorem dX11_init_103 : decode cX11_init 103 = .ok (.iload_n 1, 1) := by decide +kernel
theorem dX11_init_104 : decode cX11_init 104 = .ok (.bipush 6, 2) := by decide +kernel
theorem dX11_init_106 : decode cX11_init 106 = .ok (.if_icmp .ge 22, 3) := by decide +kernel
theorem dX11_init_109 : decode cX11_init 109 = .ok (.aload_n 0, 1) := by decide +kernel
theorem dX11_init_110 : decode cX11_init 110 = .ok (.getfield 39, 3) := by decide +kernel
theorem dX11_init_113 : decode cX11_init 113 = .ok (.iload_n 1, 1) := by decide +kernel
theorem dX11_init_114 : decode cX11_init 114 = .ok (.new 37, 3) := by decide +kernel
theorem dX11_init_117 : decode cX11_init 117 = .ok (.dup, 1) := by decide +kernel
theorem dX11_init_118 : decode cX11_init 118 = .ok (.invokespecial 72, 3) := by decide +kernel
theorem dX11_init_121 : decode cX11_init 121 = .ok (.aastore, 1) := by decide +kernel
theorem dX11_init_122 : decode cX11_init 122 = .ok (.iinc 1 1, 3) := by decide +kernel
theorem dX11_init_125 : decode cX11_init 125 = .ok (.goto (-22), 3) := by decide +kernel
theorem dX11_init_128 : decode cX11_init 128 = .ok (.iconst 0, 1) := by decide +kernel
theorem dX11_init_129 : decode cX11_init 129 = .ok (.istore_n 1, 1) := by decide +kernel
theorem dX11_init_130 : decode cX11_init 130 = .ok (.iload_n 1, 1) := by decide +kernel
theorem dX11_init_131 : decode cX11_init 131 = .ok (.bipush 8, 2) := by decide +kernel
theorem dX11_init_133 : decode cX11_init 133 = .ok (.if_icmp .ge 22, 3) := by decide +kernel
theorem dX11_init_136 : decode cX11_init 136 = .ok (.aload_n 0, 1) := by decide +kernel
theorem dX11_init_137 : decode cX11_init 137 = .ok (.getfield 61, 3) := by decide +kernel
theorem dX11_init_140 : decode cX11_init 140 = .ok (.iload_n 1, 1) := by decide +kernel
theorem dX11_init_141 : decode cX11_init 141 = .ok (.new 59, 3) := by decide +kernel
theorem dX11_init_144 : decode cX11_init 144 = .ok (.dup, 1) := by decide +kernel
theorem dX11_init_145 : decode cX11_init 145 = .ok (.invokespecial 73, 3) := by decide +kernel
theorem dX11_init_148 : decode cX11_init 148 = .ok (.aastore, 1) := by decide +kernel
theorem dX11_init_149 : decode cX11_init 149 = .ok (.iinc 1 1, 3) := by decide +kernel
theorem dX11_init_152 : decode cX11_init 152 = .ok (.goto (-22), 3) := by decide +kernel
theorem dX11_init_155 : decode cX11_init 155 = .ok (.return_, 1) := by decide +kernel
theorem dX11_clock_0 : decode cX11_clock 0 = .ok (.iload_n 1, 1) := by decide +kernel
theorem dX11_clock_1 : decode cX11_clock 1 = .ok (.aload_n 0, 1) := by decide +kernel
theorem dX11_clock_2 : decode cX11_clock 2 = .ok (.getfield 74, 3) := by decide +kernel
theorem dX11_clock_5 : decode cX11_clock 5 = .ok (.sipush 5000, 3) := by decide +kernel
theorem dX11_clock_8 : decode cX11_clock 8 = .ok (.invokestatic 78, 3) := by decide +kernel
theorem dX11_clock_11 : decode cX11_clock 11 = .ok (.ifCond .ne 5, 3) := by decide +kernel
theorem dX11_clock_14 : decode cX11_clock 14 = .ok (.iconst 0, 1) := by decide +kernel
theorem dX11_clock_15 : decode cX11_clock 15 = .ok (.ireturn, 1) := by decide +kernel
theorem dX11_clock_16 : decode cX11_clock 16 = .ok (.aload_n 0, 1) := by decide +kernel
theorem dX11_clock_17 : decode cX11_clock 17 = .ok (.iload_n 1, 1) := by decide +kernel
theorem dX11_clock_18 : decode cX11_clock 18 = .ok (.putfield 74, 3) := by decide +kernel
theorem dX11_clock_21 : decode cX11_clock 21 = .ok (.iconst 1, 1) := by decide +kernel
theorem dX11_clock_22 : decode cX11_clock 22 = .ok (.ireturn, 1) := by decide +kernel
theorem dX11_trust_0 : decode cX11_trust 0 = .ok (.iload_n 1, 1) := by decide +kernel
theorem dX11_trust_1 : decode cX11_trust 1 = .ok (.iconst 0, 1) := by decide +kernel
theorem dX11_trust_2 : decode cX11_trust 2 = .ok (.iconst 5, 1) := by decide +kernel
theorem dX11_trust_3 : decode cX11_trust 3 = .ok (.invokestatic 78, 3) := by decide +kernel
theorem dX11_trust_6 : decode cX11_trust 6 = .ok (.ifCond .eq 13, 3) := by decide +kernel
theorem dX11_trust_9 : decode cX11_trust 9 = .ok (.iload_n 2, 1) := by decide +kernel
theorem dX11_trust_10 : decode cX11_trust 10 = .ok (.iconst 0, 1) := by decide +kernel
theorem dX11_trust_11 : decode cX11_trust 11 = .ok (.bipush 9, 2) := by decide +kernel
theorem dX11_trust_13 : decode cX11_trust 13 = .ok (.invokestatic 78, 3) := by decide +kernel
theorem dX11_trust_16 : decode cX11_trust 16 = .ok (.ifCond .ne 5, 3) := by decide +kernel
theorem dX11_trust_19 : decode cX11_trust 19 = .ok (.iconst (-1), 1) := by decide +kernel
theorem dX11_trust_20 : decode cX11_trust 20 = .ok (.ireturn, 1) := by decide +kernel
theorem dX11_trust_21 : decode cX11_trust 21 = .ok (.aload_n 0, 1) := by decide +kernel
theorem dX11_trust_22 : decode cX11_trust 22 = .ok (.getfield 10, 3) := by decide +kernel
theorem dX11_trust_25 : decode cX11_trust 25 = .ok (.iload_n 1, 1) := by decide +kernel
theorem dX11_trust_26 : decode cX11_trust 26 = .ok (.iload_n 2, 1) := by decide +kernel
theorem dX11_trust_27 : decode cX11_trust 27 = .ok (.invokevirtual 82, 3) := by decide +kernel
theorem dX11_trust_30 : decode cX11_trust 30 = .ok (.ireturn, 1) := by decide +kernel
theorem dX11_says_0 : decode cX11_says 0 = .ok (.iload_n 1, 1) := by decide +kernel
theorem dX11_says_1 : decode cX11_says 1 = .ok (.iconst 0, 1) := by decide +kernel
theorem dX11_says_2 : decode cX11_says 2 = .ok (.iconst 5, 1) := by decide +kernel
theorem dX11_says_3 : decode cX11_says 3 = .ok (.invokestatic 78, 3) := by decide +kernel
theorem dX11_says_6 : decode cX11_says 6 = .ok (.ifCond .eq 26, 3) := by decide +kernel
theorem dX11_says_9 : decode cX11_says 9 = .ok (.iload_n 2, 1) := by decide +kernel
theorem dX11_says_10 : decode cX11_says 10 = .ok (.invokestatic 86, 3) := by decide +kernel
theorem dX11_says_13 : decode cX11_says 13 = .ok (.ifCond .eq 19, 3) := by decide +kernel
theorem dX11_says_16 : decode cX11_says 16 = .ok (.iload_n 3, 1) := by decide +kernel
theorem dX11_says_17 : decode cX11_says 17 = .ok (.invokestatic 86, 3) := by decide +kernel
theorem dX11_says_20 : decode cX11_says 20 = .ok (.ifCond .eq 12, 3) := by decide +kernel
theorem dX11_says_23 : decode cX11_says 23 = .ok (.iload_n 2, 1) := by decide +kernel
theorem dX11_says_24 : decode cX11_says 24 = .ok (.iload_n 3, 1) := by decide +kernel
theorem dX11_says_25 : decode cX11_says 25 = .ok (.if_icmp .eq 7, 3) := by decide +kernel
theorem dX11_says_28 : decode cX11_says 28 = .ok (.iconst 1, 1) := by decide +kernel
theorem dX11_says_29 : decode cX11_says 29 = .ok (.goto 4, 3) := by decide +kernel
theorem dX11_says_32 : decode cX11_says 32 = .ok (.iconst 0, 1) := by decide +kernel
theorem dX11_says_33 : decode cX11_says 33 = .ok (.istore 6, 2) := by decide +kernel
theorem dX11_says_35 : decode cX11_says 35 = .ok (.iload 4, 2) := by decide +kernel
theorem dX11_says_37 : decode cX11_says 37 = .ok (.iload 5, 2) := by decide +kernel
theorem dX11_says_39 : decode cX11_says 39 = .ok (.if_icmp .gt 23, 3) := by decide +kernel
theorem dX11_says_42 : decode cX11_says 42 = .ok (.iload 4, 2) := by decide +kernel
theorem dX11_says_44 : decode cX11_says 44 = .ok (.sipush (-10000), 3) := by decide +kernel
theorem dX11_says_47 : decode cX11_says 47 = .ok (.if_icmp .lt 15, 3) := by decide +kernel
theorem dX11_says_50 : decode cX11_says 50 = .ok (.iload 5, 2) := by decide +kernel
theorem dX11_says_52 : decode cX11_says 52 = .ok (.sipush 10000, 3) := by decide +kernel
theorem dX11_says_55 : decode cX11_says 55 = .ok (.if_icmp .gt 7, 3) := by decide +kernel
theorem dX11_says_58 : decode cX11_says 58 = .ok (.iconst 1, 1) := by decide +kernel
theorem dX11_says_59 : decode cX11_says 59 = .ok (.goto 4, 3) := by decide +kernel
theorem dX11_says_62 : decode cX11_says 62 = .ok (.iconst 0, 1) := by decide +kernel
theorem dX11_says_63 : decode cX11_says 63 = .ok (.istore 7, 2) := by decide +kernel
theorem dX11_says_65 : decode cX11_says 65 = .ok (.iload 6, 2) := by decide +kernel
theorem dX11_says_67 : decode cX11_says 67 = .ok (.ifCond .eq 8, 3) := by decide +kernel
theorem dX11_says_70 : decode cX11_says 70 = .ok (.iload 7, 2) := by decide +kernel
theorem dX11_says_72 : decode cX11_says 72 = .ok (.ifCond .ne 5, 3) := by decide +kernel
theorem dX11_says_75 : decode cX11_says 75 = .ok (.iconst (-1), 1) := by decide +kernel
theorem dX11_says_76 : decode cX11_says 76 = .ok (.ireturn, 1) := by decide +kernel
theorem dX11_says_77 : decode cX11_says 77 = .ok (.aload_n 0, 1) := by decide +kernel
theorem dX11_says_78 : decode cX11_says 78 = .ok (.getfield 10, 3) := by decide +kernel
theorem dX11_says_81 : decode cX11_says 81 = .ok (.iload_n 1, 1) := by decide +kernel
theorem dX11_says_82 : decode cX11_says 82 = .ok (.iload_n 2, 1) := by decide +kernel
theorem dX11_says_83 : decode cX11_says 83 = .ok (.iload_n 3, 1) := by decide +kernel
theorem dX11_says_84 : decode cX11_says 84 = .ok (.iload 4, 2) := by decide +kernel
theorem dX11_says_86 : decode cX11_says 86 = .ok (.iload 5, 2) := by decide +kernel
theorem dX11_says_88 : decode cX11_says 88 = .ok (.invokevirtual 90, 3) := by decide +kernel
theorem dX11_says_91 : decode cX11_says 91 = .ok (.ireturn, 1) := by decide +kernel
theorem dX11_believed_0 : decode cX11_believed 0 = .ok (.aload_n 0, 1) := by decide +kernel
theorem dX11_believed_1 : decode cX11_believed 1 = .ok (.getfield 10, 3) := by decide +kernel
theorem dX11_believed_4 : decode cX11_believed 4 = .ok (.iload_n 1, 1) := by decide +kernel
theorem dX11_believed_5 : decode cX11_believed 5 = .ok (.invokevirtual 94, 3) := by decide +kernel
theorem dX11_believed_8 : decode cX11_believed 8 = .ok (.ifCond .ne 5, 3) := by decide +kernel
theorem dX11_believed_11 : decode cX11_believed 11 = .ok (.iconst (-1), 1) := by decide +kernel
theorem dX11_believed_12 : decode cX11_believed 12 = .ok (.ireturn, 1) := by decide +kernel
theorem dX11_believed_13 : decode cX11_believed 13 = .ok (.aload_n 0, 1) := by decide +kernel
theorem dX11_believed_14 : decode cX11_believed 14 = .ok (.getfield 10, 3) := by decide +kernel
theorem dX11_believed_17 : decode cX11_believed 17 = .ok (.iload_n 1, 1) := by decide +kernel
theorem dX11_believed_18 : decode cX11_believed 18 = .ok (.invokevirtual 97, 3) := by decide +kernel
theorem dX11_believed_21 : decode cX11_believed 21 = .ok (.ifCond .eq 7, 3) := by decide +kernel
theorem dX11_believed_24 : decode cX11_believed 24 = .ok (.iconst 1, 1) := by decide +kernel
theorem dX11_believed_25 : decode cX11_believed 25 = .ok (.goto 4, 3) := by decide +kernel
theorem dX11_believed_28 : decode cX11_believed 28 = .ok (.iconst 0, 1) := by decide +kernel
theorem dX11_believed_29 : decode cX11_believed 29 = .ok (.ireturn, 1) := by decide +kernel
theorem dX11_spans_0 : decode cX11_spans 0 = .ok (.iload_n 1, 1) := by decide +kernel
theorem dX11_spans_1 : decode cX11_spans 1 = .ok (.invokestatic 86, 3) := by decide +kernel
theorem dX11_spans_4 : decode cX11_spans 4 = .ok (.ifCond .eq 19, 3) := by decide +kernel
theorem dX11_spans_7 : decode cX11_spans 7 = .ok (.iload_n 2, 1) := by decide +kernel
theorem dX11_spans_8 : decode cX11_spans 8 = .ok (.invokestatic 86, 3) := by decide +kernel
theorem dX11_spans_11 : decode cX11_spans 11 = .ok (.ifCond .eq 12, 3) := by decide +kernel
theorem dX11_spans_14 : decode cX11_spans 14 = .ok (.iload_n 3, 1) := by decide +kernel
theorem dX11_spans_15 : decode cX11_spans 15 = .ok (.iconst 0, 1) := by decide +kernel
theorem dX11_spans_16 : decode cX11_spans 16 = .ok (.iconst 1, 1) := by decide +kernel
theorem dX11_spans_17 : decode cX11_spans 17 = .ok (.invokestatic 78, 3) := by decide +kernel
theorem dX11_spans_20 : decode cX11_spans 20 = .ok (.ifCond .ne 6, 3) := by decide +kernel
theorem dX11_spans_23 : decode cX11_spans 23 = .ok (.ldc 100, 2) := by decide +kernel
theorem dX11_spans_25 : decode cX11_spans 25 = .ok (.ireturn, 1) := by decide +kernel
theorem dX11_spans_26 : decode cX11_spans 26 = .ok (.iload_n 3, 1) := by decide +kernel
theorem dX11_spans_27 : decode cX11_spans 27 = .ok (.ifCond .ne 15, 3) := by decide +kernel
theorem dX11_spans_30 : decode cX11_spans 30 = .ok (.aload_n 0, 1) := by decide +kernel
theorem dX11_spans_31 : decode cX11_spans 31 = .ok (.getfield 10, 3) := by decide +kernel
theorem dX11_spans_34 : decode cX11_spans 34 = .ok (.iload_n 1, 1) := by decide +kernel
theorem dX11_spans_35 : decode cX11_spans 35 = .ok (.iload_n 2, 1) := by decide +kernel
theorem dX11_spans_36 : decode cX11_spans 36 = .ok (.invokevirtual 101, 3) := by decide +kernel
theorem dX11_spans_39 : decode cX11_spans 39 = .ok (.goto 12, 3) := by decide +kernel
theorem dX11_spans_42 : decode cX11_spans 42 = .ok (.aload_n 0, 1) := by decide +kernel
theorem dX11_spans_43 : decode cX11_spans 43 = .ok (.getfield 10, 3) := by decide +kernel
theorem dX11_spans_46 : decode cX11_spans 46 = .ok (.iload_n 1, 1) := by decide +kernel
theorem dX11_spans_47 : decode cX11_spans 47 = .ok (.iload_n 2, 1) := by decide +kernel
theorem dX11_spans_48 : decode cX11_spans 48 = .ok (.invokevirtual 104, 3) := by decide +kernel
theorem dX11_spans_51 : decode cX11_spans 51 = .ok (.ireturn, 1) := by decide +kernel
theorem dX11_quarrel_0 : decode cX11_quarrel 0 = .ok (.aload_n 0, 1) := by decide +kernel
theorem dX11_quarrel_1 : decode cX11_quarrel 1 = .ok (.getfield 10, 3) := by decide +kernel
theorem dX11_quarrel_4 : decode cX11_quarrel 4 = .ok (.invokevirtual 107, 3) := by decide +kernel
theorem dX11_quarrel_7 : decode cX11_quarrel 7 = .ok (.ireturn, 1) := by decide +kernel
theorem dX11_quarrels_0 : decode cX11_quarrels 0 = .ok (.aload_n 0, 1) := by decide +kernel
theorem dX11_quarrels_1 : decode cX11_quarrels 1 = .ok (.getfield 10, 3) := by decide +kernel
theorem dX11_quarrels_4 : decode cX11_quarrels 4 = .ok (.iload_n 1, 1) := by decide +kernel
theorem dX11_quarrels_5 : decode cX11_quarrels 5 = .ok (.invokevirtual 111, 3) := by decide +kernel
theorem dX11_quarrels_8 : decode cX11_quarrels 8 = .ok (.ireturn, 1) := by decide +kernel
theorem dX11_value_0 : decode cX11_value 0 = .ok (.iload_n 2, 1) := by decide +kernel
theorem dX11_value_1 : decode cX11_value 1 = .ok (.iconst 0, 1) := by decide +kernel
theorem dX11_value_2 : decode cX11_value 2 = .ok (.ldc 115, 2) := by decide +kernel
theorem dX11_value_4 : decode cX11_value 4 = .ok (.invokestatic 78, 3) := by decide +kernel
theorem dX11_value_7 : decode cX11_value 7 = .ok (.ifCond .eq 17, 3) := by decide +kernel
theorem dX11_value_10 : decode cX11_value 10 = .ok (.iload_n 3, 1) := by decide +kernel
theorem dX11_value_11 : decode cX11_value 11 = .ok (.iconst 0, 1) := by decide +kernel
theorem dX11_value_12 : decode cX11_value 12 = .ok (.ldc 115, 2) := by decide +kernel
theorem dX11_value_14 : decode cX11_value 14 = .ok (.invokestatic 78, 3) := by decide +kernel
theorem dX11_value_17 : decode cX11_value 17 = .ok (.ifCond .eq 7, 3) := by decide +kernel
theorem dX11_value_20 : decode cX11_value 20 = .ok (.iconst 1, 1) := by decide +kernel
theorem dX11_value_21 : decode cX11_value 21 = .ok (.goto 4, 3) := by decide +kernel
theorem dX11_value_24 : decode cX11_value 24 = .ok (.iconst 0, 1) := by decide +kernel
theorem dX11_value_25 : decode cX11_value 25 = .ok (.istore 5, 2) := by decide +kernel
theorem dX11_value_27 : decode cX11_value 27 = .ok (.iload_n 1, 1) := by decide +kernel
theorem dX11_value_28 : decode cX11_value 28 = .ok (.invokestatic 116, 3) := by decide +kernel
theorem dX11_value_31 : decode cX11_value 31 = .ok (.ifCond .eq 16, 3) := by decide +kernel
theorem dX11_value_34 : decode cX11_value 34 = .ok (.iload 5, 2) := by decide +kernel
theorem dX11_value_36 : decode cX11_value 36 = .ok (.ifCond .eq 11, 3) := by decide +kernel
theorem dX11_value_39 : decode cX11_value 39 = .ok (.iload 4, 2) := by decide +kernel
theorem dX11_value_41 : decode cX11_value 41 = .ok (.invokestatic 119, 3) := by decide +kernel
theorem dX11_value_44 : decode cX11_value 44 = .ok (.ifCond .ne 5, 3) := by decide +kernel
theorem dX11_value_47 : decode cX11_value 47 = .ok (.iconst (-1), 1) := by decide +kernel
theorem dX11_value_48 : decode cX11_value 48 = .ok (.ireturn, 1) := by decide +kernel
theorem dX11_value_49 : decode cX11_value 49 = .ok (.aload_n 0, 1) := by decide +kernel
theorem dX11_value_50 : decode cX11_value 50 = .ok (.getfield 19, 3) := by decide +kernel
theorem dX11_value_53 : decode cX11_value 53 = .ok (.iload_n 1, 1) := by decide +kernel
theorem dX11_value_54 : decode cX11_value 54 = .ok (.iconst 0, 1) := by decide +kernel
theorem dX11_value_55 : decode cX11_value 55 = .ok (.iload_n 2, 1) := by decide +kernel
theorem dX11_value_56 : decode cX11_value 56 = .ok (.iload_n 3, 1) := by decide +kernel
theorem dX11_value_57 : decode cX11_value 57 = .ok (.isub, 1) := by decide +kernel
theorem dX11_value_58 : decode cX11_value 58 = .ok (.invokestatic 122, 3) := by decide +kernel
theorem dX11_value_61 : decode cX11_value 61 = .ok (.iload 4, 2) := by decide +kernel
theorem dX11_value_63 : decode cX11_value 63 = .ok (.aload_n 0, 1) := by decide +kernel
theorem dX11_value_64 : decode cX11_value 64 = .ok (.getfield 74, 3) := by decide +kernel
theorem dX11_value_67 : decode cX11_value 67 = .ok (.invokevirtual 127, 3) := by decide +kernel
theorem dX11_value_70 : decode cX11_value 70 = .ok (.ireturn, 1) := by decide +kernel
theorem dX11_earlier_0 : decode cX11_earlier 0 = .ok (.iload_n 1, 1) := by decide +kernel
theorem dX11_earlier_1 : decode cX11_earlier 1 = .ok (.iconst 0, 1) := by decide +kernel
theorem dX11_earlier_2 : decode cX11_earlier 2 = .ok (.ldc 130, 2) := by decide +kernel
theorem dX11_earlier_4 : decode cX11_earlier 4 = .ok (.invokestatic 78, 3) := by decide +kernel
theorem dX11_earlier_7 : decode cX11_earlier 7 = .ok (.ifCond .eq 21, 3) := by decide +kernel
theorem dX11_earlier_10 : decode cX11_earlier 10 = .ok (.iload_n 2, 1) := by decide +kernel
theorem dX11_earlier_11 : decode cX11_earlier 11 = .ok (.iconst 0, 1) := by decide +kernel
theorem dX11_earlier_12 : decode cX11_earlier 12 = .ok (.sipush 1000, 3) := by decide +kernel
theorem dX11_earlier_15 : decode cX11_earlier 15 = .ok (.invokestatic 78, 3) := by decide +kernel
theorem dX11_earlier_18 : decode cX11_earlier 18 = .ok (.ifCond .eq 10, 3) := by decide +kernel
theorem dX11_earlier_21 : decode cX11_earlier 21 = .ok (.iload_n 3, 1) := by decide +kernel
theorem dX11_earlier_22 : decode cX11_earlier 22 = .ok (.invokestatic 119, 3) := by decide +kernel
theorem dX11_earlier_25 : decode cX11_earlier 25 = .ok (.ifCond .ne 5, 3) := by decide +kernel
theorem dX11_earlier_28 : decode cX11_earlier 28 = .ok (.iconst (-1), 1) := by decide +kernel
theorem dX11_earlier_29 : decode cX11_earlier 29 = .ok (.ireturn, 1) := by decide +kernel
theorem dX11_earlier_30 : decode cX11_earlier 30 = .ok (.aload_n 0, 1) := by decide +kernel
theorem dX11_earlier_31 : decode cX11_earlier 31 = .ok (.getfield 26, 3) := by decide +kernel
theorem dX11_earlier_34 : decode cX11_earlier 34 = .ok (.iload_n 1, 1) := by decide +kernel
theorem dX11_earlier_35 : decode cX11_earlier 35 = .ok (.iload_n 2, 1) := by decide +kernel
theorem dX11_earlier_36 : decode cX11_earlier 36 = .ok (.iload_n 3, 1) := by decide +kernel
theorem dX11_earlier_37 : decode cX11_earlier 37 = .ok (.aload_n 0, 1) := by decide +kernel
theorem dX11_earlier_38 : decode cX11_earlier 38 = .ok (.getfield 74, 3) := by decide +kernel
theorem dX11_earlier_41 : decode cX11_earlier 41 = .ok (.invokevirtual 131, 3) := by decide +kernel
theorem dX11_earlier_44 : decode cX11_earlier 44 = .ok (.ireturn, 1) := by decide +kernel
theorem dX11_overrule_0 : decode cX11_overrule 0 = .ok (.iload_n 2, 1) := by decide +kernel
theorem dX11_overrule_1 : decode cX11_overrule 1 = .ok (.invokestatic 119, 3) := by decide +kernel
theorem dX11_overrule_4 : decode cX11_overrule 4 = .ok (.ifCond .eq 23, 3) := by decide +kernel
theorem dX11_overrule_7 : decode cX11_overrule 7 = .ok (.aload_n 0, 1) := by decide +kernel
theorem dX11_overrule_8 : decode cX11_overrule 8 = .ok (.getfield 26, 3) := by decide +kernel
theorem dX11_overrule_11 : decode cX11_overrule 11 = .ok (.iload_n 1, 1) := by decide +kernel
theorem dX11_overrule_12 : decode cX11_overrule 12 = .ok (.iload_n 2, 1) := by decide +kernel
theorem dX11_overrule_13 : decode cX11_overrule 13 = .ok (.aload_n 0, 1) := by decide +kernel
theorem dX11_overrule_14 : decode cX11_overrule 14 = .ok (.getfield 74, 3) := by decide +kernel
theorem dX11_overrule_17 : decode cX11_overrule 17 = .ok (.invokevirtual 132, 3) := by decide +kernel
theorem dX11_overrule_20 : decode cX11_overrule 20 = .ok (.ifCond .eq 7, 3) := by decide +kernel
theorem dX11_overrule_23 : decode cX11_overrule 23 = .ok (.iconst 1, 1) := by decide +kernel
theorem dX11_overrule_24 : decode cX11_overrule 24 = .ok (.goto 4, 3) := by decide +kernel
theorem dX11_overrule_27 : decode cX11_overrule 27 = .ok (.iconst 0, 1) := by decide +kernel
theorem dX11_overrule_28 : decode cX11_overrule 28 = .ok (.ireturn, 1) := by decide +kernel
theorem dX11_suit_0 : decode cX11_suit 0 = .ok (.iload_n 1, 1) := by decide +kernel
theorem dX11_suit_1 : decode cX11_suit 1 = .ok (.iconst 0, 1) := by decide +kernel
theorem dX11_suit_2 : decode cX11_suit 2 = .ok (.ldc 130, 2) := by decide +kernel
theorem dX11_suit_4 : decode cX11_suit 4 = .ok (.invokestatic 78, 3) := by decide +kernel
theorem dX11_suit_7 : decode cX11_suit 7 = .ok (.ifCond .eq 13, 3) := by decide +kernel
theorem dX11_suit_10 : decode cX11_suit 10 = .ok (.iload_n 2, 1) := by decide +kernel
theorem dX11_suit_11 : decode cX11_suit 11 = .ok (.iconst 0, 1) := by decide +kernel
theorem dX11_suit_12 : decode cX11_suit 12 = .ok (.bipush 99, 2) := by decide +kernel
theorem dX11_suit_14 : decode cX11_suit 14 = .ok (.invokestatic 78, 3) := by decide +kernel
theorem dX11_suit_17 : decode cX11_suit 17 = .ok (.ifCond .ne 5, 3) := by decide +kernel
theorem dX11_suit_20 : decode cX11_suit 20 = .ok (.iconst 0, 1) := by decide +kernel
theorem dX11_suit_21 : decode cX11_suit 21 = .ok (.ireturn, 1) := by decide +kernel
theorem dX11_suit_22 : decode cX11_suit 22 = .ok (.aload_n 0, 1) := by decide +kernel
theorem dX11_suit_23 : decode cX11_suit 23 = .ok (.iload_n 1, 1) := by decide +kernel
theorem dX11_suit_24 : decode cX11_suit 24 = .ok (.putfield 135, 3) := by decide +kernel
theorem dX11_suit_27 : decode cX11_suit 27 = .ok (.aload_n 0, 1) := by decide +kernel
theorem dX11_suit_28 : decode cX11_suit 28 = .ok (.iload_n 2, 1) := by decide +kernel
theorem dX11_suit_29 : decode cX11_suit 29 = .ok (.putfield 138, 3) := by decide +kernel
theorem dX11_suit_32 : decode cX11_suit 32 = .ok (.iconst 1, 1) := by decide +kernel
theorem dX11_suit_33 : decode cX11_suit 33 = .ok (.ireturn, 1) := by decide +kernel
theorem dX11_feed_0 : decode cX11_feed 0 = .ok (.aload_n 0, 1) := by decide +kernel
theorem dX11_feed_1 : decode cX11_feed 1 = .ok (.getfield 33, 3) := by decide +kernel
theorem dX11_feed_4 : decode cX11_feed 4 = .ok (.getfield 141, 3) := by decide +kernel
theorem dX11_feed_7 : decode cX11_feed 7 = .ok (.sipush 280, 3) := by decide +kernel
theorem dX11_feed_10 : decode cX11_feed 10 = .ok (.if_icmp .le 5, 3) := by decide +kernel
theorem dX11_feed_13 : decode cX11_feed 13 = .ok (.iconst (-1), 1) := by decide +kernel
theorem dX11_feed_14 : decode cX11_feed 14 = .ok (.ireturn, 1) := by decide +kernel
theorem dX11_feed_15 : decode cX11_feed 15 = .ok (.aload_n 0, 1) := by decide +kernel
theorem dX11_feed_16 : decode cX11_feed 16 = .ok (.getfield 33, 3) := by decide +kernel
theorem dX11_feed_19 : decode cX11_feed 19 = .ok (.iload_n 1, 1) := by decide +kernel
theorem dX11_feed_20 : decode cX11_feed 20 = .ok (.invokevirtual 144, 3) := by decide +kernel
theorem dX11_feed_23 : decode cX11_feed 23 = .ok (.aload_n 0, 1) := by decide +kernel
theorem dX11_feed_24 : decode cX11_feed 24 = .ok (.getfield 33, 3) := by decide +kernel
theorem dX11_feed_27 : decode cX11_feed 27 = .ok (.iload_n 2, 1) := by decide +kernel
theorem dX11_feed_28 : decode cX11_feed 28 = .ok (.invokevirtual 144, 3) := by decide +kernel
theorem dX11_feed_31 : decode cX11_feed 31 = .ok (.aload_n 0, 1) := by decide +kernel
theorem dX11_feed_32 : decode cX11_feed 32 = .ok (.getfield 33, 3) := by decide +kernel
theorem dX11_feed_35 : decode cX11_feed 35 = .ok (.iload_n 3, 1) := by decide +kernel
theorem dX11_feed_36 : decode cX11_feed 36 = .ok (.invokevirtual 144, 3) := by decide +kernel
theorem dX11_feed_39 : decode cX11_feed 39 = .ok (.aload_n 0, 1) := by decide +kernel
theorem dX11_feed_40 : decode cX11_feed 40 = .ok (.getfield 33, 3) := by decide +kernel
theorem dX11_feed_43 : decode cX11_feed 43 = .ok (.iload 4, 2) := by decide +kernel
theorem dX11_feed_45 : decode cX11_feed 45 = .ok (.invokevirtual 144, 3) := by decide +kernel
theorem dX11_feed_48 : decode cX11_feed 48 = .ok (.aload_n 0, 1) := by decide +kernel
theorem dX11_feed_49 : decode cX11_feed 49 = .ok (.getfield 33, 3) := by decide +kernel
theorem dX11_feed_52 : decode cX11_feed 52 = .ok (.iload 5, 2) := by decide +kernel
theorem dX11_feed_54 : decode cX11_feed 54 = .ok (.invokevirtual 144, 3) := by decide +kernel
theorem dX11_feed_57 : decode cX11_feed 57 = .ok (.aload_n 0, 1) := by decide +kernel
theorem dX11_feed_58 : decode cX11_feed 58 = .ok (.getfield 33, 3) := by decide +kernel
theorem dX11_feed_61 : decode cX11_feed 61 = .ok (.getfield 141, 3) := by decide +kernel
theorem dX11_feed_64 : decode cX11_feed 64 = .ok (.ireturn, 1) := by decide +kernel
theorem dX11_end_0 : decode cX11_end 0 = .ok (.iload_n 1, 1) := by decide +kernel
theorem dX11_end_1 : decode cX11_end 1 = .ok (.iconst 0, 1) := by decide +kernel
theorem dX11_end_2 : decode cX11_end 2 = .ok (.aload_n 0, 1) := by decide +kernel
theorem dX11_end_3 : decode cX11_end 3 = .ok (.getfield 33, 3) := by decide +kernel
theorem dX11_end_6 : decode cX11_end 6 = .ok (.getfield 141, 3) := by decide +kernel
theorem dX11_end_9 : decode cX11_end 9 = .ok (.invokestatic 78, 3) := by decide +kernel
theorem dX11_end_12 : decode cX11_end 12 = .ok (.ifCond .ne 5, 3) := by decide +kernel
theorem dX11_end_15 : decode cX11_end 15 = .ok (.iconst (-1), 1) := by decide +kernel
theorem dX11_end_16 : decode cX11_end 16 = .ok (.ireturn, 1) := by decide +kernel
theorem dX11_end_17 : decode cX11_end 17 = .ok (.aload_n 0, 1) := by decide +kernel
theorem dX11_end_18 : decode cX11_end 18 = .ok (.getfield 33, 3) := by decide +kernel
theorem dX11_end_21 : decode cX11_end 21 = .ok (.iload_n 1, 1) := by decide +kernel
theorem dX11_end_22 : decode cX11_end 22 = .ok (.putfield 141, 3) := by decide +kernel
theorem dX11_end_25 : decode cX11_end 25 = .ok (.iload_n 1, 1) := by decide +kernel
theorem dX11_end_26 : decode cX11_end 26 = .ok (.ireturn, 1) := by decide +kernel
theorem dX11_law_0 : decode cX11_law 0 = .ok (.aload_n 0, 1) := by decide +kernel
theorem dX11_law_1 : decode cX11_law 1 = .ok (.getfield 147, 3) := by decide +kernel
theorem dX11_law_4 : decode cX11_law 4 = .ok (.bipush 6, 2) := by decide +kernel
theorem dX11_law_6 : decode cX11_law 6 = .ok (.if_icmp .ge 10, 3) := by decide +kernel
theorem dX11_law_9 : decode cX11_law 9 = .ok (.iload_n 1, 1) := by decide +kernel
theorem dX11_law_10 : decode cX11_law 10 = .ok (.invokestatic 119, 3) := by decide +kernel
theorem dX11_law_13 : decode cX11_law 13 = .ok (.ifCond .ne 5, 3) := by decide +kernel
theorem dX11_law_16 : decode cX11_law 16 = .ok (.iconst (-1), 1) := by decide +kernel
theorem dX11_law_17 : decode cX11_law 17 = .ok (.ireturn, 1) := by decide +kernel
theorem dX11_law_18 : decode cX11_law 18 = .ok (.aload_n 0, 1) := by decide +kernel
theorem dX11_law_19 : decode cX11_law 19 = .ok (.getfield 33, 3) := by decide +kernel
theorem dX11_law_22 : decode cX11_law 22 = .ok (.aload_n 0, 1) := by decide +kernel
theorem dX11_law_23 : decode cX11_law 23 = .ok (.getfield 39, 3) := by decide +kernel
theorem dX11_law_26 : decode cX11_law 26 = .ok (.aload_n 0, 1) := by decide +kernel
theorem dX11_law_27 : decode cX11_law 27 = .ok (.getfield 147, 3) := by decide +kernel
theorem dX11_law_30 : decode cX11_law 30 = .ok (.aaload, 1) := by decide +kernel
theorem dX11_law_31 : decode cX11_law 31 = .ok (.invokevirtual 150, 3) := by decide +kernel
theorem dX11_law_34 : decode cX11_law 34 = .ok (.istore_n 2, 1) := by decide +kernel
theorem dX11_law_35 : decode cX11_law 35 = .ok (.aload_n 0, 1) := by decide +kernel
theorem dX11_law_36 : decode cX11_law 36 = .ok (.getfield 33, 3) := by decide +kernel
theorem dX11_law_39 : decode cX11_law 39 = .ok (.iconst 0, 1) := by decide +kernel
theorem dX11_law_40 : decode cX11_law 40 = .ok (.putfield 141, 3) := by decide +kernel
theorem dX11_law_43 : decode cX11_law 43 = .ok (.iload_n 2, 1) := by decide +kernel
theorem dX11_law_44 : decode cX11_law 44 = .ok (.ifCond .eq 8, 3) := by decide +kernel
theorem dX11_law_47 : decode cX11_law 47 = .ok (.bipush (-2), 2) := by decide +kernel
theorem dX11_law_49 : decode cX11_law 49 = .ok (.iload_n 2, 1) := by decide +kernel
theorem dX11_law_50 : decode cX11_law 50 = .ok (.isub, 1) := by decide +kernel
theorem dX11_law_51 : decode cX11_law 51 = .ok (.ireturn, 1) := by decide +kernel
theorem dX11_law_52 : decode cX11_law 52 = .ok (.aload_n 0, 1) := by decide +kernel
theorem dX11_law_53 : decode cX11_law 53 = .ok (.getfield 48, 3) := by decide +kernel
theorem dX11_law_56 : decode cX11_law 56 = .ok (.aload_n 0, 1) := by decide +kernel
theorem dX11_law_57 : decode cX11_law 57 = .ok (.getfield 147, 3) := by decide +kernel
theorem dX11_law_60 : decode cX11_law 60 = .ok (.iload_n 1, 1) := by decide +kernel
theorem dX11_law_61 : decode cX11_law 61 = .ok (.aload_n 0, 1) := by decide +kernel
theorem dX11_law_62 : decode cX11_law 62 = .ok (.getfield 74, 3) := by decide +kernel
theorem dX11_law_65 : decode cX11_law 65 = .ok (.invokevirtual 154, 3) := by decide +kernel
theorem dX11_law_68 : decode cX11_law 68 = .ok (.aload_n 0, 1) := by decide +kernel
theorem dX11_law_69 : decode cX11_law 69 = .ok (.dup, 1) := by decide +kernel
theorem dX11_law_70 : decode cX11_law 70 = .ok (.getfield 147, 3) := by decide +kernel
theorem dX11_law_73 : decode cX11_law 73 = .ok (.iconst 1, 1) := by decide +kernel
theorem dX11_law_74 : decode cX11_law 74 = .ok (.iadd, 1) := by decide +kernel
theorem dX11_law_75 : decode cX11_law 75 = .ok (.putfield 147, 3) := by decide +kernel
theorem dX11_law_78 : decode cX11_law 78 = .ok (.aload_n 0, 1) := by decide +kernel
theorem dX11_law_79 : decode cX11_law 79 = .ok (.getfield 147, 3) := by decide +kernel
theorem dX11_law_82 : decode cX11_law 82 = .ok (.iconst 1, 1) := by decide +kernel
theorem dX11_law_83 : decode cX11_law 83 = .ok (.isub, 1) := by decide +kernel
theorem dX11_law_84 : decode cX11_law 84 = .ok (.ireturn, 1) := by decide +kernel
theorem dX11_sheet_0 : decode cX11_sheet 0 = .ok (.iload_n 1, 1) := by decide +kernel
theorem dX11_sheet_1 : decode cX11_sheet 1 = .ok (.iconst 1, 1) := by decide +kernel
theorem dX11_sheet_2 : decode cX11_sheet 2 = .ok (.bipush 60, 2) := by decide +kernel
theorem dX11_sheet_4 : decode cX11_sheet 4 = .ok (.invokestatic 78, 3) := by decide +kernel
theorem dX11_sheet_7 : decode cX11_sheet 7 = .ok (.ifCond .ne 5, 3) := by decide +kernel
theorem dX11_sheet_10 : decode cX11_sheet 10 = .ok (.iconst 0, 1) := by decide +kernel
theorem dX11_sheet_11 : decode cX11_sheet 11 = .ok (.ireturn, 1) := by decide +kernel
theorem dX11_sheet_12 : decode cX11_sheet 12 = .ok (.iconst 0, 1) := by decide +kernel
theorem dX11_sheet_13 : decode cX11_sheet 13 = .ok (.istore 10, 2) := by decide +kernel
theorem dX11_sheet_15 : decode cX11_sheet 15 = .ok (.iload 10, 2) := by decide +kernel
theorem dX11_sheet_17 : decode cX11_sheet 17 = .ok (.iload_n 1, 1) := by decide +kernel
theorem dX11_sheet_18 : decode cX11_sheet 18 = .ok (.if_icmp .ge 32, 3) := by decide +kernel
theorem dX11_sheet_21 : decode cX11_sheet 21 = .ok (.iload 10, 2) := by decide +kernel
theorem dX11_sheet_23 : decode cX11_sheet 23 = .ok (.lload_n 2, 1) := by decide +kernel
theorem dX11_sheet_24 : decode cX11_sheet 24 = .ok (.lload 4, 2) := by decide +kernel
theorem dX11_sheet_26 : decode cX11_sheet 26 = .ok (.lload 6, 2) := by decide +kernel
theorem dX11_sheet_28 : decode cX11_sheet 28 = .ok (.lload 8, 2) := by decide +kernel
theorem dX11_sheet_30 : decode cX11_sheet 30 = .ok (.invokestatic 158, 3) := by decide +kernel
theorem dX11_sheet_33 : decode cX11_sheet 33 = .ok (.iconst 1, 1) := by decide +kernel
theorem dX11_sheet_34 : decode cX11_sheet 34 = .ok (.bipush 9, 2) := by decide +kernel
theorem dX11_sheet_36 : decode cX11_sheet 36 = .ok (.invokestatic 78, 3) := by decide +kernel
theorem dX11_sheet_39 : decode cX11_sheet 39 = .ok (.ifCond .ne 5, 3) := by decide +kernel
theorem dX11_sheet_42 : decode cX11_sheet 42 = .ok (.iconst 0, 1) := by decide +kernel
theorem dX11_sheet_43 : decode cX11_sheet 43 = .ok (.ireturn, 1) := by decide +kernel
theorem dX11_sheet_44 : decode cX11_sheet 44 = .ok (.iinc 10 1, 3) := by decide +kernel
theorem dX11_sheet_47 : decode cX11_sheet 47 = .ok (.goto (-32), 3) := by decide +kernel
theorem dX11_sheet_50 : decode cX11_sheet 50 = .ok (.aload_n 0, 1) := by decide +kernel
theorem dX11_sheet_51 : decode cX11_sheet 51 = .ok (.getfield 55, 3) := by decide +kernel
theorem dX11_sheet_54 : decode cX11_sheet 54 = .ok (.invokevirtual 162, 3) := by decide +kernel
theorem dX11_sheet_57 : decode cX11_sheet 57 = .ok (.iconst 0, 1) := by decide +kernel
theorem dX11_sheet_58 : decode cX11_sheet 58 = .ok (.istore 10, 2) := by decide +kernel
theorem dX11_sheet_60 : decode cX11_sheet 60 = .ok (.iload 10, 2) := by decide +kernel
theorem dX11_sheet_62 : decode cX11_sheet 62 = .ok (.iload_n 1, 1) := by decide +kernel
theorem dX11_sheet_63 : decode cX11_sheet 63 = .ok (.if_icmp .ge 28, 3) := by decide +kernel
theorem dX11_sheet_66 : decode cX11_sheet 66 = .ok (.aload_n 0, 1) := by decide +kernel
theorem dX11_sheet_67 : decode cX11_sheet 67 = .ok (.getfield 55, 3) := by decide +kernel
theorem dX11_sheet_70 : decode cX11_sheet 70 = .ok (.iload 10, 2) := by decide +kernel
theorem dX11_sheet_72 : decode cX11_sheet 72 = .ok (.lload_n 2, 1) := by decide +kernel
theorem dX11_sheet_73 : decode cX11_sheet 73 = .ok (.lload 4, 2) := by decide +kernel
theorem dX11_sheet_75 : decode cX11_sheet 75 = .ok (.lload 6, 2) := by decide +kernel
theorem dX11_sheet_77 : decode cX11_sheet 77 = .ok (.lload 8, 2) := by decide +kernel
theorem dX11_sheet_79 : decode cX11_sheet 79 = .ok (.invokestatic 158, 3) := by decide +kernel
theorem dX11_sheet_82 : decode cX11_sheet 82 = .ok (.invokevirtual 165, 3) := by decide +kernel
theorem dX11_sheet_85 : decode cX11_sheet 85 = .ok (.iinc 10 1, 3) := by decide +kernel
theorem dX11_sheet_88 : decode cX11_sheet 88 = .ok (.goto (-28), 3) := by decide +kernel
theorem dX11_sheet_91 : decode cX11_sheet 91 = .ok (.iconst 1, 1) := by decide +kernel
theorem dX11_sheet_92 : decode cX11_sheet 92 = .ok (.ireturn, 1) := by decide +kernel
theorem dX11_ship_0 : decode cX11_ship 0 = .ok (.aload_n 0, 1) := by decide +kernel
theorem dX11_ship_1 : decode cX11_ship 1 = .ok (.getfield 167, 3) := by decide +kernel
theorem dX11_ship_4 : decode cX11_ship 4 = .ok (.bipush 8, 2) := by decide +kernel
theorem dX11_ship_6 : decode cX11_ship 6 = .ok (.if_icmp .ge 13, 3) := by decide +kernel
theorem dX11_ship_9 : decode cX11_ship 9 = .ok (.aload_n 0, 1) := by decide +kernel
theorem dX11_ship_10 : decode cX11_ship 10 = .ok (.getfield 55, 3) := by decide +kernel
theorem dX11_ship_13 : decode cX11_ship 13 = .ok (.getfield 170, 3) := by decide +kernel
theorem dX11_ship_16 : decode cX11_ship 16 = .ok (.ifCond .ne 5, 3) := by decide +kernel
theorem dX11_ship_19 : decode cX11_ship 19 = .ok (.iconst (-1), 1) := by decide +kernel
theorem dX11_ship_20 : decode cX11_ship 20 = .ok (.ireturn, 1) := by decide +kernel
theorem dX11_ship_21 : decode cX11_ship 21 = .ok (.iload_n 1, 1) := by decide +kernel
theorem dX11_ship_22 : decode cX11_ship 22 = .ok (.iconst 1, 1) := by decide +kernel
theorem dX11_ship_23 : decode cX11_ship 23 = .ok (.sipush 5000, 3) := by decide +kernel
theorem dX11_ship_26 : decode cX11_ship 26 = .ok (.invokestatic 78, 3) := by decide +kernel
theorem dX11_ship_29 : decode cX11_ship 29 = .ok (.ifCond .eq 21, 3) := by decide +kernel
theorem dX11_ship_32 : decode cX11_ship 32 = .ok (.iload_n 2, 1) := by decide +kernel
theorem dX11_ship_33 : decode cX11_ship 33 = .ok (.invokestatic 86, 3) := by decide +kernel
theorem dX11_ship_36 : decode cX11_ship 36 = .ok (.ifCond .eq 14, 3) := by decide +kernel
theorem dX11_ship_39 : decode cX11_ship 39 = .ok (.iload_n 3, 1) := by decide +kernel
theorem dX11_ship_40 : decode cX11_ship 40 = .ok (.invokestatic 86, 3) := by decide +kernel
theorem dX11_ship_43 : decode cX11_ship 43 = .ok (.ifCond .eq 7, 3) := by decide +kernel
theorem dX11_ship_46 : decode cX11_ship 46 = .ok (.iconst 1, 1) := by decide +kernel
theorem dX11_ship_47 : decode cX11_ship 47 = .ok (.goto 4, 3) := by decide +kernel
theorem dX11_ship_50 : decode cX11_ship 50 = .ok (.iconst 0, 1) := by decide +kernel
theorem dX11_ship_51 : decode cX11_ship 51 = .ok (.istore 7, 2) := by decide +kernel
theorem dX11_ship_53 : decode cX11_ship 53 = .ok (.iload 5, 2) := by decide +kernel
theorem dX11_ship_55 : decode cX11_ship 55 = .ok (.iconst 0, 1) := by decide +kernel
theorem dX11_ship_56 : decode cX11_ship 56 = .ok (.bipush 100, 2) := by decide +kernel
theorem dX11_ship_58 : decode cX11_ship 58 = .ok (.invokestatic 78, 3) := by decide +kernel
theorem dX11_ship_61 : decode cX11_ship 61 = .ok (.ifCond .eq 21, 3) := by decide +kernel
theorem dX11_ship_64 : decode cX11_ship 64 = .ok (.iload 6, 2) := by decide +kernel
theorem dX11_ship_66 : decode cX11_ship 66 = .ok (.iconst 0, 1) := by decide +kernel
theorem dX11_ship_67 : decode cX11_ship 67 = .ok (.bipush 100, 2) := by decide +kernel
theorem dX11_ship_69 : decode cX11_ship 69 = .ok (.iload 5, 2) := by decide +kernel
theorem dX11_ship_71 : decode cX11_ship 71 = .ok (.isub, 1) := by decide +kernel
theorem dX11_ship_72 : decode cX11_ship 72 = .ok (.invokestatic 78, 3) := by decide +kernel
theorem dX11_ship_75 : decode cX11_ship 75 = .ok (.ifCond .eq 7, 3) := by decide +kernel
theorem dX11_ship_78 : decode cX11_ship 78 = .ok (.iconst 1, 1) := by decide +kernel
theorem dX11_ship_79 : decode cX11_ship 79 = .ok (.goto 4, 3) := by decide +kernel
theorem dX11_ship_82 : decode cX11_ship 82 = .ok (.iconst 0, 1) := by decide +kernel
theorem dX11_ship_83 : decode cX11_ship 83 = .ok (.istore 8, 2) := by decide +kernel
theorem dX11_ship_85 : decode cX11_ship 85 = .ok (.iload 7, 2) := by decide +kernel
theorem dX11_ship_87 : decode cX11_ship 87 = .ok (.ifCond .eq 16, 3) := by decide +kernel
theorem dX11_ship_90 : decode cX11_ship 90 = .ok (.iload 8, 2) := by decide +kernel
theorem dX11_ship_92 : decode cX11_ship 92 = .ok (.ifCond .eq 11, 3) := by decide +kernel
theorem dX11_ship_95 : decode cX11_ship 95 = .ok (.iload 4, 2) := by decide +kernel
theorem dX11_ship_97 : decode cX11_ship 97 = .ok (.invokestatic 119, 3) := by decide +kernel
theorem dX11_ship_100 : decode cX11_ship 100 = .ok (.ifCond .ne 5, 3) := by decide +kernel
theorem dX11_ship_103 : decode cX11_ship 103 = .ok (.iconst (-1), 1) := by decide +kernel
theorem dX11_ship_104 : decode cX11_ship 104 = .ok (.ireturn, 1) := by decide +kernel
theorem dX11_ship_105 : decode cX11_ship 105 = .ok (.aload_n 0, 1) := by decide +kernel
theorem dX11_ship_106 : decode cX11_ship 106 = .ok (.getfield 61, 3) := by decide +kernel
theorem dX11_ship_109 : decode cX11_ship 109 = .ok (.aload_n 0, 1) := by decide +kernel
theorem dX11_ship_110 : decode cX11_ship 110 = .ok (.getfield 167, 3) := by decide +kernel
theorem dX11_ship_113 : decode cX11_ship 113 = .ok (.aaload, 1) := by decide +kernel
theorem dX11_ship_114 : decode cX11_ship 114 = .ok (.astore 9, 2) := by decide +kernel
theorem dX11_ship_116 : decode cX11_ship 116 = .ok (.aload 9, 2) := by decide +kernel
theorem dX11_ship_118 : decode cX11_ship 118 = .ok (.iload_n 1, 1) := by decide +kernel
theorem dX11_ship_119 : decode cX11_ship 119 = .ok (.putfield 173, 3) := by decide +kernel
theorem dX11_ship_122 : decode cX11_ship 122 = .ok (.aload 9, 2) := by decide +kernel
theorem dX11_ship_124 : decode cX11_ship 124 = .ok (.iload_n 2, 1) := by decide +kernel
theorem dX11_ship_125 : decode cX11_ship 125 = .ok (.putfield 176, 3) := by decide +kernel
theorem dX11_ship_128 : decode cX11_ship 128 = .ok (.aload 9, 2) := by decide +kernel
theorem dX11_ship_130 : decode cX11_ship 130 = .ok (.iload_n 3, 1) := by decide +kernel
theorem dX11_ship_131 : decode cX11_ship 131 = .ok (.putfield 179, 3) := by decide +kernel
theorem dX11_ship_134 : decode cX11_ship 134 = .ok (.aload 9, 2) := by decide +kernel
theorem dX11_ship_136 : decode cX11_ship 136 = .ok (.iload 4, 2) := by decide +kernel
theorem dX11_ship_138 : decode cX11_ship 138 = .ok (.putfield 182, 3) := by decide +kernel
theorem dX11_ship_141 : decode cX11_ship 141 = .ok (.aload 9, 2) := by decide +kernel
theorem dX11_ship_143 : decode cX11_ship 143 = .ok (.iload 5, 2) := by decide +kernel
theorem dX11_ship_145 : decode cX11_ship 145 = .ok (.putfield 185, 3) := by decide +kernel
theorem dX11_ship_148 : decode cX11_ship 148 = .ok (.aload 9, 2) := by decide +kernel
theorem dX11_ship_150 : decode cX11_ship 150 = .ok (.iload 6, 2) := by decide +kernel
theorem dX11_ship_152 : decode cX11_ship 152 = .ok (.putfield 188, 3) := by decide +kernel
theorem dX11_ship_155 : decode cX11_ship 155 = .ok (.aload 9, 2) := by decide +kernel
theorem dX11_ship_157 : decode cX11_ship 157 = .ok (.getfield 191, 3) := by decide +kernel
theorem dX11_ship_160 : decode cX11_ship 160 = .ok (.aload_n 0, 1) := by decide +kernel
theorem dX11_ship_161 : decode cX11_ship 161 = .ok (.getfield 55, 3) := by decide +kernel
theorem dX11_ship_164 : decode cX11_ship 164 = .ok (.invokevirtual 194, 3) := by decide +kernel
theorem dX11_ship_167 : decode cX11_ship 167 = .ok (.aload_n 0, 1) := by decide +kernel
theorem dX11_ship_168 : decode cX11_ship 168 = .ok (.dup, 1) := by decide +kernel
theorem dX11_ship_169 : decode cX11_ship 169 = .ok (.getfield 167, 3) := by decide +kernel
theorem dX11_ship_172 : decode cX11_ship 172 = .ok (.iconst 1, 1) := by decide +kernel
theorem dX11_ship_173 : decode cX11_ship 173 = .ok (.iadd, 1) := by decide +kernel
theorem dX11_ship_174 : decode cX11_ship 174 = .ok (.putfield 167, 3) := by decide +kernel
theorem dX11_ship_177 : decode cX11_ship 177 = .ok (.aload_n 0, 1) := by decide +kernel
theorem dX11_ship_178 : decode cX11_ship 178 = .ok (.getfield 167, 3) := by decide +kernel
theorem dX11_ship_181 : decode cX11_ship 181 = .ok (.iconst 1, 1) := by decide +kernel
theorem dX11_ship_182 : decode cX11_ship 182 = .ok (.isub, 1) := by decide +kernel
theorem dX11_ship_183 : decode cX11_ship 183 = .ok (.ireturn, 1) := by decide +kernel
theorem dX11_judge_0 : decode cX11_judge 0 = .ok (.iload_n 1, 1) := by decide +kernel
theorem dX11_judge_1 : decode cX11_judge 1 = .ok (.invokestatic 119, 3) := by decide +kernel
theorem dX11_judge_4 : decode cX11_judge 4 = .ok (.ifCond .eq 10, 3) := by decide +kernel
theorem dX11_judge_7 : decode cX11_judge 7 = .ok (.iload_n 2, 1) := by decide +kernel
theorem dX11_judge_8 : decode cX11_judge 8 = .ok (.invokestatic 119, 3) := by decide +kernel
theorem dX11_judge_11 : decode cX11_judge 11 = .ok (.ifCond .ne 5, 3) := by decide +kernel
theorem dX11_judge_14 : decode cX11_judge 14 = .ok (.iconst (-1), 1) := by decide +kernel
theorem dX11_judge_15 : decode cX11_judge 15 = .ok (.ireturn, 1) := by decide +kernel
theorem dX11_judge_16 : decode cX11_judge 16 = .ok (.aload_n 0, 1) := by decide +kernel
theorem dX11_judge_17 : decode cX11_judge 17 = .ok (.getfield 48, 3) := by decide +kernel
theorem dX11_judge_20 : decode cX11_judge 20 = .ok (.aload_n 0, 1) := by decide +kernel
theorem dX11_judge_21 : decode cX11_judge 21 = .ok (.getfield 147, 3) := by decide +kernel
theorem dX11_judge_24 : decode cX11_judge 24 = .ok (.iload_n 1, 1) := by decide +kernel
theorem dX11_judge_25 : decode cX11_judge 25 = .ok (.iload_n 2, 1) := by decide +kernel
theorem dX11_judge_26 : decode cX11_judge 26 = .ok (.invokevirtual 198, 3) := by decide +kernel
theorem dX11_judge_29 : decode cX11_judge 29 = .ok (.istore_n 3, 1) := by decide +kernel
theorem dX11_judge_30 : decode cX11_judge 30 = .ok (.iload_n 3, 1) := by decide +kernel
theorem dX11_judge_31 : decode cX11_judge 31 = .ok (.ifCond .ge 5, 3) := by decide +kernel
theorem dX11_judge_34 : decode cX11_judge 34 = .ok (.iconst 1, 1) := by decide +kernel
theorem dX11_judge_35 : decode cX11_judge 35 = .ok (.ireturn, 1) := by decide +kernel
theorem dX11_judge_36 : decode cX11_judge 36 = .ok (.aload_n 0, 1) := by decide +kernel
theorem dX11_judge_37 : decode cX11_judge 37 = .ok (.getfield 39, 3) := by decide +kernel
theorem dX11_judge_40 : decode cX11_judge 40 = .ok (.iload_n 3, 1) := by decide +kernel
theorem dX11_judge_41 : decode cX11_judge 41 = .ok (.aaload, 1) := by decide +kernel
theorem dX11_judge_42 : decode cX11_judge 42 = .ok (.astore 4, 2) := by decide +kernel
theorem dX11_judge_44 : decode cX11_judge 44 = .ok (.aload_n 0, 1) := by decide +kernel
theorem dX11_judge_45 : decode cX11_judge 45 = .ok (.getfield 68, 3) := by decide +kernel
theorem dX11_judge_48 : decode cX11_judge 48 = .ok (.iload_n 3, 1) := by decide +kernel
theorem dX11_judge_49 : decode cX11_judge 49 = .ok (.putfield 202, 3) := by decide +kernel
theorem dX11_judge_52 : decode cX11_judge 52 = .ok (.aload_n 0, 1) := by decide +kernel
theorem dX11_judge_53 : decode cX11_judge 53 = .ok (.getfield 68, 3) := by decide +kernel
theorem dX11_judge_56 : decode cX11_judge 56 = .ok (.aload_n 0, 1) := by decide +kernel
theorem dX11_judge_57 : decode cX11_judge 57 = .ok (.getfield 26, 3) := by decide +kernel
theorem dX11_judge_60 : decode cX11_judge 60 = .ok (.aload 4, 2) := by decide +kernel
theorem dX11_judge_62 : decode cX11_judge 62 = .ok (.aload_n 0, 1) := by decide +kernel
theorem dX11_judge_63 : decode cX11_judge 63 = .ok (.getfield 135, 3) := by decide +kernel
theorem dX11_judge_66 : decode cX11_judge 66 = .ok (.iload_n 1, 1) := by decide +kernel
theorem dX11_judge_67 : decode cX11_judge 67 = .ok (.iload_n 2, 1) := by decide +kernel
theorem dX11_judge_68 : decode cX11_judge 68 = .ok (.aload_n 0, 1) := by decide +kernel
theorem dX11_judge_69 : decode cX11_judge 69 = .ok (.getfield 68, 3) := by decide +kernel
theorem dX11_judge_72 : decode cX11_judge 72 = .ok (.getfield 205, 3) := by decide +kernel
theorem dX11_judge_75 : decode cX11_judge 75 = .ok (.invokevirtual 209, 3) := by decide +kernel
theorem dX11_judge_78 : decode cX11_judge 78 = .ok (.putfield 213, 3) := by decide +kernel
theorem dX11_judge_81 : decode cX11_judge 81 = .ok (.aload_n 0, 1) := by decide +kernel
theorem dX11_judge_82 : decode cX11_judge 82 = .ok (.getfield 26, 3) := by decide +kernel
theorem dX11_judge_85 : decode cX11_judge 85 = .ok (.aload_n 0, 1) := by decide +kernel
theorem dX11_judge_86 : decode cX11_judge 86 = .ok (.getfield 68, 3) := by decide +kernel
theorem dX11_judge_89 : decode cX11_judge 89 = .ok (.getfield 205, 3) := by decide +kernel
theorem dX11_judge_92 : decode cX11_judge 92 = .ok (.aload_n 0, 1) := by decide +kernel
theorem dX11_judge_93 : decode cX11_judge 93 = .ok (.getfield 68, 3) := by decide +kernel
theorem dX11_judge_96 : decode cX11_judge 96 = .ok (.getfield 213, 3) := by decide +kernel
theorem dX11_judge_99 : decode cX11_judge 99 = .ok (.aload_n 0, 1) := by decide +kernel
theorem dX11_judge_100 : decode cX11_judge 100 = .ok (.getfield 68, 3) := by decide +kernel
theorem dX11_judge_103 : decode cX11_judge 103 = .ok (.getfield 216, 3) := by decide +kernel
theorem dX11_judge_106 : decode cX11_judge 106 = .ok (.invokevirtual 219, 3) := by decide +kernel
theorem dX11_judge_109 : decode cX11_judge 109 = .ok (.aload_n 0, 1) := by decide +kernel
theorem dX11_judge_110 : decode cX11_judge 110 = .ok (.getfield 68, 3) := by decide +kernel
theorem dX11_judge_113 : decode cX11_judge 113 = .ok (.aload 4, 2) := by decide +kernel
theorem dX11_judge_115 : decode cX11_judge 115 = .ok (.aload_n 0, 1) := by decide +kernel
theorem dX11_judge_116 : decode cX11_judge 116 = .ok (.getfield 68, 3) := by decide +kernel
theorem dX11_judge_119 : decode cX11_judge 119 = .ok (.getfield 216, 3) := by decide +kernel
theorem dX11_judge_122 : decode cX11_judge 122 = .ok (.aload_n 0, 1) := by decide +kernel
theorem dX11_judge_123 : decode cX11_judge 123 = .ok (.getfield 68, 3) := by decide +kernel
theorem dX11_judge_126 : decode cX11_judge 126 = .ok (.getfield 213, 3) := by decide +kernel
theorem dX11_judge_129 : decode cX11_judge 129 = .ok (.aload_n 0, 1) := by decide +kernel
theorem dX11_judge_130 : decode cX11_judge 130 = .ok (.getfield 138, 3) := by decide +kernel
theorem dX11_judge_133 : decode cX11_judge 133 = .ok (.invokevirtual 223, 3) := by decide +kernel
theorem dX11_judge_136 : decode cX11_judge 136 = .ok (.putfield 227, 3) := by decide +kernel
theorem dX11_judge_139 : decode cX11_judge 139 = .ok (.aload_n 0, 1) := by decide +kernel
theorem dX11_judge_140 : decode cX11_judge 140 = .ok (.getfield 68, 3) := by decide +kernel
theorem dX11_judge_143 : decode cX11_judge 143 = .ok (.aload_n 0, 1) := by decide +kernel
theorem dX11_judge_144 : decode cX11_judge 144 = .ok (.getfield 19, 3) := by decide +kernel
theorem dX11_judge_147 : decode cX11_judge 147 = .ok (.iload_n 1, 1) := by decide +kernel
theorem dX11_judge_148 : decode cX11_judge 148 = .ok (.iload_n 2, 1) := by decide +kernel
theorem dX11_judge_149 : decode cX11_judge 149 = .ok (.invokevirtual 230, 3) := by decide +kernel
theorem dX11_judge_152 : decode cX11_judge 152 = .ok (.putfield 234, 3) := by decide +kernel
theorem dX11_judge_155 : decode cX11_judge 155 = .ok (.aload_n 0, 1) := by decide +kernel
theorem dX11_judge_156 : decode cX11_judge 156 = .ok (.getfield 68, 3) := by decide +kernel
theorem dX11_judge_159 : decode cX11_judge 159 = .ok (.aload_n 0, 1) := by decide +kernel
theorem dX11_judge_160 : decode cX11_judge 160 = .ok (.getfield 61, 3) := by decide +kernel
theorem dX11_judge_163 : decode cX11_judge 163 = .ok (.aload_n 0, 1) := by decide +kernel
theorem dX11_judge_164 : decode cX11_judge 164 = .ok (.getfield 167, 3) := by decide +kernel
theorem dX11_judge_167 : decode cX11_judge 167 = .ok (.aload_n 0, 1) := by decide +kernel
theorem dX11_judge_168 : decode cX11_judge 168 = .ok (.getfield 10, 3) := by decide +kernel
theorem dX11_judge_171 : decode cX11_judge 171 = .ok (.invokevirtual 238, 3) := by decide +kernel
theorem dX11_judge_174 : decode cX11_judge 174 = .ok (.aload_n 0, 1) := by decide +kernel
theorem dX11_judge_175 : decode cX11_judge 175 = .ok (.getfield 68, 3) := by decide +kernel
theorem dX11_judge_178 : decode cX11_judge 178 = .ok (.invokevirtual 242, 3) := by decide +kernel
theorem dX11_judge_181 : decode cX11_judge 181 = .ok (.aload_n 0, 1) := by decide +kernel
theorem dX11_judge_182 : decode cX11_judge 182 = .ok (.getfield 68, 3) := by decide +kernel
theorem dX11_judge_185 : decode cX11_judge 185 = .ok (.aload_n 0, 1) := by decide +kernel
theorem dX11_judge_186 : decode cX11_judge 186 = .ok (.getfield 61, 3) := by decide +kernel
theorem dX11_judge_189 : decode cX11_judge 189 = .ok (.aload 4, 2) := by decide +kernel
theorem dX11_judge_191 : decode cX11_judge 191 = .ok (.invokevirtual 245, 3) := by decide +kernel
theorem dX11_judge_194 : decode cX11_judge 194 = .ok (.iconst 0, 1) := by decide +kernel
theorem dX11_judge_195 : decode cX11_judge 195 = .ok (.ireturn, 1) := by decide +kernel
theorem dX11_judged_0 : decode cX11_judged 0 = .ok (.aload_n 0, 1) := by decide +kernel
theorem dX11_judged_1 : decode cX11_judged 1 = .ok (.getfield 68, 3) := by decide +kernel
theorem dX11_judged_4 : decode cX11_judged 4 = .ok (.getfield 202, 3) := by decide +kernel
theorem dX11_judged_7 : decode cX11_judged 7 = .ok (.ifCond .ge 7, 3) := by decide +kernel
theorem dX11_judged_10 : decode cX11_judged 10 = .ok (.ldc2_w 249, 3) := by decide +kernel
theorem dX11_judged_13 : decode cX11_judged 13 = .ok (.lreturn, 1) := by decide +kernel
theorem dX11_judged_14 : decode cX11_judged 14 = .ok (.iload_n 1, 1) := by decide +kernel
theorem dX11_judged_15 : decode cX11_judged 15 = .ok (.tableswitch 88 0 5 #[37, 46, 55, 64, 72, 80], 37) := by decide +kernel
theorem dX11_judged_52 : decode cX11_judged 52 = .ok (.aload_n 0, 1) := by decide +kernel
theorem dX11_judged_53 : decode cX11_judged 53 = .ok (.getfield 68, 3) := by decide +kernel
theorem dX11_judged_56 : decode cX11_judged 56 = .ok (.getfield 202, 3) := by decide +kernel
theorem dX11_judged_59 : decode cX11_judged 59 = .ok (.i2l, 1) := by decide +kernel
theorem dX11_judged_60 : decode cX11_judged 60 = .ok (.lreturn, 1) := by decide +kernel
theorem dX11_judged_61 : decode cX11_judged 61 = .ok (.aload_n 0, 1) := by decide +kernel
theorem dX11_judged_62 : decode cX11_judged 62 = .ok (.getfield 68, 3) := by decide +kernel
theorem dX11_judged_65 : decode cX11_judged 65 = .ok (.getfield 213, 3) := by decide +kernel
theorem dX11_judged_68 : decode cX11_judged 68 = .ok (.i2l, 1) := by decide +kernel
theorem dX11_judged_69 : decode cX11_judged 69 = .ok (.lreturn, 1) := by decide +kernel
theorem dX11_judged_70 : decode cX11_judged 70 = .ok (.aload_n 0, 1) := by decide +kernel
theorem dX11_judged_71 : decode cX11_judged 71 = .ok (.getfield 68, 3) := by decide +kernel
theorem dX11_judged_74 : decode cX11_judged 74 = .ok (.getfield 227, 3) := by decide +kernel
theorem dX11_judged_77 : decode cX11_judged 77 = .ok (.i2l, 1) := by decide +kernel
theorem dX11_judged_78 : decode cX11_judged 78 = .ok (.lreturn, 1) := by decide +kernel
theorem dX11_judged_79 : decode cX11_judged 79 = .ok (.aload_n 0, 1) := by decide +kernel
theorem dX11_judged_80 : decode cX11_judged 80 = .ok (.getfield 68, 3) := by decide +kernel
theorem dX11_judged_83 : decode cX11_judged 83 = .ok (.getfield 234, 3) := by decide +kernel
theorem dX11_judged_86 : decode cX11_judged 86 = .ok (.lreturn, 1) := by decide +kernel
theorem dX11_judged_87 : decode cX11_judged 87 = .ok (.aload_n 0, 1) := by decide +kernel
theorem dX11_judged_88 : decode cX11_judged 88 = .ok (.getfield 68, 3) := by decide +kernel
theorem dX11_judged_91 : decode cX11_judged 91 = .ok (.getfield 251, 3) := by decide +kernel
theorem dX11_judged_94 : decode cX11_judged 94 = .ok (.lreturn, 1) := by decide +kernel
theorem dX11_judged_95 : decode cX11_judged 95 = .ok (.aload_n 0, 1) := by decide +kernel
theorem dX11_judged_96 : decode cX11_judged 96 = .ok (.getfield 68, 3) := by decide +kernel
theorem dX11_judged_99 : decode cX11_judged 99 = .ok (.getfield 254, 3) := by decide +kernel
theorem dX11_judged_102 : decode cX11_judged 102 = .ok (.lreturn, 1) := by decide +kernel
theorem dX11_judged_103 : decode cX11_judged 103 = .ok (.ldc2_w 249, 3) := by decide +kernel
theorem dX11_judged_106 : decode cX11_judged 106 = .ok (.lreturn, 1) := by decide +kernel
theorem dX11_like_0 : decode cX11_like 0 = .ok (.iload_n 1, 1) := by decide +kernel
theorem dX11_like_1 : decode cX11_like 1 = .ok (.iconst 0, 1) := by decide +kernel
theorem dX11_like_2 : decode cX11_like 2 = .ok (.aload_n 0, 1) := by decide +kernel
theorem dX11_like_3 : decode cX11_like 3 = .ok (.getfield 68, 3) := by decide +kernel
theorem dX11_like_6 : decode cX11_like 6 = .ok (.getfield 213, 3) := by decide +kernel
theorem dX11_like_9 : decode cX11_like 9 = .ok (.iconst 1, 1) := by decide +kernel
theorem dX11_like_10 : decode cX11_like 10 = .ok (.isub, 1) := by decide +kernel
theorem dX11_like_11 : decode cX11_like 11 = .ok (.invokestatic 78, 3) := by decide +kernel
theorem dX11_like_14 : decode cX11_like 14 = .ok (.ifCond .eq 15, 3) := by decide +kernel
theorem dX11_like_17 : decode cX11_like 17 = .ok (.aload_n 0, 1) := by decide +kernel
theorem dX11_like_18 : decode cX11_like 18 = .ok (.getfield 68, 3) := by decide +kernel
theorem dX11_like_21 : decode cX11_like 21 = .ok (.getfield 205, 3) := by decide +kernel
theorem dX11_like_24 : decode cX11_like 24 = .ok (.iload_n 1, 1) := by decide +kernel
theorem dX11_like_25 : decode cX11_like 25 = .ok (.iaload, 1) := by decide +kernel
theorem dX11_like_26 : decode cX11_like 26 = .ok (.goto 4, 3) := by decide +kernel
theorem dX11_like_29 : decode cX11_like 29 = .ok (.iconst (-1), 1) := by decide +kernel
theorem dX11_like_30 : decode cX11_like 30 = .ok (.ireturn, 1) := by decide +kernel
theorem dX11_share_0 : decode cX11_share 0 = .ok (.iload_n 1, 1) := by decide +kernel
theorem dX11_share_1 : decode cX11_share 1 = .ok (.iconst 0, 1) := by decide +kernel
theorem dX11_share_2 : decode cX11_share 2 = .ok (.aload_n 0, 1) := by decide +kernel
theorem dX11_share_3 : decode cX11_share 3 = .ok (.getfield 68, 3) := by decide +kernel
theorem dX11_share_6 : decode cX11_share 6 = .ok (.getfield 257, 3) := by decide +kernel
theorem dX11_share_9 : decode cX11_share 9 = .ok (.iconst 1, 1) := by decide +kernel
theorem dX11_share_10 : decode cX11_share 10 = .ok (.isub, 1) := by decide +kernel
theorem dX11_share_11 : decode cX11_share 11 = .ok (.invokestatic 78, 3) := by decide +kernel
theorem dX11_share_14 : decode cX11_share 14 = .ok (.ifCond .ne 7, 3) := by decide +kernel
theorem dX11_share_17 : decode cX11_share 17 = .ok (.ldc2_w 249, 3) := by decide +kernel
theorem dX11_share_20 : decode cX11_share 20 = .ok (.lreturn, 1) := by decide +kernel
theorem dX11_share_21 : decode cX11_share 21 = .ok (.aload_n 0, 1) := by decide +kernel
theorem dX11_share_22 : decode cX11_share 22 = .ok (.getfield 68, 3) := by decide +kernel
theorem dX11_share_25 : decode cX11_share 25 = .ok (.getfield 258, 3) := by decide +kernel
theorem dX11_share_28 : decode cX11_share 28 = .ok (.iload_n 1, 1) := by decide +kernel
theorem dX11_share_29 : decode cX11_share 29 = .ok (.aaload, 1) := by decide +kernel
theorem dX11_share_30 : decode cX11_share 30 = .ok (.astore_n 3, 1) := by decide +kernel
theorem dX11_share_31 : decode cX11_share 31 = .ok (.iload_n 2, 1) := by decide +kernel
theorem dX11_share_32 : decode cX11_share 32 = .ok (.tableswitch 79 0 6 #[44, 49, 54, 59, 64, 69, 74], 44) := by decide +kernel
theorem dX11_share_76 : decode cX11_share 76 = .ok (.aload_n 3, 1) := by decide +kernel
theorem dX11_share_77 : decode cX11_share 77 = .ok (.getfield 262, 3) := by decide +kernel
theorem dX11_share_80 : decode cX11_share 80 = .ok (.lreturn, 1) := by decide +kernel
theorem dX11_share_81 : decode cX11_share 81 = .ok (.aload_n 3, 1) := by decide +kernel
theorem dX11_share_82 : decode cX11_share 82 = .ok (.getfield 267, 3) := by decide +kernel
theorem dX11_share_85 : decode cX11_share 85 = .ok (.lreturn, 1) := by decide +kernel
theorem dX11_share_86 : decode cX11_share 86 = .ok (.aload_n 3, 1) := by decide +kernel
theorem dX11_share_87 : decode cX11_share 87 = .ok (.getfield 270, 3) := by decide +kernel
theorem dX11_share_90 : decode cX11_share 90 = .ok (.lreturn, 1) := by decide +kernel
theorem dX11_share_91 : decode cX11_share 91 = .ok (.aload_n 3, 1) := by decide +kernel
theorem dX11_share_92 : decode cX11_share 92 = .ok (.getfield 273, 3) := by decide +kernel
theorem dX11_share_95 : decode cX11_share 95 = .ok (.lreturn, 1) := by decide +kernel
theorem dX11_share_96 : decode cX11_share 96 = .ok (.aload_n 3, 1) := by decide +kernel
theorem dX11_share_97 : decode cX11_share 97 = .ok (.getfield 275, 3) := by decide +kernel
theorem dX11_share_100 : decode cX11_share 100 = .ok (.lreturn, 1) := by decide +kernel
theorem dX11_share_101 : decode cX11_share 101 = .ok (.aload_n 3, 1) := by decide +kernel
theorem dX11_share_102 : decode cX11_share 102 = .ok (.getfield 277, 3) := by decide +kernel
theorem dX11_share_105 : decode cX11_share 105 = .ok (.lreturn, 1) := by decide +kernel
theorem dX11_share_106 : decode cX11_share 106 = .ok (.aload_n 3, 1) := by decide +kernel
theorem dX11_share_107 : decode cX11_share 107 = .ok (.getfield 279, 3) := by decide +kernel
theorem dX11_share_110 : decode cX11_share 110 = .ok (.lreturn, 1) := by decide +kernel
theorem dX11_share_111 : decode cX11_share 111 = .ok (.ldc2_w 249, 3) := by decide +kernel
theorem dX11_share_114 : decode cX11_share 114 = .ok (.lreturn, 1) := by decide +kernel
theorem dX11_hand_0 : decode cX11_hand 0 = .ok (.iload_n 1, 1) := by decide +kernel
theorem dX11_hand_1 : decode cX11_hand 1 = .ok (.iconst 0, 1) := by decide +kernel
theorem dX11_hand_2 : decode cX11_hand 2 = .ok (.aload_n 0, 1) := by decide +kernel
theorem dX11_hand_3 : decode cX11_hand 3 = .ok (.getfield 68, 3) := by decide +kernel
theorem dX11_hand_6 : decode cX11_hand 6 = .ok (.getfield 257, 3) := by decide +kernel
theorem dX11_hand_9 : decode cX11_hand 9 = .ok (.iconst 1, 1) := by decide +kernel
theorem dX11_hand_10 : decode cX11_hand 10 = .ok (.isub, 1) := by decide +kernel
theorem dX11_hand_11 : decode cX11_hand 11 = .ok (.invokestatic 78, 3) := by decide +kernel
theorem dX11_hand_14 : decode cX11_hand 14 = .ok (.ifCond .ne 7, 3) := by decide +kernel
theorem dX11_hand_17 : decode cX11_hand 17 = .ok (.ldc2_w 249, 3) := by decide +kernel
theorem dX11_hand_20 : decode cX11_hand 20 = .ok (.lreturn, 1) := by decide +kernel
theorem dX11_hand_21 : decode cX11_hand 21 = .ok (.aload_n 0, 1) := by decide +kernel
theorem dX11_hand_22 : decode cX11_hand 22 = .ok (.getfield 68, 3) := by decide +kernel
theorem dX11_hand_25 : decode cX11_hand 25 = .ok (.getfield 258, 3) := by decide +kernel
theorem dX11_hand_28 : decode cX11_hand 28 = .ok (.iload_n 1, 1) := by decide +kernel
theorem dX11_hand_29 : decode cX11_hand 29 = .ok (.aaload, 1) := by decide +kernel
theorem dX11_hand_30 : decode cX11_hand 30 = .ok (.astore_n 3, 1) := by decide +kernel
theorem dX11_hand_31 : decode cX11_hand 31 = .ok (.iload_n 2, 1) := by decide +kernel
theorem dX11_hand_32 : decode cX11_hand 32 = .ok (.iconst 0, 1) := by decide +kernel
theorem dX11_hand_33 : decode cX11_hand 33 = .ok (.aload_n 3, 1) := by decide +kernel
theorem dX11_hand_34 : decode cX11_hand 34 = .ok (.getfield 282, 3) := by decide +kernel
theorem dX11_hand_37 : decode cX11_hand 37 = .ok (.iconst 1, 1) := by decide +kernel
theorem dX11_hand_38 : decode cX11_hand 38 = .ok (.isub, 1) := by decide +kernel
theorem dX11_hand_39 : decode cX11_hand 39 = .ok (.invokestatic 78, 3) := by decide +kernel
theorem dX11_hand_42 : decode cX11_hand 42 = .ok (.ifCond .eq 12, 3) := by decide +kernel
theorem dX11_hand_45 : decode cX11_hand 45 = .ok (.aload_n 3, 1) := by decide +kernel
theorem dX11_hand_46 : decode cX11_hand 46 = .ok (.getfield 283, 3) := by decide +kernel
theorem dX11_hand_49 : decode cX11_hand 49 = .ok (.iload_n 2, 1) := by decide +kernel
theorem dX11_hand_50 : decode cX11_hand 50 = .ok (.laload, 1) := by decide +kernel
theorem dX11_hand_51 : decode cX11_hand 51 = .ok (.goto 6, 3) := by decide +kernel
theorem dX11_hand_54 : decode cX11_hand 54 = .ok (.ldc2_w 249, 3) := by decide +kernel
theorem dX11_hand_57 : decode cX11_hand 57 = .ok (.lreturn, 1) := by decide +kernel
theorem dX11_saved_0 : decode cX11_saved 0 = .ok (.iload_n 1, 1) := by decide +kernel
theorem dX11_saved_1 : decode cX11_saved 1 = .ok (.invokestatic 116, 3) := by decide +kernel
theorem dX11_saved_4 : decode cX11_saved 4 = .ok (.ifCond .eq 17, 3) := by decide +kernel
theorem dX11_saved_7 : decode cX11_saved 7 = .ok (.iload_n 2, 1) := by decide +kernel
theorem dX11_saved_8 : decode cX11_saved 8 = .ok (.invokestatic 119, 3) := by decide +kernel
theorem dX11_saved_11 : decode cX11_saved 11 = .ok (.ifCond .eq 10, 3) := by decide +kernel
theorem dX11_saved_14 : decode cX11_saved 14 = .ok (.iload_n 3, 1) := by decide +kernel
theorem dX11_saved_15 : decode cX11_saved 15 = .ok (.invokestatic 119, 3) := by decide +kernel
theorem dX11_saved_18 : decode cX11_saved 18 = .ok (.ifCond .ne 5, 3) := by decide +kernel
theorem dX11_saved_21 : decode cX11_saved 21 = .ok (.iconst (-1), 1) := by decide +kernel
theorem dX11_saved_22 : decode cX11_saved 22 = .ok (.ireturn, 1) := by decide +kernel
theorem dX11_saved_23 : decode cX11_saved 23 = .ok (.aload_n 0, 1) := by decide +kernel
theorem dX11_saved_24 : decode cX11_saved 24 = .ok (.getfield 19, 3) := by decide +kernel
theorem dX11_saved_27 : decode cX11_saved 27 = .ok (.iload_n 1, 1) := by decide +kernel
theorem dX11_saved_28 : decode cX11_saved 28 = .ok (.iload_n 2, 1) := by decide +kernel
theorem dX11_saved_29 : decode cX11_saved 29 = .ok (.iload_n 3, 1) := by decide +kernel
theorem dX11_saved_30 : decode cX11_saved 30 = .ok (.invokevirtual 287, 3) := by decide +kernel
theorem dX11_saved_33 : decode cX11_saved 33 = .ok (.ireturn, 1) := by decide +kernel
theorem dX11_count_0 : decode cX11_count 0 = .ok (.iload_n 1, 1) := by decide +kernel
theorem dX11_count_1 : decode cX11_count 1 = .ok (.tableswitch 102 0 7 #[47, 52, 60, 68, 76, 84, 89, 94], 47) := by decide +kernel
theorem dX11_count_48 : decode cX11_count 48 = .ok (.aload_n 0, 1) := by decide +kernel
theorem dX11_count_49 : decode cX11_count 49 = .ok (.getfield 74, 3) := by decide +kernel
theorem dX11_count_52 : decode cX11_count 52 = .ok (.ireturn, 1) := by decide +kernel
theorem dX11_count_53 : decode cX11_count 53 = .ok (.aload_n 0, 1) := by decide +kernel
theorem dX11_count_54 : decode cX11_count 54 = .ok (.getfield 10, 3) := by decide +kernel
theorem dX11_count_57 : decode cX11_count 57 = .ok (.getfield 290, 3) := by decide +kernel
theorem dX11_count_60 : decode cX11_count 60 = .ok (.ireturn, 1) := by decide +kernel
theorem dX11_count_61 : decode cX11_count 61 = .ok (.aload_n 0, 1) := by decide +kernel
theorem dX11_count_62 : decode cX11_count 62 = .ok (.getfield 10, 3) := by decide +kernel
theorem dX11_count_65 : decode cX11_count 65 = .ok (.invokevirtual 293, 3) := by decide +kernel
theorem dX11_count_68 : decode cX11_count 68 = .ok (.ireturn, 1) := by decide +kernel
theorem dX11_count_69 : decode cX11_count 69 = .ok (.aload_n 0, 1) := by decide +kernel
theorem dX11_count_70 : decode cX11_count 70 = .ok (.getfield 19, 3) := by decide +kernel
theorem dX11_count_73 : decode cX11_count 73 = .ok (.getfield 296, 3) := by decide +kernel
theorem dX11_count_76 : decode cX11_count 76 = .ok (.ireturn, 1) := by decide +kernel
theorem dX11_count_77 : decode cX11_count 77 = .ok (.aload_n 0, 1) := by decide +kernel
theorem dX11_count_78 : decode cX11_count 78 = .ok (.getfield 26, 3) := by decide +kernel
theorem dX11_count_81 : decode cX11_count 81 = .ok (.getfield 297, 3) := by decide +kernel
theorem dX11_count_84 : decode cX11_count 84 = .ok (.ireturn, 1) := by decide +kernel
theorem dX11_count_85 : decode cX11_count 85 = .ok (.aload_n 0, 1) := by decide +kernel
theorem dX11_count_86 : decode cX11_count 86 = .ok (.getfield 147, 3) := by decide +kernel
theorem dX11_count_89 : decode cX11_count 89 = .ok (.ireturn, 1) := by decide +kernel
theorem dX11_count_90 : decode cX11_count 90 = .ok (.aload_n 0, 1) := by decide +kernel
theorem dX11_count_91 : decode cX11_count 91 = .ok (.getfield 167, 3) := by decide +kernel
theorem dX11_count_94 : decode cX11_count 94 = .ok (.ireturn, 1) := by decide +kernel
theorem dX11_count_95 : decode cX11_count 95 = .ok (.aload_n 0, 1) := by decide +kernel
theorem dX11_count_96 : decode cX11_count 96 = .ok (.getfield 33, 3) := by decide +kernel
theorem dX11_count_99 : decode cX11_count 99 = .ok (.getfield 141, 3) := by decide +kernel
theorem dX11_count_102 : decode cX11_count 102 = .ok (.ireturn, 1) := by decide +kernel
theorem dX11_count_103 : decode cX11_count 103 = .ok (.iconst (-1), 1) := by decide +kernel
theorem dX11_count_104 : decode cX11_count 104 = .ok (.ireturn, 1) := by decide +kernel
theorem dX11_isWithin_0 : decode cX11_isWithin 0 = .ok (.iload_n 0, 1) := by decide +kernel
theorem dX11_isWithin_1 : decode cX11_isWithin 1 = .ok (.iload_n 1, 1) := by decide +kernel
theorem dX11_isWithin_2 : decode cX11_isWithin 2 = .ok (.if_icmp .lt 12, 3) := by decide +kernel
theorem dX11_isWithin_5 : decode cX11_isWithin 5 = .ok (.iload_n 0, 1) := by decide +kernel
theorem dX11_isWithin_6 : decode cX11_isWithin 6 = .ok (.iload_n 2, 1) := by decide +kernel
theorem dX11_isWithin_7 : decode cX11_isWithin 7 = .ok (.if_icmp .gt 7, 3) := by decide +kernel
theorem dX11_isWithin_10 : decode cX11_isWithin 10 = .ok (.iconst 1, 1) := by decide +kernel
theorem dX11_isWithin_11 : decode cX11_isWithin 11 = .ok (.goto 4, 3) := by decide +kernel
theorem dX11_isWithin_14 : decode cX11_isWithin 14 = .ok (.iconst 0, 1) := by decide +kernel
theorem dX11_isWithin_15 : decode cX11_isWithin 15 = .ok (.ireturn, 1) := by decide +kernel
theorem dX11_isDay_0 : decode cX11_isDay 0 = .ok (.iload_n 0, 1) := by decide +kernel
theorem dX11_isDay_1 : decode cX11_isDay 1 = .ok (.iconst 0, 1) := by decide +kernel
theorem dX11_isDay_2 : decode cX11_isDay 2 = .ok (.sipush 5000, 3) := by decide +kernel
theorem dX11_isDay_5 : decode cX11_isDay 5 = .ok (.invokestatic 78, 3) := by decide +kernel
theorem dX11_isDay_8 : decode cX11_isDay 8 = .ok (.ireturn, 1) := by decide +kernel
theorem dX11_isThing_0 : decode cX11_isThing 0 = .ok (.iload_n 0, 1) := by decide +kernel
theorem dX11_isThing_1 : decode cX11_isThing 1 = .ok (.iconst 0, 1) := by decide +kernel
theorem dX11_isThing_2 : decode cX11_isThing 2 = .ok (.bipush 15, 2) := by decide +kernel
theorem dX11_isThing_4 : decode cX11_isThing 4 = .ok (.invokestatic 78, 3) := by decide +kernel
theorem dX11_isThing_7 : decode cX11_isThing 7 = .ok (.ireturn, 1) := by decide +kernel
theorem dX11_isGood_0 : decode cX11_isGood 0 = .ok (.iload_n 0, 1) := by decide +kernel
theorem dX11_isGood_1 : decode cX11_isGood 1 = .ok (.iconst 0, 1) := by decide +kernel
theorem dX11_isGood_2 : decode cX11_isGood 2 = .ok (.bipush 9, 2) := by decide +kernel
theorem dX11_isGood_4 : decode cX11_isGood 4 = .ok (.invokestatic 78, 3) := by decide +kernel
theorem dX11_isGood_7 : decode cX11_isGood 7 = .ok (.ireturn, 1) := by decide +kernel
theorem dX11_handWeight_0 : decode cX11_handWeight 0 = .ok (.iload_n 0, 1) := by decide +kernel
theorem dX11_handWeight_1 : decode cX11_handWeight 1 = .ok (.bipush 16, 2) := by decide +kernel
theorem dX11_handWeight_3 : decode cX11_handWeight 3 = .ok (.idiv, 1) := by decide +kernel
theorem dX11_handWeight_4 : decode cX11_handWeight 4 = .ok (.istore 9, 2) := by decide +kernel
theorem dX11_handWeight_6 : decode cX11_handWeight 6 = .ok (.iload 9, 2) := by decide +kernel
theorem dX11_handWeight_8 : decode cX11_handWeight 8 = .ok (.ifCond .ne 7, 3) := by decide +kernel
theorem dX11_handWeight_11 : decode cX11_handWeight 11 = .ok (.lload_n 1, 1) := by decide +kernel
theorem dX11_handWeight_12 : decode cX11_handWeight 12 = .ok (.goto 26, 3) := by decide +kernel
theorem dX11_handWeight_15 : decode cX11_handWeight 15 = .ok (.iload 9, 2) := by decide +kernel
theorem dX11_handWeight_17 : decode cX11_handWeight 17 = .ok (.iconst 1, 1) := by decide +kernel
theorem dX11_handWeight_18 : decode cX11_handWeight 18 = .ok (.if_icmp .ne 7, 3) := by decide +kernel
theorem dX11_handWeight_21 : decode cX11_handWeight 21 = .ok (.lload_n 3, 1) := by decide +kernel
theorem dX11_handWeight_22 : decode cX11_handWeight 22 = .ok (.goto 16, 3) := by decide +kernel
theorem dX11_handWeight_25 : decode cX11_handWeight 25 = .ok (.iload 9, 2) := by decide +kernel
theorem dX11_handWeight_27 : decode cX11_handWeight 27 = .ok (.iconst 2, 1) := by decide +kernel
theorem dX11_handWeight_28 : decode cX11_handWeight 28 = .ok (.if_icmp .ne 8, 3) := by decide +kernel
theorem dX11_handWeight_31 : decode cX11_handWeight 31 = .ok (.lload 5, 2) := by decide +kernel
theorem dX11_handWeight_33 : decode cX11_handWeight 33 = .ok (.goto 5, 3) := by decide +kernel
theorem dX11_handWeight_36 : decode cX11_handWeight 36 = .ok (.lload 7, 2) := by decide +kernel
theorem dX11_handWeight_38 : decode cX11_handWeight 38 = .ok (.lstore 10, 2) := by decide +kernel
theorem dX11_handWeight_40 : decode cX11_handWeight 40 = .ok (.lload 10, 2) := by decide +kernel
theorem dX11_handWeight_42 : decode cX11_handWeight 42 = .ok (.iconst 4, 1) := by decide +kernel
theorem dX11_handWeight_43 : decode cX11_handWeight 43 = .ok (.iload_n 0, 1) := by decide +kernel
theorem dX11_handWeight_44 : decode cX11_handWeight 44 = .ok (.bipush 16, 2) := by decide +kernel
theorem dX11_handWeight_46 : decode cX11_handWeight 46 = .ok (.irem, 1) := by decide +kernel
theorem dX11_handWeight_47 : decode cX11_handWeight 47 = .ok (.imul, 1) := by decide +kernel
theorem dX11_handWeight_48 : decode cX11_handWeight 48 = .ok (.lushr, 1) := by decide +kernel
theorem dX11_handWeight_49 : decode cX11_handWeight 49 = .ok (.l2i, 1) := by decide +kernel
theorem dX11_handWeight_50 : decode cX11_handWeight 50 = .ok (.bipush 15, 2) := by decide +kernel
theorem dX11_handWeight_52 : decode cX11_handWeight 52 = .ok (.iand, 1) := by decide +kernel
theorem dX11_handWeight_53 : decode cX11_handWeight 53 = .ok (.ireturn, 1) := by decide +kernel
theorem dL_law_0 : decode cL_law 0 = .ok (.new 7, 3) := by decide +kernel
theorem dL_law_3 : decode cL_law 3 = .ok (.dup, 1) := by decide +kernel
theorem dL_law_4 : decode cL_law 4 = .ok (.invokespecial 9, 3) := by decide +kernel
theorem dL_law_7 : decode cL_law 7 = .ok (.astore_n 1, 1) := by decide +kernel
theorem dL_law_8 : decode cL_law 8 = .ok (.new 10, 3) := by decide +kernel
theorem dL_law_11 : decode cL_law 11 = .ok (.dup, 1) := by decide +kernel
theorem dL_law_12 : decode cL_law 12 = .ok (.invokespecial 12, 3) := by decide +kernel
theorem dL_law_15 : decode cL_law 15 = .ok (.astore_n 2, 1) := by decide +kernel
theorem dL_law_16 : decode cL_law 16 = .ok (.iconst 0, 1) := by decide +kernel
theorem dL_law_17 : decode cL_law 17 = .ok (.istore_n 3, 1) := by decide +kernel
theorem dL_law_18 : decode cL_law 18 = .ok (.iload_n 3, 1) := by decide +kernel
theorem dL_law_19 : decode cL_law 19 = .ok (.aload_n 0, 1) := by decide +kernel
theorem dL_law_20 : decode cL_law 20 = .ok (.arraylength, 1) := by decide +kernel
theorem dL_law_21 : decode cL_law 21 = .ok (.bipush 10, 2) := by decide +kernel
theorem dL_law_23 : decode cL_law 23 = .ok (.isub, 1) := by decide +kernel
theorem dL_law_24 : decode cL_law 24 = .ok (.if_icmp .gt 1094, 3) := by decide +kernel
theorem dL_law_27 : decode cL_law 27 = .ok (.aload_n 0, 1) := by decide +kernel
theorem dL_law_28 : decode cL_law 28 = .ok (.iload_n 3, 1) := by decide +kernel
theorem dL_law_29 : decode cL_law 29 = .ok (.iaload, 1) := by decide +kernel
theorem dL_law_30 : decode cL_law 30 = .ok (.bipush 31, 2) := by decide +kernel
theorem dL_law_32 : decode cL_law 32 = .ok (.iand, 1) := by decide +kernel
theorem dL_law_33 : decode cL_law 33 = .ok (.tableswitch 1079 0 22 #[107, 130, 163, 226, 249, 292, 305, 328, 381, 424, 457, 490, 553, 576, 599, 790, 865, 898, 922, 945, 979, 1013, 1056], 107) := by decide +kernel
theorem dL_law_140 : decode cL_law 140 = .ok (.aload_n 1, 1) := by decide +kernel
theorem dL_law_141 : decode cL_law 141 = .ok (.aload_n 0, 1) := by decide +kernel
theorem dL_law_142 : decode cL_law 142 = .ok (.iload_n 3, 1) := by decide +kernel
theorem dL_law_143 : decode cL_law 143 = .ok (.iconst 1, 1) := by decide +kernel
theorem dL_law_144 : decode cL_law 144 = .ok (.iadd, 1) := by decide +kernel
theorem dL_law_145 : decode cL_law 145 = .ok (.iaload, 1) := by decide +kernel
theorem dL_law_146 : decode cL_law 146 = .ok (.invokevirtual 13, 3) := by decide +kernel
theorem dL_law_149 : decode cL_law 149 = .ok (.aload_n 2, 1) := by decide +kernel
theorem dL_law_150 : decode cL_law 150 = .ok (.aload_n 0, 1) := by decide +kernel
theorem dL_law_151 : decode cL_law 151 = .ok (.iload_n 3, 1) := by decide +kernel
theorem dL_law_152 : decode cL_law 152 = .ok (.iconst 1, 1) := by decide +kernel
theorem dL_law_153 : decode cL_law 153 = .ok (.iadd, 1) := by decide +kernel
theorem dL_law_154 : decode cL_law 154 = .ok (.iaload, 1) := by decide +kernel
theorem dL_law_155 : decode cL_law 155 = .ok (.invokevirtual 17, 3) := by decide +kernel
theorem dL_law_158 : decode cL_law 158 = .ok (.if_icmp .eq 954, 3) := by decide +kernel
theorem dL_law_161 : decode cL_law 161 = .ok (.iconst 0, 1) := by decide +kernel
theorem dL_law_162 : decode cL_law 162 = .ok (.ireturn, 1) := by decide +kernel
theorem dL_law_163 : decode cL_law 163 = .ok (.aload_n 1, 1) := by decide +kernel
theorem dL_law_164 : decode cL_law 164 = .ok (.aload_n 0, 1) := by decide +kernel
theorem dL_law_165 : decode cL_law 165 = .ok (.iload_n 3, 1) := by decide +kernel
theorem dL_law_166 : decode cL_law 166 = .ok (.iconst 1, 1) := by decide +kernel
theorem dL_law_167 : decode cL_law 167 = .ok (.iadd, 1) := by decide +kernel
theorem dL_law_168 : decode cL_law 168 = .ok (.iaload, 1) := by decide +kernel
theorem dL_law_169 : decode cL_law 169 = .ok (.aload_n 0, 1) := by decide +kernel
theorem dL_law_170 : decode cL_law 170 = .ok (.iload_n 3, 1) := by decide +kernel
theorem dL_law_171 : decode cL_law 171 = .ok (.iconst 2, 1) := by decide +kernel
theorem dL_law_172 : decode cL_law 172 = .ok (.iadd, 1) := by decide +kernel
theorem dL_law_173 : decode cL_law 173 = .ok (.iaload, 1) := by decide +kernel
theorem dL_law_174 : decode cL_law 174 = .ok (.invokevirtual 18, 3) := by decide +kernel
theorem dL_law_177 : decode cL_law 177 = .ok (.aload_n 2, 1) := by decide +kernel
theorem dL_law_178 : decode cL_law 178 = .ok (.aload_n 0, 1) := by decide +kernel
theorem dL_law_179 : decode cL_law 179 = .ok (.iload_n 3, 1) := by decide +kernel
theorem dL_law_180 : decode cL_law 180 = .ok (.iconst 1, 1) := by decide +kernel
theorem dL_law_181 : decode cL_law 181 = .ok (.iadd, 1) := by decide +kernel
theorem dL_law_182 : decode cL_law 182 = .ok (.iaload, 1) := by decide +kernel
theorem dL_law_183 : decode cL_law 183 = .ok (.aload_n 0, 1) := by decide +kernel
theorem dL_law_184 : decode cL_law 184 = .ok (.iload_n 3, 1) := by decide +kernel
theorem dL_law_185 : decode cL_law 185 = .ok (.iconst 2, 1) := by decide +kernel
theorem dL_law_186 : decode cL_law 186 = .ok (.iadd, 1) := by decide +kernel
theorem dL_law_187 : decode cL_law 187 = .ok (.iaload, 1) := by decide +kernel
theorem dL_law_188 : decode cL_law 188 = .ok (.invokevirtual 22, 3) := by decide +kernel
theorem dL_law_191 : decode cL_law 191 = .ok (.if_icmp .eq 921, 3) := by decide +kernel
theorem dL_law_194 : decode cL_law 194 = .ok (.iconst 0, 1) := by decide +kernel
theorem dL_law_195 : decode cL_law 195 = .ok (.ireturn, 1) := by decide +kernel
theorem dL_law_196 : decode cL_law 196 = .ok (.aload_n 1, 1) := by decide +kernel
theorem dL_law_197 : decode cL_law 197 = .ok (.aload_n 0, 1) := by decide +kernel
theorem dL_law_198 : decode cL_law 198 = .ok (.iload_n 3, 1) := by decide +kernel
theorem dL_law_199 : decode cL_law 199 = .ok (.iconst 1, 1) := by decide +kernel
theorem dL_law_200 : decode cL_law 200 = .ok (.iadd, 1) := by decide +kernel
theorem dL_law_201 : decode cL_law 201 = .ok (.iaload, 1) := by decide +kernel
theorem dL_law_202 : decode cL_law 202 = .ok (.aload_n 0, 1) := by decide +kernel
theorem dL_law_203 : decode cL_law 203 = .ok (.iload_n 3, 1) := by decide +kernel
theorem dL_law_204 : decode cL_law 204 = .ok (.iconst 2, 1) := by decide +kernel
theorem dL_law_205 : decode cL_law 205 = .ok (.iadd, 1) := by decide +kernel
theorem dL_law_206 : decode cL_law 206 = .ok (.iaload, 1) := by decide +kernel
theorem dL_law_207 : decode cL_law 207 = .ok (.aload_n 0, 1) := by decide +kernel
theorem dL_law_208 : decode cL_law 208 = .ok (.iload_n 3, 1) := by decide +kernel
theorem dL_law_209 : decode cL_law 209 = .ok (.iconst 3, 1) := by decide +kernel
theorem dL_law_210 : decode cL_law 210 = .ok (.iadd, 1) := by decide +kernel
theorem dL_law_211 : decode cL_law 211 = .ok (.iaload, 1) := by decide +kernel
theorem dL_law_212 : decode cL_law 212 = .ok (.aload_n 0, 1) := by decide +kernel
theorem dL_law_213 : decode cL_law 213 = .ok (.iload_n 3, 1) := by decide +kernel
theorem dL_law_214 : decode cL_law 214 = .ok (.iconst 4, 1) := by decide +kernel
theorem dL_law_215 : decode cL_law 215 = .ok (.iadd, 1) := by decide +kernel
theorem dL_law_216 : decode cL_law 216 = .ok (.iaload, 1) := by decide +kernel
theorem dL_law_217 : decode cL_law 217 = .ok (.aload_n 0, 1) := by decide +kernel
theorem dL_law_218 : decode cL_law 218 = .ok (.iload_n 3, 1) := by decide +kernel
theorem dL_law_219 : decode cL_law 219 = .ok (.iconst 5, 1) := by decide +kernel
theorem dL_law_220 : decode cL_law 220 = .ok (.iadd, 1) := by decide +kernel
theorem dL_law_221 : decode cL_law 221 = .ok (.iaload, 1) := by decide +kernel
theorem dL_law_222 : decode cL_law 222 = .ok (.invokevirtual 23, 3) := by decide +kernel
theorem dL_law_225 : decode cL_law 225 = .ok (.aload_n 2, 1) := by decide +kernel
theorem dL_law_226 : decode cL_law 226 = .ok (.aload_n 0, 1) := by decide +kernel
theorem dL_law_227 : decode cL_law 227 = .ok (.iload_n 3, 1) := by decide +kernel
theorem dL_law_228 : decode cL_law 228 = .ok (.iconst 1, 1) := by decide +kernel
theorem dL_law_229 : decode cL_law 229 = .ok (.iadd, 1) := by decide +kernel
theorem dL_law_230 : decode cL_law 230 = .ok (.iaload, 1) := by decide +kernel
theorem dL_law_231 : decode cL_law 231 = .ok (.aload_n 0, 1) := by decide +kernel
theorem dL_law_232 : decode cL_law 232 = .ok (.iload_n 3, 1) := by decide +kernel
theorem dL_law_233 : decode cL_law 233 = .ok (.iconst 2, 1) := by decide +kernel
theorem dL_law_234 : decode cL_law 234 = .ok (.iadd, 1) := by decide +kernel
theorem dL_law_235 : decode cL_law 235 = .ok (.iaload, 1) := by decide +kernel
theorem dL_law_236 : decode cL_law 236 = .ok (.aload_n 0, 1) := by decide +kernel
theorem dL_law_237 : decode cL_law 237 = .ok (.iload_n 3, 1) := by decide +kernel
theorem dL_law_238 : decode cL_law 238 = .ok (.iconst 3, 1) := by decide +kernel
theorem dL_law_239 : decode cL_law 239 = .ok (.iadd, 1) := by decide +kernel
theorem dL_law_240 : decode cL_law 240 = .ok (.iaload, 1) := by decide +kernel
theorem dL_law_241 : decode cL_law 241 = .ok (.aload_n 0, 1) := by decide +kernel
theorem dL_law_242 : decode cL_law 242 = .ok (.iload_n 3, 1) := by decide +kernel
theorem dL_law_243 : decode cL_law 243 = .ok (.iconst 4, 1) := by decide +kernel
theorem dL_law_244 : decode cL_law 244 = .ok (.iadd, 1) := by decide +kernel
theorem dL_law_245 : decode cL_law 245 = .ok (.iaload, 1) := by decide +kernel
theorem dL_law_246 : decode cL_law 246 = .ok (.aload_n 0, 1) := by decide +kernel
theorem dL_law_247 : decode cL_law 247 = .ok (.iload_n 3, 1) := by decide +kernel
theorem dL_law_248 : decode cL_law 248 = .ok (.iconst 5, 1) := by decide +kernel
theorem dL_law_249 : decode cL_law 249 = .ok (.iadd, 1) := by decide +kernel
theorem dL_law_250 : decode cL_law 250 = .ok (.iaload, 1) := by decide +kernel
theorem dL_law_251 : decode cL_law 251 = .ok (.invokevirtual 27, 3) := by decide +kernel
theorem dL_law_254 : decode cL_law 254 = .ok (.if_icmp .eq 858, 3) := by decide +kernel
theorem dL_law_257 : decode cL_law 257 = .ok (.iconst 0, 1) := by decide +kernel
theorem dL_law_258 : decode cL_law 258 = .ok (.ireturn, 1) := by decide +kernel
theorem dL_law_259 : decode cL_law 259 = .ok (.aload_n 1, 1) := by decide +kernel
theorem dL_law_260 : decode cL_law 260 = .ok (.aload_n 0, 1) := by decide +kernel
theorem dL_law_261 : decode cL_law 261 = .ok (.iload_n 3, 1) := by decide +kernel
theorem dL_law_262 : decode cL_law 262 = .ok (.iconst 1, 1) := by decide +kernel
theorem dL_law_263 : decode cL_law 263 = .ok (.iadd, 1) := by decide +kernel
theorem dL_law_264 : decode cL_law 264 = .ok (.iaload, 1) := by decide +kernel
theorem dL_law_265 : decode cL_law 265 = .ok (.invokevirtual 28, 3) := by decide +kernel
theorem dL_law_268 : decode cL_law 268 = .ok (.aload_n 2, 1) := by decide +kernel
theorem dL_law_269 : decode cL_law 269 = .ok (.aload_n 0, 1) := by decide +kernel
theorem dL_law_270 : decode cL_law 270 = .ok (.iload_n 3, 1) := by decide +kernel
theorem dL_law_271 : decode cL_law 271 = .ok (.iconst 1, 1) := by decide +kernel
theorem dL_law_272 : decode cL_law 272 = .ok (.iadd, 1) := by decide +kernel
theorem dL_law_273 : decode cL_law 273 = .ok (.iaload, 1) := by decide +kernel
theorem dL_law_274 : decode cL_law 274 = .ok (.invokevirtual 32, 3) := by decide +kernel
theorem dL_law_277 : decode cL_law 277 = .ok (.if_icmp .eq 835, 3) := by decide +kernel
theorem dL_law_280 : decode cL_law 280 = .ok (.iconst 0, 1) := by decide +kernel
theorem dL_law_281 : decode cL_law 281 = .ok (.ireturn, 1) := by decide +kernel
theorem dL_law_282 : decode cL_law 282 = .ok (.aload_n 1, 1) := by decide +kernel
theorem dL_law_283 : decode cL_law 283 = .ok (.aload_n 0, 1) := by decide +kernel
theorem dL_law_284 : decode cL_law 284 = .ok (.iload_n 3, 1) := by decide +kernel
theorem dL_law_285 : decode cL_law 285 = .ok (.iconst 1, 1) := by decide +kernel
theorem dL_law_286 : decode cL_law 286 = .ok (.iadd, 1) := by decide +kernel
theorem dL_law_287 : decode cL_law 287 = .ok (.iaload, 1) := by decide +kernel
theorem dL_law_288 : decode cL_law 288 = .ok (.aload_n 0, 1) := by decide +kernel
theorem dL_law_289 : decode cL_law 289 = .ok (.iload_n 3, 1) := by decide +kernel
theorem dL_law_290 : decode cL_law 290 = .ok (.iconst 2, 1) := by decide +kernel
theorem dL_law_291 : decode cL_law 291 = .ok (.iadd, 1) := by decide +kernel
theorem dL_law_292 : decode cL_law 292 = .ok (.iaload, 1) := by decide +kernel
theorem dL_law_293 : decode cL_law 293 = .ok (.aload_n 0, 1) := by decide +kernel
theorem dL_law_294 : decode cL_law 294 = .ok (.iload_n 3, 1) := by decide +kernel
theorem dL_law_295 : decode cL_law 295 = .ok (.iconst 3, 1) := by decide +kernel
theorem dL_law_296 : decode cL_law 296 = .ok (.iadd, 1) := by decide +kernel
theorem dL_law_297 : decode cL_law 297 = .ok (.iaload, 1) := by decide +kernel
theorem dL_law_298 : decode cL_law 298 = .ok (.invokevirtual 33, 3) := by decide +kernel
theorem dL_law_301 : decode cL_law 301 = .ok (.aload_n 2, 1) := by decide +kernel
theorem dL_law_302 : decode cL_law 302 = .ok (.aload_n 0, 1) := by decide +kernel
theorem dL_law_303 : decode cL_law 303 = .ok (.iload_n 3, 1) := by decide +kernel
theorem dL_law_304 : decode cL_law 304 = .ok (.iconst 1, 1) := by decide +kernel
theorem dL_law_305 : decode cL_law 305 = .ok (.iadd, 1) := by decide +kernel
theorem dL_law_306 : decode cL_law 306 = .ok (.iaload, 1) := by decide +kernel
theorem dL_law_307 : decode cL_law 307 = .ok (.aload_n 0, 1) := by decide +kernel
theorem dL_law_308 : decode cL_law 308 = .ok (.iload_n 3, 1) := by decide +kernel
theorem dL_law_309 : decode cL_law 309 = .ok (.iconst 2, 1) := by decide +kernel
theorem dL_law_310 : decode cL_law 310 = .ok (.iadd, 1) := by decide +kernel
theorem dL_law_311 : decode cL_law 311 = .ok (.iaload, 1) := by decide +kernel
theorem dL_law_312 : decode cL_law 312 = .ok (.aload_n 0, 1) := by decide +kernel
theorem dL_law_313 : decode cL_law 313 = .ok (.iload_n 3, 1) := by decide +kernel
theorem dL_law_314 : decode cL_law 314 = .ok (.iconst 3, 1) := by decide +kernel
theorem dL_law_315 : decode cL_law 315 = .ok (.iadd, 1) := by decide +kernel
theorem dL_law_316 : decode cL_law 316 = .ok (.iaload, 1) := by decide +kernel
theorem dL_law_317 : decode cL_law 317 = .ok (.invokevirtual 37, 3) := by decide +kernel
theorem dL_law_320 : decode cL_law 320 = .ok (.if_icmp .eq 792, 3) := by decide +kernel
theorem dL_law_323 : decode cL_law 323 = .ok (.iconst 0, 1) := by decide +kernel
theorem dL_law_324 : decode cL_law 324 = .ok (.ireturn, 1) := by decide +kernel
theorem dL_law_325 : decode cL_law 325 = .ok (.aload_n 1, 1) := by decide +kernel
theorem dL_law_326 : decode cL_law 326 = .ok (.invokevirtual 38, 3) := by decide +kernel
theorem dL_law_329 : decode cL_law 329 = .ok (.aload_n 2, 1) := by decide +kernel
theorem dL_law_330 : decode cL_law 330 = .ok (.invokevirtual 42, 3) := by decide +kernel
theorem dL_law_333 : decode cL_law 333 = .ok (.if_icmp .eq 779, 3) := by decide +kernel
theorem dL_law_336 : decode cL_law 336 = .ok (.iconst 0, 1) := by decide +kernel
theorem dL_law_337 : decode cL_law 337 = .ok (.ireturn, 1) := by decide +kernel
theorem dL_law_338 : decode cL_law 338 = .ok (.aload_n 1, 1) := by decide +kernel
theorem dL_law_339 : decode cL_law 339 = .ok (.aload_n 0, 1) := by decide +kernel
theorem dL_law_340 : decode cL_law 340 = .ok (.iload_n 3, 1) := by decide +kernel
theorem dL_law_341 : decode cL_law 341 = .ok (.iconst 1, 1) := by decide +kernel
theorem dL_law_342 : decode cL_law 342 = .ok (.iadd, 1) := by decide +kernel
theorem dL_law_343 : decode cL_law 343 = .ok (.iaload, 1) := by decide +kernel
theorem dL_law_344 : decode cL_law 344 = .ok (.invokevirtual 43, 3) := by decide +kernel
theorem dL_law_347 : decode cL_law 347 = .ok (.aload_n 2, 1) := by decide +kernel
theorem dL_law_348 : decode cL_law 348 = .ok (.aload_n 0, 1) := by decide +kernel
theorem dL_law_349 : decode cL_law 349 = .ok (.iload_n 3, 1) := by decide +kernel
theorem dL_law_350 : decode cL_law 350 = .ok (.iconst 1, 1) := by decide +kernel
theorem dL_law_351 : decode cL_law 351 = .ok (.iadd, 1) := by decide +kernel
theorem dL_law_352 : decode cL_law 352 = .ok (.iaload, 1) := by decide +kernel
theorem dL_law_353 : decode cL_law 353 = .ok (.invokevirtual 46, 3) := by decide +kernel
theorem dL_law_356 : decode cL_law 356 = .ok (.if_icmp .eq 756, 3) := by decide +kernel
theorem dL_law_359 : decode cL_law 359 = .ok (.iconst 0, 1) := by decide +kernel
theorem dL_law_360 : decode cL_law 360 = .ok (.ireturn, 1) := by decide +kernel
theorem dL_law_361 : decode cL_law 361 = .ok (.aload_n 1, 1) := by decide +kernel
theorem dL_law_362 : decode cL_law 362 = .ok (.aload_n 0, 1) := by decide +kernel
theorem dL_law_363 : decode cL_law 363 = .ok (.iload_n 3, 1) := by decide +kernel
theorem dL_law_364 : decode cL_law 364 = .ok (.iconst 1, 1) := by decide +kernel
theorem dL_law_365 : decode cL_law 365 = .ok (.iadd, 1) := by decide +kernel
theorem dL_law_366 : decode cL_law 366 = .ok (.iaload, 1) := by decide +kernel
theorem dL_law_367 : decode cL_law 367 = .ok (.aload_n 0, 1) := by decide +kernel
theorem dL_law_368 : decode cL_law 368 = .ok (.iload_n 3, 1) := by decide +kernel
theorem dL_law_369 : decode cL_law 369 = .ok (.iconst 2, 1) := by decide +kernel
theorem dL_law_370 : decode cL_law 370 = .ok (.iadd, 1) := by decide +kernel
theorem dL_law_371 : decode cL_law 371 = .ok (.iaload, 1) := by decide +kernel
theorem dL_law_372 : decode cL_law 372 = .ok (.aload_n 0, 1) := by decide +kernel
theorem dL_law_373 : decode cL_law 373 = .ok (.iload_n 3, 1) := by decide +kernel
theorem dL_law_374 : decode cL_law 374 = .ok (.iconst 3, 1) := by decide +kernel
theorem dL_law_375 : decode cL_law 375 = .ok (.iadd, 1) := by decide +kernel
theorem dL_law_376 : decode cL_law 376 = .ok (.iaload, 1) := by decide +kernel
theorem dL_law_377 : decode cL_law 377 = .ok (.aload_n 0, 1) := by decide +kernel
theorem dL_law_378 : decode cL_law 378 = .ok (.iload_n 3, 1) := by decide +kernel
theorem dL_law_379 : decode cL_law 379 = .ok (.iconst 4, 1) := by decide +kernel
theorem dL_law_380 : decode cL_law 380 = .ok (.iadd, 1) := by decide +kernel
theorem dL_law_381 : decode cL_law 381 = .ok (.iaload, 1) := by decide +kernel
theorem dL_law_382 : decode cL_law 382 = .ok (.invokevirtual 47, 3) := by decide +kernel
theorem dL_law_385 : decode cL_law 385 = .ok (.aload_n 2, 1) := by decide +kernel
theorem dL_law_386 : decode cL_law 386 = .ok (.aload_n 0, 1) := by decide +kernel
theorem dL_law_387 : decode cL_law 387 = .ok (.iload_n 3, 1) := by decide +kernel
theorem dL_law_388 : decode cL_law 388 = .ok (.iconst 1, 1) := by decide +kernel
theorem dL_law_389 : decode cL_law 389 = .ok (.iadd, 1) := by decide +kernel
theorem dL_law_390 : decode cL_law 390 = .ok (.iaload, 1) := by decide +kernel
theorem dL_law_391 : decode cL_law 391 = .ok (.aload_n 0, 1) := by decide +kernel
theorem dL_law_392 : decode cL_law 392 = .ok (.iload_n 3, 1) := by decide +kernel
theorem dL_law_393 : decode cL_law 393 = .ok (.iconst 2, 1) := by decide +kernel
theorem dL_law_394 : decode cL_law 394 = .ok (.iadd, 1) := by decide +kernel
theorem dL_law_395 : decode cL_law 395 = .ok (.iaload, 1) := by decide +kernel
theorem dL_law_396 : decode cL_law 396 = .ok (.aload_n 0, 1) := by decide +kernel
theorem dL_law_397 : decode cL_law 397 = .ok (.iload_n 3, 1) := by decide +kernel
theorem dL_law_398 : decode cL_law 398 = .ok (.iconst 3, 1) := by decide +kernel
theorem dL_law_399 : decode cL_law 399 = .ok (.iadd, 1) := by decide +kernel
theorem dL_law_400 : decode cL_law 400 = .ok (.iaload, 1) := by decide +kernel
theorem dL_law_401 : decode cL_law 401 = .ok (.aload_n 0, 1) := by decide +kernel
theorem dL_law_402 : decode cL_law 402 = .ok (.iload_n 3, 1) := by decide +kernel
theorem dL_law_403 : decode cL_law 403 = .ok (.iconst 4, 1) := by decide +kernel
theorem dL_law_404 : decode cL_law 404 = .ok (.iadd, 1) := by decide +kernel
theorem dL_law_405 : decode cL_law 405 = .ok (.iaload, 1) := by decide +kernel
theorem dL_law_406 : decode cL_law 406 = .ok (.invokevirtual 51, 3) := by decide +kernel
theorem dL_law_409 : decode cL_law 409 = .ok (.if_icmp .eq 703, 3) := by decide +kernel
theorem dL_law_412 : decode cL_law 412 = .ok (.iconst 0, 1) := by decide +kernel
theorem dL_law_413 : decode cL_law 413 = .ok (.ireturn, 1) := by decide +kernel
theorem dL_law_414 : decode cL_law 414 = .ok (.aload_n 1, 1) := by decide +kernel
theorem dL_law_415 : decode cL_law 415 = .ok (.aload_n 0, 1) := by decide +kernel
theorem dL_law_416 : decode cL_law 416 = .ok (.iload_n 3, 1) := by decide +kernel
theorem dL_law_417 : decode cL_law 417 = .ok (.iconst 1, 1) := by decide +kernel
theorem dL_law_418 : decode cL_law 418 = .ok (.iadd, 1) := by decide +kernel
theorem dL_law_419 : decode cL_law 419 = .ok (.iaload, 1) := by decide +kernel
theorem dL_law_420 : decode cL_law 420 = .ok (.aload_n 0, 1) := by decide +kernel
theorem dL_law_421 : decode cL_law 421 = .ok (.iload_n 3, 1) := by decide +kernel
theorem dL_law_422 : decode cL_law 422 = .ok (.iconst 2, 1) := by decide +kernel
theorem dL_law_423 : decode cL_law 423 = .ok (.iadd, 1) := by decide +kernel
theorem dL_law_424 : decode cL_law 424 = .ok (.iaload, 1) := by decide +kernel
theorem dL_law_425 : decode cL_law 425 = .ok (.aload_n 0, 1) := by decide +kernel
theorem dL_law_426 : decode cL_law 426 = .ok (.iload_n 3, 1) := by decide +kernel
theorem dL_law_427 : decode cL_law 427 = .ok (.iconst 3, 1) := by decide +kernel
theorem dL_law_428 : decode cL_law 428 = .ok (.iadd, 1) := by decide +kernel
theorem dL_law_429 : decode cL_law 429 = .ok (.iaload, 1) := by decide +kernel
theorem dL_law_430 : decode cL_law 430 = .ok (.invokevirtual 52, 3) := by decide +kernel
theorem dL_law_433 : decode cL_law 433 = .ok (.aload_n 2, 1) := by decide +kernel
theorem dL_law_434 : decode cL_law 434 = .ok (.aload_n 0, 1) := by decide +kernel
theorem dL_law_435 : decode cL_law 435 = .ok (.iload_n 3, 1) := by decide +kernel
theorem dL_law_436 : decode cL_law 436 = .ok (.iconst 1, 1) := by decide +kernel
theorem dL_law_437 : decode cL_law 437 = .ok (.iadd, 1) := by decide +kernel
theorem dL_law_438 : decode cL_law 438 = .ok (.iaload, 1) := by decide +kernel
theorem dL_law_439 : decode cL_law 439 = .ok (.aload_n 0, 1) := by decide +kernel
theorem dL_law_440 : decode cL_law 440 = .ok (.iload_n 3, 1) := by decide +kernel
theorem dL_law_441 : decode cL_law 441 = .ok (.iconst 2, 1) := by decide +kernel
theorem dL_law_442 : decode cL_law 442 = .ok (.iadd, 1) := by decide +kernel
theorem dL_law_443 : decode cL_law 443 = .ok (.iaload, 1) := by decide +kernel
theorem dL_law_444 : decode cL_law 444 = .ok (.aload_n 0, 1) := by decide +kernel
theorem dL_law_445 : decode cL_law 445 = .ok (.iload_n 3, 1) := by decide +kernel
theorem dL_law_446 : decode cL_law 446 = .ok (.iconst 3, 1) := by decide +kernel
theorem dL_law_447 : decode cL_law 447 = .ok (.iadd, 1) := by decide +kernel
theorem dL_law_448 : decode cL_law 448 = .ok (.iaload, 1) := by decide +kernel
theorem dL_law_449 : decode cL_law 449 = .ok (.invokevirtual 55, 3) := by decide +kernel
theorem dL_law_452 : decode cL_law 452 = .ok (.if_icmp .eq 660, 3) := by decide +kernel
theorem dL_law_455 : decode cL_law 455 = .ok (.iconst 0, 1) := by decide +kernel
theorem dL_law_456 : decode cL_law 456 = .ok (.ireturn, 1) := by decide +kernel
theorem dL_law_457 : decode cL_law 457 = .ok (.aload_n 1, 1) := by decide +kernel
theorem dL_law_458 : decode cL_law 458 = .ok (.aload_n 0, 1) := by decide +kernel
theorem dL_law_459 : decode cL_law 459 = .ok (.iload_n 3, 1) := by decide +kernel
theorem dL_law_460 : decode cL_law 460 = .ok (.iconst 1, 1) := by decide +kernel
theorem dL_law_461 : decode cL_law 461 = .ok (.iadd, 1) := by decide +kernel
theorem dL_law_462 : decode cL_law 462 = .ok (.iaload, 1) := by decide +kernel
theorem dL_law_463 : decode cL_law 463 = .ok (.aload_n 0, 1) := by decide +kernel
theorem dL_law_464 : decode cL_law 464 = .ok (.iload_n 3, 1) := by decide +kernel
theorem dL_law_465 : decode cL_law 465 = .ok (.iconst 2, 1) := by decide +kernel
theorem dL_law_466 : decode cL_law 466 = .ok (.iadd, 1) := by decide +kernel
theorem dL_law_467 : decode cL_law 467 = .ok (.iaload, 1) := by decide +kernel
theorem dL_law_468 : decode cL_law 468 = .ok (.invokevirtual 56, 3) := by decide +kernel
theorem dL_law_471 : decode cL_law 471 = .ok (.aload_n 2, 1) := by decide +kernel
theorem dL_law_472 : decode cL_law 472 = .ok (.aload_n 0, 1) := by decide +kernel
theorem dL_law_473 : decode cL_law 473 = .ok (.iload_n 3, 1) := by decide +kernel
theorem dL_law_474 : decode cL_law 474 = .ok (.iconst 1, 1) := by decide +kernel
theorem dL_law_475 : decode cL_law 475 = .ok (.iadd, 1) := by decide +kernel
theorem dL_law_476 : decode cL_law 476 = .ok (.iaload, 1) := by decide +kernel
theorem dL_law_477 : decode cL_law 477 = .ok (.aload_n 0, 1) := by decide +kernel
theorem dL_law_478 : decode cL_law 478 = .ok (.iload_n 3, 1) := by decide +kernel
theorem dL_law_479 : decode cL_law 479 = .ok (.iconst 2, 1) := by decide +kernel
theorem dL_law_480 : decode cL_law 480 = .ok (.iadd, 1) := by decide +kernel
theorem dL_law_481 : decode cL_law 481 = .ok (.iaload, 1) := by decide +kernel
theorem dL_law_482 : decode cL_law 482 = .ok (.invokevirtual 60, 3) := by decide +kernel
theorem dL_law_485 : decode cL_law 485 = .ok (.if_icmp .eq 627, 3) := by decide +kernel
theorem dL_law_488 : decode cL_law 488 = .ok (.iconst 0, 1) := by decide +kernel
theorem dL_law_489 : decode cL_law 489 = .ok (.ireturn, 1) := by decide +kernel
theorem dL_law_490 : decode cL_law 490 = .ok (.aload_n 1, 1) := by decide +kernel
theorem dL_law_491 : decode cL_law 491 = .ok (.aload_n 0, 1) := by decide +kernel
theorem dL_law_492 : decode cL_law 492 = .ok (.iload_n 3, 1) := by decide +kernel
theorem dL_law_493 : decode cL_law 493 = .ok (.iconst 1, 1) := by decide +kernel
theorem dL_law_494 : decode cL_law 494 = .ok (.iadd, 1) := by decide +kernel
theorem dL_law_495 : decode cL_law 495 = .ok (.iaload, 1) := by decide +kernel
theorem dL_law_496 : decode cL_law 496 = .ok (.aload_n 0, 1) := by decide +kernel
theorem dL_law_497 : decode cL_law 497 = .ok (.iload_n 3, 1) := by decide +kernel
theorem dL_law_498 : decode cL_law 498 = .ok (.iconst 2, 1) := by decide +kernel
theorem dL_law_499 : decode cL_law 499 = .ok (.iadd, 1) := by decide +kernel
theorem dL_law_500 : decode cL_law 500 = .ok (.iaload, 1) := by decide +kernel
theorem dL_law_501 : decode cL_law 501 = .ok (.invokevirtual 61, 3) := by decide +kernel
theorem dL_law_504 : decode cL_law 504 = .ok (.aload_n 2, 1) := by decide +kernel
theorem dL_law_505 : decode cL_law 505 = .ok (.aload_n 0, 1) := by decide +kernel
theorem dL_law_506 : decode cL_law 506 = .ok (.iload_n 3, 1) := by decide +kernel
theorem dL_law_507 : decode cL_law 507 = .ok (.iconst 1, 1) := by decide +kernel
theorem dL_law_508 : decode cL_law 508 = .ok (.iadd, 1) := by decide +kernel
theorem dL_law_509 : decode cL_law 509 = .ok (.iaload, 1) := by decide +kernel
theorem dL_law_510 : decode cL_law 510 = .ok (.aload_n 0, 1) := by decide +kernel
theorem dL_law_511 : decode cL_law 511 = .ok (.iload_n 3, 1) := by decide +kernel
theorem dL_law_512 : decode cL_law 512 = .ok (.iconst 2, 1) := by decide +kernel
theorem dL_law_513 : decode cL_law 513 = .ok (.iadd, 1) := by decide +kernel
theorem dL_law_514 : decode cL_law 514 = .ok (.iaload, 1) := by decide +kernel
theorem dL_law_515 : decode cL_law 515 = .ok (.invokevirtual 64, 3) := by decide +kernel
theorem dL_law_518 : decode cL_law 518 = .ok (.if_icmp .eq 594, 3) := by decide +kernel
theorem dL_law_521 : decode cL_law 521 = .ok (.iconst 0, 1) := by decide +kernel
theorem dL_law_522 : decode cL_law 522 = .ok (.ireturn, 1) := by decide +kernel
theorem dL_law_523 : decode cL_law 523 = .ok (.aload_n 1, 1) := by decide +kernel
theorem dL_law_524 : decode cL_law 524 = .ok (.aload_n 0, 1) := by decide +kernel
theorem dL_law_525 : decode cL_law 525 = .ok (.iload_n 3, 1) := by decide +kernel
theorem dL_law_526 : decode cL_law 526 = .ok (.iconst 1, 1) := by decide +kernel
theorem dL_law_527 : decode cL_law 527 = .ok (.iadd, 1) := by decide +kernel
theorem dL_law_528 : decode cL_law 528 = .ok (.iaload, 1) := by decide +kernel
theorem dL_law_529 : decode cL_law 529 = .ok (.aload_n 0, 1) := by decide +kernel
theorem dL_law_530 : decode cL_law 530 = .ok (.iload_n 3, 1) := by decide +kernel
theorem dL_law_531 : decode cL_law 531 = .ok (.iconst 2, 1) := by decide +kernel
theorem dL_law_532 : decode cL_law 532 = .ok (.iadd, 1) := by decide +kernel
theorem dL_law_533 : decode cL_law 533 = .ok (.iaload, 1) := by decide +kernel
theorem dL_law_534 : decode cL_law 534 = .ok (.aload_n 0, 1) := by decide +kernel
theorem dL_law_535 : decode cL_law 535 = .ok (.iload_n 3, 1) := by decide +kernel
theorem dL_law_536 : decode cL_law 536 = .ok (.iconst 3, 1) := by decide +kernel
theorem dL_law_537 : decode cL_law 537 = .ok (.iadd, 1) := by decide +kernel
theorem dL_law_538 : decode cL_law 538 = .ok (.iaload, 1) := by decide +kernel
theorem dL_law_539 : decode cL_law 539 = .ok (.aload_n 0, 1) := by decide +kernel
theorem dL_law_540 : decode cL_law 540 = .ok (.iload_n 3, 1) := by decide +kernel
theorem dL_law_541 : decode cL_law 541 = .ok (.iconst 4, 1) := by decide +kernel
theorem dL_law_542 : decode cL_law 542 = .ok (.iadd, 1) := by decide +kernel
theorem dL_law_543 : decode cL_law 543 = .ok (.iaload, 1) := by decide +kernel
theorem dL_law_544 : decode cL_law 544 = .ok (.aload_n 0, 1) := by decide +kernel
theorem dL_law_545 : decode cL_law 545 = .ok (.iload_n 3, 1) := by decide +kernel
theorem dL_law_546 : decode cL_law 546 = .ok (.iconst 5, 1) := by decide +kernel
theorem dL_law_547 : decode cL_law 547 = .ok (.iadd, 1) := by decide +kernel
theorem dL_law_548 : decode cL_law 548 = .ok (.iaload, 1) := by decide +kernel
theorem dL_law_549 : decode cL_law 549 = .ok (.invokevirtual 65, 3) := by decide +kernel
theorem dL_law_552 : decode cL_law 552 = .ok (.aload_n 2, 1) := by decide +kernel
theorem dL_law_553 : decode cL_law 553 = .ok (.aload_n 0, 1) := by decide +kernel
theorem dL_law_554 : decode cL_law 554 = .ok (.iload_n 3, 1) := by decide +kernel
theorem dL_law_555 : decode cL_law 555 = .ok (.iconst 1, 1) := by decide +kernel
theorem dL_law_556 : decode cL_law 556 = .ok (.iadd, 1) := by decide +kernel
theorem dL_law_557 : decode cL_law 557 = .ok (.iaload, 1) := by decide +kernel
theorem dL_law_558 : decode cL_law 558 = .ok (.aload_n 0, 1) := by decide +kernel
theorem dL_law_559 : decode cL_law 559 = .ok (.iload_n 3, 1) := by decide +kernel
theorem dL_law_560 : decode cL_law 560 = .ok (.iconst 2, 1) := by decide +kernel
theorem dL_law_561 : decode cL_law 561 = .ok (.iadd, 1) := by decide +kernel
theorem dL_law_562 : decode cL_law 562 = .ok (.iaload, 1) := by decide +kernel
theorem dL_law_563 : decode cL_law 563 = .ok (.aload_n 0, 1) := by decide +kernel
theorem dL_law_564 : decode cL_law 564 = .ok (.iload_n 3, 1) := by decide +kernel
theorem dL_law_565 : decode cL_law 565 = .ok (.iconst 3, 1) := by decide +kernel
theorem dL_law_566 : decode cL_law 566 = .ok (.iadd, 1) := by decide +kernel
theorem dL_law_567 : decode cL_law 567 = .ok (.iaload, 1) := by decide +kernel
theorem dL_law_568 : decode cL_law 568 = .ok (.aload_n 0, 1) := by decide +kernel
theorem dL_law_569 : decode cL_law 569 = .ok (.iload_n 3, 1) := by decide +kernel
theorem dL_law_570 : decode cL_law 570 = .ok (.iconst 4, 1) := by decide +kernel
theorem dL_law_571 : decode cL_law 571 = .ok (.iadd, 1) := by decide +kernel
theorem dL_law_572 : decode cL_law 572 = .ok (.iaload, 1) := by decide +kernel
theorem dL_law_573 : decode cL_law 573 = .ok (.aload_n 0, 1) := by decide +kernel
theorem dL_law_574 : decode cL_law 574 = .ok (.iload_n 3, 1) := by decide +kernel
theorem dL_law_575 : decode cL_law 575 = .ok (.iconst 5, 1) := by decide +kernel
theorem dL_law_576 : decode cL_law 576 = .ok (.iadd, 1) := by decide +kernel
theorem dL_law_577 : decode cL_law 577 = .ok (.iaload, 1) := by decide +kernel
theorem dL_law_578 : decode cL_law 578 = .ok (.invokevirtual 68, 3) := by decide +kernel
theorem dL_law_581 : decode cL_law 581 = .ok (.if_icmp .eq 531, 3) := by decide +kernel
theorem dL_law_584 : decode cL_law 584 = .ok (.iconst 0, 1) := by decide +kernel
theorem dL_law_585 : decode cL_law 585 = .ok (.ireturn, 1) := by decide +kernel
theorem dL_law_586 : decode cL_law 586 = .ok (.aload_n 1, 1) := by decide +kernel
theorem dL_law_587 : decode cL_law 587 = .ok (.aload_n 0, 1) := by decide +kernel
theorem dL_law_588 : decode cL_law 588 = .ok (.iload_n 3, 1) := by decide +kernel
theorem dL_law_589 : decode cL_law 589 = .ok (.iconst 1, 1) := by decide +kernel
theorem dL_law_590 : decode cL_law 590 = .ok (.iadd, 1) := by decide +kernel
theorem dL_law_591 : decode cL_law 591 = .ok (.iaload, 1) := by decide +kernel
theorem dL_law_592 : decode cL_law 592 = .ok (.invokevirtual 69, 3) := by decide +kernel
theorem dL_law_595 : decode cL_law 595 = .ok (.aload_n 2, 1) := by decide +kernel
theorem dL_law_596 : decode cL_law 596 = .ok (.aload_n 0, 1) := by decide +kernel
theorem dL_law_597 : decode cL_law 597 = .ok (.iload_n 3, 1) := by decide +kernel
theorem dL_law_598 : decode cL_law 598 = .ok (.iconst 1, 1) := by decide +kernel
theorem dL_law_599 : decode cL_law 599 = .ok (.iadd, 1) := by decide +kernel
theorem dL_law_600 : decode cL_law 600 = .ok (.iaload, 1) := by decide +kernel
theorem dL_law_601 : decode cL_law 601 = .ok (.invokevirtual 72, 3) := by decide +kernel
theorem dL_law_604 : decode cL_law 604 = .ok (.if_icmp .eq 508, 3) := by decide +kernel
theorem dL_law_607 : decode cL_law 607 = .ok (.iconst 0, 1) := by decide +kernel
theorem dL_law_608 : decode cL_law 608 = .ok (.ireturn, 1) := by decide +kernel
theorem dL_law_609 : decode cL_law 609 = .ok (.aload_n 1, 1) := by decide +kernel
theorem dL_law_610 : decode cL_law 610 = .ok (.aload_n 0, 1) := by decide +kernel
theorem dL_law_611 : decode cL_law 611 = .ok (.iload_n 3, 1) := by decide +kernel
theorem dL_law_612 : decode cL_law 612 = .ok (.iconst 1, 1) := by decide +kernel
theorem dL_law_613 : decode cL_law 613 = .ok (.iadd, 1) := by decide +kernel
theorem dL_law_614 : decode cL_law 614 = .ok (.iaload, 1) := by decide +kernel
theorem dL_law_615 : decode cL_law 615 = .ok (.invokevirtual 73, 3) := by decide +kernel
theorem dL_law_618 : decode cL_law 618 = .ok (.aload_n 2, 1) := by decide +kernel
theorem dL_law_619 : decode cL_law 619 = .ok (.aload_n 0, 1) := by decide +kernel
theorem dL_law_620 : decode cL_law 620 = .ok (.iload_n 3, 1) := by decide +kernel
theorem dL_law_621 : decode cL_law 621 = .ok (.iconst 1, 1) := by decide +kernel
theorem dL_law_622 : decode cL_law 622 = .ok (.iadd, 1) := by decide +kernel
theorem dL_law_623 : decode cL_law 623 = .ok (.iaload, 1) := by decide +kernel
theorem dL_law_624 : decode cL_law 624 = .ok (.invokevirtual 76, 3) := by decide +kernel
theorem dL_law_627 : decode cL_law 627 = .ok (.if_icmp .eq 485, 3) := by decide +kernel
theorem dL_law_630 : decode cL_law 630 = .ok (.iconst 0, 1) := by decide +kernel
theorem dL_law_631 : decode cL_law 631 = .ok (.ireturn, 1) := by decide +kernel
theorem dL_law_632 : decode cL_law 632 = .ok (.aload_n 1, 1) := by decide +kernel
theorem dL_law_633 : decode cL_law 633 = .ok (.aload_n 0, 1) := by decide +kernel
theorem dL_law_634 : decode cL_law 634 = .ok (.iload_n 3, 1) := by decide +kernel
theorem dL_law_635 : decode cL_law 635 = .ok (.iconst 1, 1) := by decide +kernel
theorem dL_law_636 : decode cL_law 636 = .ok (.iadd, 1) := by decide +kernel
theorem dL_law_637 : decode cL_law 637 = .ok (.iaload, 1) := by decide +kernel
theorem dL_law_638 : decode cL_law 638 = .ok (.aload_n 0, 1) := by decide +kernel
theorem dL_law_639 : decode cL_law 639 = .ok (.iload_n 3, 1) := by decide +kernel
theorem dL_law_640 : decode cL_law 640 = .ok (.iconst 2, 1) := by decide +kernel
theorem dL_law_641 : decode cL_law 641 = .ok (.iadd, 1) := by decide +kernel
theorem dL_law_642 : decode cL_law 642 = .ok (.iaload, 1) := by decide +kernel
theorem dL_law_643 : decode cL_law 643 = .ok (.i2l, 1) := by decide +kernel
theorem dL_law_644 : decode cL_law 644 = .ok (.bipush 32, 2) := by decide +kernel
theorem dL_law_646 : decode cL_law 646 = .ok (.lshl, 1) := by decide +kernel
theorem dL_law_647 : decode cL_law 647 = .ok (.aload_n 0, 1) := by decide +kernel
theorem dL_law_648 : decode cL_law 648 = .ok (.iload_n 3, 1) := by decide +kernel
theorem dL_law_649 : decode cL_law 649 = .ok (.iconst 3, 1) := by decide +kernel
theorem dL_law_650 : decode cL_law 650 = .ok (.iadd, 1) := by decide +kernel
theorem dL_law_651 : decode cL_law 651 = .ok (.iaload, 1) := by decide +kernel
theorem dL_law_652 : decode cL_law 652 = .ok (.i2l, 1) := by decide +kernel
theorem dL_law_653 : decode cL_law 653 = .ok (.ldc2_w 77, 3) := by decide +kernel
theorem dL_law_656 : decode cL_law 656 = .ok (.land, 1) := by decide +kernel
theorem dL_law_657 : decode cL_law 657 = .ok (.lor, 1) := by decide +kernel
theorem dL_law_658 : decode cL_law 658 = .ok (.aload_n 0, 1) := by decide +kernel
theorem dL_law_659 : decode cL_law 659 = .ok (.iload_n 3, 1) := by decide +kernel
theorem dL_law_660 : decode cL_law 660 = .ok (.iconst 4, 1) := by decide +kernel
theorem dL_law_661 : decode cL_law 661 = .ok (.iadd, 1) := by decide +kernel
theorem dL_law_662 : decode cL_law 662 = .ok (.iaload, 1) := by decide +kernel
theorem dL_law_663 : decode cL_law 663 = .ok (.i2l, 1) := by decide +kernel
theorem dL_law_664 : decode cL_law 664 = .ok (.bipush 32, 2) := by decide +kernel
theorem dL_law_666 : decode cL_law 666 = .ok (.lshl, 1) := by decide +kernel
theorem dL_law_667 : decode cL_law 667 = .ok (.aload_n 0, 1) := by decide +kernel
theorem dL_law_668 : decode cL_law 668 = .ok (.iload_n 3, 1) := by decide +kernel
theorem dL_law_669 : decode cL_law 669 = .ok (.iconst 5, 1) := by decide +kernel
theorem dL_law_670 : decode cL_law 670 = .ok (.iadd, 1) := by decide +kernel
theorem dL_law_671 : decode cL_law 671 = .ok (.iaload, 1) := by decide +kernel
theorem dL_law_672 : decode cL_law 672 = .ok (.i2l, 1) := by decide +kernel
theorem dL_law_673 : decode cL_law 673 = .ok (.ldc2_w 77, 3) := by decide +kernel
theorem dL_law_676 : decode cL_law 676 = .ok (.land, 1) := by decide +kernel
theorem dL_law_677 : decode cL_law 677 = .ok (.lor, 1) := by decide +kernel
theorem dL_law_678 : decode cL_law 678 = .ok (.aload_n 0, 1) := by decide +kernel
theorem dL_law_679 : decode cL_law 679 = .ok (.iload_n 3, 1) := by decide +kernel
theorem dL_law_680 : decode cL_law 680 = .ok (.bipush 6, 2) := by decide +kernel
theorem dL_law_682 : decode cL_law 682 = .ok (.iadd, 1) := by decide +kernel
theorem dL_law_683 : decode cL_law 683 = .ok (.iaload, 1) := by decide +kernel
theorem dL_law_684 : decode cL_law 684 = .ok (.i2l, 1) := by decide +kernel
theorem dL_law_685 : decode cL_law 685 = .ok (.bipush 32, 2) := by decide +kernel
theorem dL_law_687 : decode cL_law 687 = .ok (.lshl, 1) := by decide +kernel
theorem dL_law_688 : decode cL_law 688 = .ok (.aload_n 0, 1) := by decide +kernel
theorem dL_law_689 : decode cL_law 689 = .ok (.iload_n 3, 1) := by decide +kernel
theorem dL_law_690 : decode cL_law 690 = .ok (.bipush 7, 2) := by decide +kernel
theorem dL_law_692 : decode cL_law 692 = .ok (.iadd, 1) := by decide +kernel
theorem dL_law_693 : decode cL_law 693 = .ok (.iaload, 1) := by decide +kernel
theorem dL_law_694 : decode cL_law 694 = .ok (.i2l, 1) := by decide +kernel
theorem dL_law_695 : decode cL_law 695 = .ok (.ldc2_w 77, 3) := by decide +kernel
theorem dL_law_698 : decode cL_law 698 = .ok (.land, 1) := by decide +kernel
theorem dL_law_699 : decode cL_law 699 = .ok (.lor, 1) := by decide +kernel
theorem dL_law_700 : decode cL_law 700 = .ok (.aload_n 0, 1) := by decide +kernel
theorem dL_law_701 : decode cL_law 701 = .ok (.iload_n 3, 1) := by decide +kernel
theorem dL_law_702 : decode cL_law 702 = .ok (.bipush 8, 2) := by decide +kernel
theorem dL_law_704 : decode cL_law 704 = .ok (.iadd, 1) := by decide +kernel
theorem dL_law_705 : decode cL_law 705 = .ok (.iaload, 1) := by decide +kernel
theorem dL_law_706 : decode cL_law 706 = .ok (.i2l, 1) := by decide +kernel
theorem dL_law_707 : decode cL_law 707 = .ok (.bipush 32, 2) := by decide +kernel
theorem dL_law_709 : decode cL_law 709 = .ok (.lshl, 1) := by decide +kernel
theorem dL_law_710 : decode cL_law 710 = .ok (.aload_n 0, 1) := by decide +kernel
theorem dL_law_711 : decode cL_law 711 = .ok (.iload_n 3, 1) := by decide +kernel
theorem dL_law_712 : decode cL_law 712 = .ok (.bipush 9, 2) := by decide +kernel
theorem dL_law_714 : decode cL_law 714 = .ok (.iadd, 1) := by decide +kernel
theorem dL_law_715 : decode cL_law 715 = .ok (.iaload, 1) := by decide +kernel
theorem dL_law_716 : decode cL_law 716 = .ok (.i2l, 1) := by decide +kernel
theorem dL_law_717 : decode cL_law 717 = .ok (.ldc2_w 77, 3) := by decide +kernel
theorem dL_law_720 : decode cL_law 720 = .ok (.land, 1) := by decide +kernel
theorem dL_law_721 : decode cL_law 721 = .ok (.lor, 1) := by decide +kernel
theorem dL_law_722 : decode cL_law 722 = .ok (.invokevirtual 79, 3) := by decide +kernel
theorem dL_law_725 : decode cL_law 725 = .ok (.aload_n 2, 1) := by decide +kernel
theorem dL_law_726 : decode cL_law 726 = .ok (.aload_n 0, 1) := by decide +kernel
theorem dL_law_727 : decode cL_law 727 = .ok (.iload_n 3, 1) := by decide +kernel
theorem dL_law_728 : decode cL_law 728 = .ok (.iconst 1, 1) := by decide +kernel
theorem dL_law_729 : decode cL_law 729 = .ok (.iadd, 1) := by decide +kernel
theorem dL_law_730 : decode cL_law 730 = .ok (.iaload, 1) := by decide +kernel
theorem dL_law_731 : decode cL_law 731 = .ok (.aload_n 0, 1) := by decide +kernel
theorem dL_law_732 : decode cL_law 732 = .ok (.iload_n 3, 1) := by decide +kernel
theorem dL_law_733 : decode cL_law 733 = .ok (.iconst 2, 1) := by decide +kernel
theorem dL_law_734 : decode cL_law 734 = .ok (.iadd, 1) := by decide +kernel
theorem dL_law_735 : decode cL_law 735 = .ok (.iaload, 1) := by decide +kernel
theorem dL_law_736 : decode cL_law 736 = .ok (.i2l, 1) := by decide +kernel
theorem dL_law_737 : decode cL_law 737 = .ok (.bipush 32, 2) := by decide +kernel
theorem dL_law_739 : decode cL_law 739 = .ok (.lshl, 1) := by decide +kernel
theorem dL_law_740 : decode cL_law 740 = .ok (.aload_n 0, 1) := by decide +kernel
theorem dL_law_741 : decode cL_law 741 = .ok (.iload_n 3, 1) := by decide +kernel
theorem dL_law_742 : decode cL_law 742 = .ok (.iconst 3, 1) := by decide +kernel
theorem dL_law_743 : decode cL_law 743 = .ok (.iadd, 1) := by decide +kernel
theorem dL_law_744 : decode cL_law 744 = .ok (.iaload, 1) := by decide +kernel
theorem dL_law_745 : decode cL_law 745 = .ok (.i2l, 1) := by decide +kernel
theorem dL_law_746 : decode cL_law 746 = .ok (.ldc2_w 77, 3) := by decide +kernel
theorem dL_law_749 : decode cL_law 749 = .ok (.land, 1) := by decide +kernel
theorem dL_law_750 : decode cL_law 750 = .ok (.lor, 1) := by decide +kernel
theorem dL_law_751 : decode cL_law 751 = .ok (.aload_n 0, 1) := by decide +kernel
theorem dL_law_752 : decode cL_law 752 = .ok (.iload_n 3, 1) := by decide +kernel
theorem dL_law_753 : decode cL_law 753 = .ok (.iconst 4, 1) := by decide +kernel
theorem dL_law_754 : decode cL_law 754 = .ok (.iadd, 1) := by decide +kernel
theorem dL_law_755 : decode cL_law 755 = .ok (.iaload, 1) := by decide +kernel
theorem dL_law_756 : decode cL_law 756 = .ok (.i2l, 1) := by decide +kernel
theorem dL_law_757 : decode cL_law 757 = .ok (.bipush 32, 2) := by decide +kernel
theorem dL_law_759 : decode cL_law 759 = .ok (.lshl, 1) := by decide +kernel
theorem dL_law_760 : decode cL_law 760 = .ok (.aload_n 0, 1) := by decide +kernel
theorem dL_law_761 : decode cL_law 761 = .ok (.iload_n 3, 1) := by decide +kernel
theorem dL_law_762 : decode cL_law 762 = .ok (.iconst 5, 1) := by decide +kernel
theorem dL_law_763 : decode cL_law 763 = .ok (.iadd, 1) := by decide +kernel
theorem dL_law_764 : decode cL_law 764 = .ok (.iaload, 1) := by decide +kernel
theorem dL_law_765 : decode cL_law 765 = .ok (.i2l, 1) := by decide +kernel
theorem dL_law_766 : decode cL_law 766 = .ok (.ldc2_w 77, 3) := by decide +kernel
theorem dL_law_769 : decode cL_law 769 = .ok (.land, 1) := by decide +kernel
theorem dL_law_770 : decode cL_law 770 = .ok (.lor, 1) := by decide +kernel
theorem dL_law_771 : decode cL_law 771 = .ok (.aload_n 0, 1) := by decide +kernel
theorem dL_law_772 : decode cL_law 772 = .ok (.iload_n 3, 1) := by decide +kernel
theorem dL_law_773 : decode cL_law 773 = .ok (.bipush 6, 2) := by decide +kernel
theorem dL_law_775 : decode cL_law 775 = .ok (.iadd, 1) := by decide +kernel
theorem dL_law_776 : decode cL_law 776 = .ok (.iaload, 1) := by decide +kernel
theorem dL_law_777 : decode cL_law 777 = .ok (.i2l, 1) := by decide +kernel
theorem dL_law_778 : decode cL_law 778 = .ok (.bipush 32, 2) := by decide +kernel
theorem dL_law_780 : decode cL_law 780 = .ok (.lshl, 1) := by decide +kernel
theorem dL_law_781 : decode cL_law 781 = .ok (.aload_n 0, 1) := by decide +kernel
theorem dL_law_782 : decode cL_law 782 = .ok (.iload_n 3, 1) := by decide +kernel
theorem dL_law_783 : decode cL_law 783 = .ok (.bipush 7, 2) := by decide +kernel
theorem dL_law_785 : decode cL_law 785 = .ok (.iadd, 1) := by decide +kernel
theorem dL_law_786 : decode cL_law 786 = .ok (.iaload, 1) := by decide +kernel
theorem dL_law_787 : decode cL_law 787 = .ok (.i2l, 1) := by decide +kernel
theorem dL_law_788 : decode cL_law 788 = .ok (.ldc2_w 77, 3) := by decide +kernel
theorem dL_law_791 : decode cL_law 791 = .ok (.land, 1) := by decide +kernel
theorem dL_law_792 : decode cL_law 792 = .ok (.lor, 1) := by decide +kernel
theorem dL_law_793 : decode cL_law 793 = .ok (.aload_n 0, 1) := by decide +kernel
theorem dL_law_794 : decode cL_law 794 = .ok (.iload_n 3, 1) := by decide +kernel
theorem dL_law_795 : decode cL_law 795 = .ok (.bipush 8, 2) := by decide +kernel
theorem dL_law_797 : decode cL_law 797 = .ok (.iadd, 1) := by decide +kernel
theorem dL_law_798 : decode cL_law 798 = .ok (.iaload, 1) := by decide +kernel
theorem dL_law_799 : decode cL_law 799 = .ok (.i2l, 1) := by decide +kernel
theorem dL_law_800 : decode cL_law 800 = .ok (.bipush 32, 2) := by decide +kernel
theorem dL_law_802 : decode cL_law 802 = .ok (.lshl, 1) := by decide +kernel
theorem dL_law_803 : decode cL_law 803 = .ok (.aload_n 0, 1) := by decide +kernel
theorem dL_law_804 : decode cL_law 804 = .ok (.iload_n 3, 1) := by decide +kernel
theorem dL_law_805 : decode cL_law 805 = .ok (.bipush 9, 2) := by decide +kernel
theorem dL_law_807 : decode cL_law 807 = .ok (.iadd, 1) := by decide +kernel
theorem dL_law_808 : decode cL_law 808 = .ok (.iaload, 1) := by decide +kernel
theorem dL_law_809 : decode cL_law 809 = .ok (.i2l, 1) := by decide +kernel
theorem dL_law_810 : decode cL_law 810 = .ok (.ldc2_w 77, 3) := by decide +kernel
theorem dL_law_813 : decode cL_law 813 = .ok (.land, 1) := by decide +kernel
theorem dL_law_814 : decode cL_law 814 = .ok (.lor, 1) := by decide +kernel
theorem dL_law_815 : decode cL_law 815 = .ok (.invokevirtual 83, 3) := by decide +kernel
theorem dL_law_818 : decode cL_law 818 = .ok (.if_icmp .eq 294, 3) := by decide +kernel
theorem dL_law_821 : decode cL_law 821 = .ok (.iconst 0, 1) := by decide +kernel
theorem dL_law_822 : decode cL_law 822 = .ok (.ireturn, 1) := by decide +kernel
theorem dL_law_823 : decode cL_law 823 = .ok (.aload_n 1, 1) := by decide +kernel
theorem dL_law_824 : decode cL_law 824 = .ok (.aload_n 0, 1) := by decide +kernel
theorem dL_law_825 : decode cL_law 825 = .ok (.iload_n 3, 1) := by decide +kernel
theorem dL_law_826 : decode cL_law 826 = .ok (.iconst 1, 1) := by decide +kernel
theorem dL_law_827 : decode cL_law 827 = .ok (.iadd, 1) := by decide +kernel
theorem dL_law_828 : decode cL_law 828 = .ok (.iaload, 1) := by decide +kernel
theorem dL_law_829 : decode cL_law 829 = .ok (.aload_n 0, 1) := by decide +kernel
theorem dL_law_830 : decode cL_law 830 = .ok (.iload_n 3, 1) := by decide +kernel
theorem dL_law_831 : decode cL_law 831 = .ok (.iconst 2, 1) := by decide +kernel
theorem dL_law_832 : decode cL_law 832 = .ok (.iadd, 1) := by decide +kernel
theorem dL_law_833 : decode cL_law 833 = .ok (.iaload, 1) := by decide +kernel
theorem dL_law_834 : decode cL_law 834 = .ok (.aload_n 0, 1) := by decide +kernel
theorem dL_law_835 : decode cL_law 835 = .ok (.iload_n 3, 1) := by decide +kernel
theorem dL_law_836 : decode cL_law 836 = .ok (.iconst 3, 1) := by decide +kernel
theorem dL_law_837 : decode cL_law 837 = .ok (.iadd, 1) := by decide +kernel
theorem dL_law_838 : decode cL_law 838 = .ok (.iaload, 1) := by decide +kernel
theorem dL_law_839 : decode cL_law 839 = .ok (.aload_n 0, 1) := by decide +kernel
theorem dL_law_840 : decode cL_law 840 = .ok (.iload_n 3, 1) := by decide +kernel
theorem dL_law_841 : decode cL_law 841 = .ok (.iconst 4, 1) := by decide +kernel
theorem dL_law_842 : decode cL_law 842 = .ok (.iadd, 1) := by decide +kernel
theorem dL_law_843 : decode cL_law 843 = .ok (.iaload, 1) := by decide +kernel
theorem dL_law_844 : decode cL_law 844 = .ok (.aload_n 0, 1) := by decide +kernel
theorem dL_law_845 : decode cL_law 845 = .ok (.iload_n 3, 1) := by decide +kernel
theorem dL_law_846 : decode cL_law 846 = .ok (.iconst 5, 1) := by decide +kernel
theorem dL_law_847 : decode cL_law 847 = .ok (.iadd, 1) := by decide +kernel
theorem dL_law_848 : decode cL_law 848 = .ok (.iaload, 1) := by decide +kernel
theorem dL_law_849 : decode cL_law 849 = .ok (.aload_n 0, 1) := by decide +kernel
theorem dL_law_850 : decode cL_law 850 = .ok (.iload_n 3, 1) := by decide +kernel
theorem dL_law_851 : decode cL_law 851 = .ok (.bipush 6, 2) := by decide +kernel
theorem dL_law_853 : decode cL_law 853 = .ok (.iadd, 1) := by decide +kernel
theorem dL_law_854 : decode cL_law 854 = .ok (.iaload, 1) := by decide +kernel
theorem dL_law_855 : decode cL_law 855 = .ok (.invokevirtual 84, 3) := by decide +kernel
theorem dL_law_858 : decode cL_law 858 = .ok (.aload_n 2, 1) := by decide +kernel
theorem dL_law_859 : decode cL_law 859 = .ok (.aload_n 0, 1) := by decide +kernel
theorem dL_law_860 : decode cL_law 860 = .ok (.iload_n 3, 1) := by decide +kernel
theorem dL_law_861 : decode cL_law 861 = .ok (.iconst 1, 1) := by decide +kernel
theorem dL_law_862 : decode cL_law 862 = .ok (.iadd, 1) := by decide +kernel
theorem dL_law_863 : decode cL_law 863 = .ok (.iaload, 1) := by decide +kernel
theorem dL_law_864 : decode cL_law 864 = .ok (.aload_n 0, 1) := by decide +kernel
theorem dL_law_865 : decode cL_law 865 = .ok (.iload_n 3, 1) := by decide +kernel
theorem dL_law_866 : decode cL_law 866 = .ok (.iconst 2, 1) := by decide +kernel
theorem dL_law_867 : decode cL_law 867 = .ok (.iadd, 1) := by decide +kernel
theorem dL_law_868 : decode cL_law 868 = .ok (.iaload, 1) := by decide +kernel
theorem dL_law_869 : decode cL_law 869 = .ok (.aload_n 0, 1) := by decide +kernel
theorem dL_law_870 : decode cL_law 870 = .ok (.iload_n 3, 1) := by decide +kernel
theorem dL_law_871 : decode cL_law 871 = .ok (.iconst 3, 1) := by decide +kernel
theorem dL_law_872 : decode cL_law 872 = .ok (.iadd, 1) := by decide +kernel
theorem dL_law_873 : decode cL_law 873 = .ok (.iaload, 1) := by decide +kernel
theorem dL_law_874 : decode cL_law 874 = .ok (.aload_n 0, 1) := by decide +kernel
theorem dL_law_875 : decode cL_law 875 = .ok (.iload_n 3, 1) := by decide +kernel
theorem dL_law_876 : decode cL_law 876 = .ok (.iconst 4, 1) := by decide +kernel
theorem dL_law_877 : decode cL_law 877 = .ok (.iadd, 1) := by decide +kernel
theorem dL_law_878 : decode cL_law 878 = .ok (.iaload, 1) := by decide +kernel
theorem dL_law_879 : decode cL_law 879 = .ok (.aload_n 0, 1) := by decide +kernel
theorem dL_law_880 : decode cL_law 880 = .ok (.iload_n 3, 1) := by decide +kernel
theorem dL_law_881 : decode cL_law 881 = .ok (.iconst 5, 1) := by decide +kernel
theorem dL_law_882 : decode cL_law 882 = .ok (.iadd, 1) := by decide +kernel
theorem dL_law_883 : decode cL_law 883 = .ok (.iaload, 1) := by decide +kernel
theorem dL_law_884 : decode cL_law 884 = .ok (.aload_n 0, 1) := by decide +kernel
theorem dL_law_885 : decode cL_law 885 = .ok (.iload_n 3, 1) := by decide +kernel
theorem dL_law_886 : decode cL_law 886 = .ok (.bipush 6, 2) := by decide +kernel
theorem dL_law_888 : decode cL_law 888 = .ok (.iadd, 1) := by decide +kernel
theorem dL_law_889 : decode cL_law 889 = .ok (.iaload, 1) := by decide +kernel
theorem dL_law_890 : decode cL_law 890 = .ok (.invokevirtual 88, 3) := by decide +kernel
theorem dL_law_893 : decode cL_law 893 = .ok (.if_icmp .eq 219, 3) := by decide +kernel
theorem dL_law_896 : decode cL_law 896 = .ok (.iconst 0, 1) := by decide +kernel
theorem dL_law_897 : decode cL_law 897 = .ok (.ireturn, 1) := by decide +kernel
theorem dL_law_898 : decode cL_law 898 = .ok (.aload_n 1, 1) := by decide +kernel
theorem dL_law_899 : decode cL_law 899 = .ok (.aload_n 0, 1) := by decide +kernel
theorem dL_law_900 : decode cL_law 900 = .ok (.iload_n 3, 1) := by decide +kernel
theorem dL_law_901 : decode cL_law 901 = .ok (.iconst 1, 1) := by decide +kernel
theorem dL_law_902 : decode cL_law 902 = .ok (.iadd, 1) := by decide +kernel
theorem dL_law_903 : decode cL_law 903 = .ok (.iaload, 1) := by decide +kernel
theorem dL_law_904 : decode cL_law 904 = .ok (.aload_n 0, 1) := by decide +kernel
theorem dL_law_905 : decode cL_law 905 = .ok (.iload_n 3, 1) := by decide +kernel
theorem dL_law_906 : decode cL_law 906 = .ok (.iconst 2, 1) := by decide +kernel
theorem dL_law_907 : decode cL_law 907 = .ok (.iadd, 1) := by decide +kernel
theorem dL_law_908 : decode cL_law 908 = .ok (.iaload, 1) := by decide +kernel
theorem dL_law_909 : decode cL_law 909 = .ok (.invokevirtual 89, 3) := by decide +kernel
theorem dL_law_912 : decode cL_law 912 = .ok (.aload_n 2, 1) := by decide +kernel
theorem dL_law_913 : decode cL_law 913 = .ok (.aload_n 0, 1) := by decide +kernel
theorem dL_law_914 : decode cL_law 914 = .ok (.iload_n 3, 1) := by decide +kernel
theorem dL_law_915 : decode cL_law 915 = .ok (.iconst 1, 1) := by decide +kernel
theorem dL_law_916 : decode cL_law 916 = .ok (.iadd, 1) := by decide +kernel
theorem dL_law_917 : decode cL_law 917 = .ok (.iaload, 1) := by decide +kernel
theorem dL_law_918 : decode cL_law 918 = .ok (.aload_n 0, 1) := by decide +kernel
theorem dL_law_919 : decode cL_law 919 = .ok (.iload_n 3, 1) := by decide +kernel
theorem dL_law_920 : decode cL_law 920 = .ok (.iconst 2, 1) := by decide +kernel
theorem dL_law_921 : decode cL_law 921 = .ok (.iadd, 1) := by decide +kernel
theorem dL_law_922 : decode cL_law 922 = .ok (.iaload, 1) := by decide +kernel
theorem dL_law_923 : decode cL_law 923 = .ok (.invokevirtual 92, 3) := by decide +kernel
theorem dL_law_926 : decode cL_law 926 = .ok (.if_icmp .eq 186, 3) := by decide +kernel
theorem dL_law_929 : decode cL_law 929 = .ok (.iconst 0, 1) := by decide +kernel
theorem dL_law_930 : decode cL_law 930 = .ok (.ireturn, 1) := by decide +kernel
theorem dL_law_931 : decode cL_law 931 = .ok (.aload_n 1, 1) := by decide +kernel
theorem dL_law_932 : decode cL_law 932 = .ok (.aload_n 0, 1) := by decide +kernel
theorem dL_law_933 : decode cL_law 933 = .ok (.iload_n 3, 1) := by decide +kernel
theorem dL_law_934 : decode cL_law 934 = .ok (.iconst 1, 1) := by decide +kernel
theorem dL_law_935 : decode cL_law 935 = .ok (.iadd, 1) := by decide +kernel
theorem dL_law_936 : decode cL_law 936 = .ok (.iaload, 1) := by decide +kernel
theorem dL_law_937 : decode cL_law 937 = .ok (.invokevirtual 93, 3) := by decide +kernel
theorem dL_law_940 : decode cL_law 940 = .ok (.aload_n 2, 1) := by decide +kernel
theorem dL_law_941 : decode cL_law 941 = .ok (.aload_n 0, 1) := by decide +kernel
theorem dL_law_942 : decode cL_law 942 = .ok (.iload_n 3, 1) := by decide +kernel
theorem dL_law_943 : decode cL_law 943 = .ok (.iconst 1, 1) := by decide +kernel
theorem dL_law_944 : decode cL_law 944 = .ok (.iadd, 1) := by decide +kernel
theorem dL_law_945 : decode cL_law 945 = .ok (.iaload, 1) := by decide +kernel
theorem dL_law_946 : decode cL_law 946 = .ok (.invokevirtual 97, 3) := by decide +kernel
theorem dL_law_949 : decode cL_law 949 = .ok (.lcmp, 1) := by decide +kernel
theorem dL_law_950 : decode cL_law 950 = .ok (.ifCond .eq 162, 3) := by decide +kernel
theorem dL_law_953 : decode cL_law 953 = .ok (.iconst 0, 1) := by decide +kernel
theorem dL_law_954 : decode cL_law 954 = .ok (.ireturn, 1) := by decide +kernel
theorem dL_law_955 : decode cL_law 955 = .ok (.aload_n 1, 1) := by decide +kernel
theorem dL_law_956 : decode cL_law 956 = .ok (.aload_n 0, 1) := by decide +kernel
theorem dL_law_957 : decode cL_law 957 = .ok (.iload_n 3, 1) := by decide +kernel
theorem dL_law_958 : decode cL_law 958 = .ok (.iconst 1, 1) := by decide +kernel
theorem dL_law_959 : decode cL_law 959 = .ok (.iadd, 1) := by decide +kernel
theorem dL_law_960 : decode cL_law 960 = .ok (.iaload, 1) := by decide +kernel
theorem dL_law_961 : decode cL_law 961 = .ok (.invokevirtual 98, 3) := by decide +kernel
theorem dL_law_964 : decode cL_law 964 = .ok (.aload_n 2, 1) := by decide +kernel
theorem dL_law_965 : decode cL_law 965 = .ok (.aload_n 0, 1) := by decide +kernel
theorem dL_law_966 : decode cL_law 966 = .ok (.iload_n 3, 1) := by decide +kernel
theorem dL_law_967 : decode cL_law 967 = .ok (.iconst 1, 1) := by decide +kernel
theorem dL_law_968 : decode cL_law 968 = .ok (.iadd, 1) := by decide +kernel
theorem dL_law_969 : decode cL_law 969 = .ok (.iaload, 1) := by decide +kernel
theorem dL_law_970 : decode cL_law 970 = .ok (.invokevirtual 101, 3) := by decide +kernel
theorem dL_law_973 : decode cL_law 973 = .ok (.if_icmp .eq 139, 3) := by decide +kernel
theorem dL_law_976 : decode cL_law 976 = .ok (.iconst 0, 1) := by decide +kernel
theorem dL_law_977 : decode cL_law 977 = .ok (.ireturn, 1) := by decide +kernel
theorem dL_law_978 : decode cL_law 978 = .ok (.aload_n 1, 1) := by decide +kernel
theorem dL_law_979 : decode cL_law 979 = .ok (.aload_n 0, 1) := by decide +kernel
theorem dL_law_980 : decode cL_law 980 = .ok (.iload_n 3, 1) := by decide +kernel
theorem dL_law_981 : decode cL_law 981 = .ok (.iconst 1, 1) := by decide +kernel
theorem dL_law_982 : decode cL_law 982 = .ok (.iadd, 1) := by decide +kernel
theorem dL_law_983 : decode cL_law 983 = .ok (.iaload, 1) := by decide +kernel
theorem dL_law_984 : decode cL_law 984 = .ok (.aload_n 0, 1) := by decide +kernel
theorem dL_law_985 : decode cL_law 985 = .ok (.iload_n 3, 1) := by decide +kernel
theorem dL_law_986 : decode cL_law 986 = .ok (.iconst 2, 1) := by decide +kernel
theorem dL_law_987 : decode cL_law 987 = .ok (.iadd, 1) := by decide +kernel
theorem dL_law_988 : decode cL_law 988 = .ok (.iaload, 1) := by decide +kernel
theorem dL_law_989 : decode cL_law 989 = .ok (.invokevirtual 102, 3) := by decide +kernel
theorem dL_law_992 : decode cL_law 992 = .ok (.aload_n 2, 1) := by decide +kernel
theorem dL_law_993 : decode cL_law 993 = .ok (.aload_n 0, 1) := by decide +kernel
theorem dL_law_994 : decode cL_law 994 = .ok (.iload_n 3, 1) := by decide +kernel
theorem dL_law_995 : decode cL_law 995 = .ok (.iconst 1, 1) := by decide +kernel
theorem dL_law_996 : decode cL_law 996 = .ok (.iadd, 1) := by decide +kernel
theorem dL_law_997 : decode cL_law 997 = .ok (.iaload, 1) := by decide +kernel
theorem dL_law_998 : decode cL_law 998 = .ok (.aload_n 0, 1) := by decide +kernel
theorem dL_law_999 : decode cL_law 999 = .ok (.iload_n 3, 1) := by decide +kernel
theorem dL_law_1000 : decode cL_law 1000 = .ok (.iconst 2, 1) := by decide +kernel
theorem dL_law_1001 : decode cL_law 1001 = .ok (.iadd, 1) := by decide +kernel
theorem dL_law_1002 : decode cL_law 1002 = .ok (.iaload, 1) := by decide +kernel
theorem dL_law_1003 : decode cL_law 1003 = .ok (.invokevirtual 106, 3) := by decide +kernel
theorem dL_law_1006 : decode cL_law 1006 = .ok (.lcmp, 1) := by decide +kernel
theorem dL_law_1007 : decode cL_law 1007 = .ok (.ifCond .eq 105, 3) := by decide +kernel
theorem dL_law_1010 : decode cL_law 1010 = .ok (.iconst 0, 1) := by decide +kernel
theorem dL_law_1011 : decode cL_law 1011 = .ok (.ireturn, 1) := by decide +kernel
theorem dL_law_1012 : decode cL_law 1012 = .ok (.aload_n 1, 1) := by decide +kernel
theorem dL_law_1013 : decode cL_law 1013 = .ok (.aload_n 0, 1) := by decide +kernel
theorem dL_law_1014 : decode cL_law 1014 = .ok (.iload_n 3, 1) := by decide +kernel
theorem dL_law_1015 : decode cL_law 1015 = .ok (.iconst 1, 1) := by decide +kernel
theorem dL_law_1016 : decode cL_law 1016 = .ok (.iadd, 1) := by decide +kernel
theorem dL_law_1017 : decode cL_law 1017 = .ok (.iaload, 1) := by decide +kernel
theorem dL_law_1018 : decode cL_law 1018 = .ok (.aload_n 0, 1) := by decide +kernel
theorem dL_law_1019 : decode cL_law 1019 = .ok (.iload_n 3, 1) := by decide +kernel
theorem dL_law_1020 : decode cL_law 1020 = .ok (.iconst 2, 1) := by decide +kernel
theorem dL_law_1021 : decode cL_law 1021 = .ok (.iadd, 1) := by decide +kernel
theorem dL_law_1022 : decode cL_law 1022 = .ok (.iaload, 1) := by decide +kernel
theorem dL_law_1023 : decode cL_law 1023 = .ok (.invokevirtual 107, 3) := by decide +kernel
theorem dL_law_1026 : decode cL_law 1026 = .ok (.aload_n 2, 1) := by decide +kernel
theorem dL_law_1027 : decode cL_law 1027 = .ok (.aload_n 0, 1) := by decide +kernel
theorem dL_law_1028 : decode cL_law 1028 = .ok (.iload_n 3, 1) := by decide +kernel
theorem dL_law_1029 : decode cL_law 1029 = .ok (.iconst 1, 1) := by decide +kernel
theorem dL_law_1030 : decode cL_law 1030 = .ok (.iadd, 1) := by decide +kernel
theorem dL_law_1031 : decode cL_law 1031 = .ok (.iaload, 1) := by decide +kernel
theorem dL_law_1032 : decode cL_law 1032 = .ok (.aload_n 0, 1) := by decide +kernel
theorem dL_law_1033 : decode cL_law 1033 = .ok (.iload_n 3, 1) := by decide +kernel
theorem dL_law_1034 : decode cL_law 1034 = .ok (.iconst 2, 1) := by decide +kernel
theorem dL_law_1035 : decode cL_law 1035 = .ok (.iadd, 1) := by decide +kernel
theorem dL_law_1036 : decode cL_law 1036 = .ok (.iaload, 1) := by decide +kernel
theorem dL_law_1037 : decode cL_law 1037 = .ok (.invokevirtual 110, 3) := by decide +kernel
theorem dL_law_1040 : decode cL_law 1040 = .ok (.lcmp, 1) := by decide +kernel
theorem dL_law_1041 : decode cL_law 1041 = .ok (.ifCond .eq 71, 3) := by decide +kernel
theorem dL_law_1044 : decode cL_law 1044 = .ok (.iconst 0, 1) := by decide +kernel
theorem dL_law_1045 : decode cL_law 1045 = .ok (.ireturn, 1) := by decide +kernel
theorem dL_law_1046 : decode cL_law 1046 = .ok (.aload_n 1, 1) := by decide +kernel
theorem dL_law_1047 : decode cL_law 1047 = .ok (.aload_n 0, 1) := by decide +kernel
theorem dL_law_1048 : decode cL_law 1048 = .ok (.iload_n 3, 1) := by decide +kernel
theorem dL_law_1049 : decode cL_law 1049 = .ok (.iconst 1, 1) := by decide +kernel
theorem dL_law_1050 : decode cL_law 1050 = .ok (.iadd, 1) := by decide +kernel
theorem dL_law_1051 : decode cL_law 1051 = .ok (.iaload, 1) := by decide +kernel
theorem dL_law_1052 : decode cL_law 1052 = .ok (.aload_n 0, 1) := by decide +kernel
theorem dL_law_1053 : decode cL_law 1053 = .ok (.iload_n 3, 1) := by decide +kernel
theorem dL_law_1054 : decode cL_law 1054 = .ok (.iconst 2, 1) := by decide +kernel
theorem dL_law_1055 : decode cL_law 1055 = .ok (.iadd, 1) := by decide +kernel
theorem dL_law_1056 : decode cL_law 1056 = .ok (.iaload, 1) := by decide +kernel
theorem dL_law_1057 : decode cL_law 1057 = .ok (.aload_n 0, 1) := by decide +kernel
theorem dL_law_1058 : decode cL_law 1058 = .ok (.iload_n 3, 1) := by decide +kernel
theorem dL_law_1059 : decode cL_law 1059 = .ok (.iconst 3, 1) := by decide +kernel
theorem dL_law_1060 : decode cL_law 1060 = .ok (.iadd, 1) := by decide +kernel
theorem dL_law_1061 : decode cL_law 1061 = .ok (.iaload, 1) := by decide +kernel
theorem dL_law_1062 : decode cL_law 1062 = .ok (.invokevirtual 111, 3) := by decide +kernel
theorem dL_law_1065 : decode cL_law 1065 = .ok (.aload_n 2, 1) := by decide +kernel
theorem dL_law_1066 : decode cL_law 1066 = .ok (.aload_n 0, 1) := by decide +kernel
theorem dL_law_1067 : decode cL_law 1067 = .ok (.iload_n 3, 1) := by decide +kernel
theorem dL_law_1068 : decode cL_law 1068 = .ok (.iconst 1, 1) := by decide +kernel
theorem dL_law_1069 : decode cL_law 1069 = .ok (.iadd, 1) := by decide +kernel
theorem dL_law_1070 : decode cL_law 1070 = .ok (.iaload, 1) := by decide +kernel
theorem dL_law_1071 : decode cL_law 1071 = .ok (.aload_n 0, 1) := by decide +kernel
theorem dL_law_1072 : decode cL_law 1072 = .ok (.iload_n 3, 1) := by decide +kernel
theorem dL_law_1073 : decode cL_law 1073 = .ok (.iconst 2, 1) := by decide +kernel
theorem dL_law_1074 : decode cL_law 1074 = .ok (.iadd, 1) := by decide +kernel
theorem dL_law_1075 : decode cL_law 1075 = .ok (.iaload, 1) := by decide +kernel
theorem dL_law_1076 : decode cL_law 1076 = .ok (.aload_n 0, 1) := by decide +kernel
theorem dL_law_1077 : decode cL_law 1077 = .ok (.iload_n 3, 1) := by decide +kernel
theorem dL_law_1078 : decode cL_law 1078 = .ok (.iconst 3, 1) := by decide +kernel
theorem dL_law_1079 : decode cL_law 1079 = .ok (.iadd, 1) := by decide +kernel
theorem dL_law_1080 : decode cL_law 1080 = .ok (.iaload, 1) := by decide +kernel
theorem dL_law_1081 : decode cL_law 1081 = .ok (.invokevirtual 114, 3) := by decide +kernel
theorem dL_law_1084 : decode cL_law 1084 = .ok (.if_icmp .eq 28, 3) := by decide +kernel
theorem dL_law_1087 : decode cL_law 1087 = .ok (.iconst 0, 1) := by decide +kernel
theorem dL_law_1088 : decode cL_law 1088 = .ok (.ireturn, 1) := by decide +kernel
theorem dL_law_1089 : decode cL_law 1089 = .ok (.aload_n 1, 1) := by decide +kernel
theorem dL_law_1090 : decode cL_law 1090 = .ok (.aload_n 0, 1) := by decide +kernel
theorem dL_law_1091 : decode cL_law 1091 = .ok (.iload_n 3, 1) := by decide +kernel
theorem dL_law_1092 : decode cL_law 1092 = .ok (.iconst 1, 1) := by decide +kernel
theorem dL_law_1093 : decode cL_law 1093 = .ok (.iadd, 1) := by decide +kernel
theorem dL_law_1094 : decode cL_law 1094 = .ok (.iaload, 1) := by decide +kernel
theorem dL_law_1095 : decode cL_law 1095 = .ok (.invokevirtual 115, 3) := by decide +kernel
theorem dL_law_1098 : decode cL_law 1098 = .ok (.aload_n 2, 1) := by decide +kernel
theorem dL_law_1099 : decode cL_law 1099 = .ok (.aload_n 0, 1) := by decide +kernel
theorem dL_law_1100 : decode cL_law 1100 = .ok (.iload_n 3, 1) := by decide +kernel
theorem dL_law_1101 : decode cL_law 1101 = .ok (.iconst 1, 1) := by decide +kernel
theorem dL_law_1102 : decode cL_law 1102 = .ok (.iadd, 1) := by decide +kernel
theorem dL_law_1103 : decode cL_law 1103 = .ok (.iaload, 1) := by decide +kernel
theorem dL_law_1104 : decode cL_law 1104 = .ok (.invokevirtual 118, 3) := by decide +kernel
theorem dL_law_1107 : decode cL_law 1107 = .ok (.if_icmp .eq 5, 3) := by decide +kernel
theorem dL_law_1110 : decode cL_law 1110 = .ok (.iconst 0, 1) := by decide +kernel
theorem dL_law_1111 : decode cL_law 1111 = .ok (.ireturn, 1) := by decide +kernel
theorem dL_law_1112 : decode cL_law 1112 = .ok (.iinc 3 10, 3) := by decide +kernel
theorem dL_law_1115 : decode cL_law 1115 = .ok (.goto (-1097), 3) := by decide +kernel
theorem dL_law_1118 : decode cL_law 1118 = .ok (.iconst 1, 1) := by decide +kernel
theorem dL_law_1119 : decode cL_law 1119 = .ok (.ireturn, 1) := by decide +kernel
end
section
theorem dX12_init_0 : decode cX12_init 0 = .ok (.aload_n 0, 1) := by decide +kernel
theorem dX12_init_1 : decode cX12_init 1 = .ok (.invokespecial 1, 3) := by decide +kernel
theorem dX12_init_4 : decode cX12_init 4 = .ok (.aload_n 0, 1) := by decide +kernel
theorem dX12_init_5 : decode cX12_init 5 = .ok (.bipush 6, 2) := by decide +kernel
theorem dX12_init_7 : decode cX12_init 7 = .ok (.newarray .int, 2) := by decide +kernel
theorem dX12_init_9 : decode cX12_init 9 = .ok (.putfield 7, 3) := by decide +kernel
theorem dX12_init_12 : decode cX12_init 12 = .ok (.aload_n 0, 1) := by decide +kernel
theorem dX12_init_13 : decode cX12_init 13 = .ok (.bipush 40, 2) := by decide +kernel
theorem dX12_init_15 : decode cX12_init 15 = .ok (.newarray .int, 2) := by decide +kernel
theorem dX12_init_17 : decode cX12_init 17 = .ok (.putfield 13, 3) := by decide +kernel
theorem dX12_init_20 : decode cX12_init 20 = .ok (.aload_n 0, 1) := by decide +kernel
theorem dX12_init_21 : decode cX12_init 21 = .ok (.bipush 40, 2) := by decide +kernel
theorem dX12_init_23 : decode cX12_init 23 = .ok (.newarray .int, 2) := by decide +kernel
theorem dX12_init_25 : decode cX12_init 25 = .ok (.putfield 16, 3) := by decide +kernel
theorem dX12_init_28 : decode cX12_init 28 = .ok (.aload_n 0, 1) := by decide +kernel
theorem dX12_init_29 : decode cX12_init 29 = .ok (.bipush 40, 2) := by decide +kernel
theorem dX12_init_31 : decode cX12_init 31 = .ok (.newarray .int, 2) := by decide +kernel
theorem dX12_init_33 : decode cX12_init 33 = .ok (.putfield 19, 3) := by decide +kernel
theorem dX12_init_36 : decode cX12_init 36 = .ok (.aload_n 0, 1) := by decide +kernel
theorem dX12_init_37 : decode cX12_init 37 = .ok (.bipush 40, 2) := by decide +kernel
theorem dX12_init_39 : decode cX12_init 39 = .ok (.newarray .int, 2) := by decide +kernel
theorem dX12_init_41 : decode cX12_init 41 = .ok (.putfield 22, 3) := by decide +kernel
theorem dX12_init_44 : decode cX12_init 44 = .ok (.aload_n 0, 1) := by decide +kernel
theorem dX12_init_45 : decode cX12_init 45 = .ok (.bipush 40, 2) := by decide +kernel
theorem dX12_init_47 : decode cX12_init 47 = .ok (.newarray .int, 2) := by decide +kernel
theorem dX12_init_49 : decode cX12_init 49 = .ok (.putfield 25, 3) := by decide +kernel
theorem dX12_init_52 : decode cX12_init 52 = .ok (.aload_n 0, 1) := by decide +kernel
theorem dX12_init_53 : decode cX12_init 53 = .ok (.bipush 16, 2) := by decide +kernel
theorem dX12_init_55 : decode cX12_init 55 = .ok (.bipush 16, 2) := by decide +kernel
theorem dX12_init_57 : decode cX12_init 57 = .ok (.multianewarray 28 2, 4) := by decide +kernel
theorem dX12_init_61 : decode cX12_init 61 = .ok (.putfield 30, 3) := by decide +kernel
theorem dX12_init_64 : decode cX12_init 64 = .ok (.aload_n 0, 1) := by decide +kernel
theorem dX12_init_65 : decode cX12_init 65 = .ok (.bipush 40, 2) := by decide +kernel
theorem dX12_init_67 : decode cX12_init 67 = .ok (.newarray .boolean, 2) := by decide +kernel
theorem dX12_init_69 : decode cX12_init 69 = .ok (.putfield 33, 3) := by decide +kernel
theorem dX12_init_72 : decode cX12_init 72 = .ok (.aload_n 0, 1) := by decide +kernel
theorem dX12_init_73 : decode cX12_init 73 = .ok (.bipush 60, 2) := by decide +kernel
theorem dX12_init_75 : decode cX12_init 75 = .ok (.newarray .int, 2) := by decide +kernel
theorem dX12_init_77 : decode cX12_init 77 = .ok (.putfield 37, 3) := by decide +kernel
theorem dX12_init_80 : decode cX12_init 80 = .ok (.aload_n 0, 1) := by decide +kernel
theorem dX12_init_81 : decode cX12_init 81 = .ok (.bipush 60, 2) := by decide +kernel
theorem dX12_init_83 : decode cX12_init 83 = .ok (.newarray .int, 2) := by decide +kernel
theorem dX12_init_85 : decode cX12_init 85 = .ok (.putfield 40, 3) := by decide +kernel
theorem dX12_init_88 : decode cX12_init 88 = .ok (.aload_n 0, 1) := by decide +kernel
theorem dX12_init_89 : decode cX12_init 89 = .ok (.bipush 60, 2) := by decide +kernel
theorem dX12_init_91 : decode cX12_init 91 = .ok (.newarray .int, 2) := by decide +kernel
theorem dX12_init_93 : decode cX12_init 93 = .ok (.putfield 43, 3) := by decide +kernel
theorem dX12_init_96 : decode cX12_init 96 = .ok (.aload_n 0, 1) := by decide +kernel
theorem dX12_init_97 : decode cX12_init 97 = .ok (.bipush 60, 2) := by decide +kernel
theorem dX12_init_99 : decode cX12_init 99 = .ok (.newarray .int, 2) := by decide +kernel
theorem dX12_init_101 : decode cX12_init 101 = .ok (.putfield 46, 3) := by decide +kernel
theorem dX12_init_104 : decode cX12_init 104 = .ok (.aload_n 0, 1) := by decide +kernel
theorem dX12_init_105 : decode cX12_init 105 = .ok (.bipush 60, 2) := by decide +kernel
theorem dX12_init_107 : decode cX12_init 107 = .ok (.newarray .int, 2) := by decide +kernel
theorem dX12_init_109 : decode cX12_init 109 = .ok (.putfield 49, 3) := by decide +kernel
theorem dX12_init_112 : decode cX12_init 112 = .ok (.aload_n 0, 1) := by decide +kernel
theorem dX12_init_113 : decode cX12_init 113 = .ok (.bipush 40, 2) := by decide +kernel
theorem dX12_init_115 : decode cX12_init 115 = .ok (.newarray .int, 2) := by decide +kernel
theorem dX12_init_117 : decode cX12_init 117 = .ok (.putfield 52, 3) := by decide +kernel
theorem dX12_init_120 : decode cX12_init 120 = .ok (.aload_n 0, 1) := by decide +kernel
theorem dX12_init_121 : decode cX12_init 121 = .ok (.bipush 40, 2) := by decide +kernel
theorem dX12_init_123 : decode cX12_init 123 = .ok (.newarray .int, 2) := by decide +kernel
theorem dX12_init_125 : decode cX12_init 125 = .ok (.putfield 55, 3) := by decide +kernel
theorem dX12_init_128 : decode cX12_init 128 = .ok (.aload_n 0, 1) := by decide +kernel
theorem dX12_init_129 : decode cX12_init 129 = .ok (.bipush 40, 2) := by decide +kernel
theorem dX12_init_131 : decode cX12_init 131 = .ok (.newarray .int, 2) := by decide +kernel
theorem dX12_init_133 : decode cX12_init 133 = .ok (.putfield 58, 3) := by decide +kernel
theorem dX12_init_136 : decode cX12_init 136 = .ok (.aload_n 0, 1) := by decide +kernel
theorem dX12_init_137 : decode cX12_init 137 = .ok (.bipush 40, 2) := by decide +kernel
theorem dX12_init_139 : decode cX12_init 139 = .ok (.newarray .int, 2) := by decide +kernel
theorem dX12_init_141 : decode cX12_init 141 = .ok (.putfield 61, 3) := by decide +kernel
theorem dX12_init_144 : decode cX12_init 144 = .ok (.aload_n 0, 1) := by decide +kernel
theorem dX12_init_145 : decode cX12_init 145 = .ok (.bipush 40, 2) := by decide +kernel
theorem dX12_init_147 : decode cX12_init 147 = .ok (.newarray .int, 2) := by decide +kernel
theorem dX12_init_149 : decode cX12_init 149 = .ok (.putfield 64, 3) := by decide +kernel
theorem dX12_init_152 : decode cX12_init 152 = .ok (.aload_n 0, 1) := by decide +kernel
theorem dX12_init_153 : decode cX12_init 153 = .ok (.bipush 40, 2) := by decide +kernel
theorem dX12_init_155 : decode cX12_init 155 = .ok (.newarray .int, 2) := by decide +kernel
theorem dX12_init_157 : decode cX12_init 157 = .ok (.putfield 67, 3) := by decide +kernel
theorem dX12_init_160 : decode cX12_init 160 = .ok (.aload_n 0, 1) := by decide +kernel
theorem dX12_init_161 : decode cX12_init 161 = .ok (.bipush 6, 2) := by decide +kernel
theorem dX12_init_163 : decode cX12_init 163 = .ok (.newarray .int, 2) := by decide +kernel
theorem dX12_init_165 : decode cX12_init 165 = .ok (.putfield 70, 3) := by decide +kernel
theorem dX12_init_168 : decode cX12_init 168 = .ok (.aload_n 0, 1) := by decide +kernel
theorem dX12_init_169 : decode cX12_init 169 = .ok (.bipush 6, 2) := by decide +kernel
theorem dX12_init_171 : decode cX12_init 171 = .ok (.newarray .int, 2) := by decide +kernel
theorem dX12_init_173 : decode cX12_init 173 = .ok (.putfield 73, 3) := by decide +kernel
theorem dX12_init_176 : decode cX12_init 176 = .ok (.aload_n 0, 1) := by decide +kernel
theorem dX12_init_177 : decode cX12_init 177 = .ok (.bipush 7, 2) := by decide +kernel
theorem dX12_init_179 : decode cX12_init 179 = .ok (.bipush 11, 2) := by decide +kernel
theorem dX12_init_181 : decode cX12_init 181 = .ok (.multianewarray 76 2, 4) := by decide +kernel
theorem dX12_init_185 : decode cX12_init 185 = .ok (.putfield 78, 3) := by decide +kernel
theorem dX12_init_188 : decode cX12_init 188 = .ok (.aload_n 0, 1) := by decide +kernel
theorem dX12_init_189 : decode cX12_init 189 = .ok (.sipush 300, 3) := by decide +kernel
theorem dX12_init_192 : decode cX12_init 192 = .ok (.newarray .byte, 2) := by decide +kernel
theorem dX12_init_194 : decode cX12_init 194 = .ok (.putfield 81, 3) := by decide +kernel
theorem dX12_init_197 : decode cX12_init 197 = .ok (.aload_n 0, 1) := by decide +kernel
theorem dX12_init_198 : decode cX12_init 198 = .ok (.bipush 60, 2) := by decide +kernel
theorem dX12_init_200 : decode cX12_init 200 = .ok (.newarray .int, 2) := by decide +kernel
theorem dX12_init_202 : decode cX12_init 202 = .ok (.putfield 85, 3) := by decide +kernel
theorem dX12_init_205 : decode cX12_init 205 = .ok (.aload_n 0, 1) := by decide +kernel
theorem dX12_init_206 : decode cX12_init 206 = .ok (.bipush 8, 2) := by decide +kernel
theorem dX12_init_208 : decode cX12_init 208 = .ok (.newarray .int, 2) := by decide +kernel
theorem dX12_init_210 : decode cX12_init 210 = .ok (.putfield 88, 3) := by decide +kernel
theorem dX12_init_213 : decode cX12_init 213 = .ok (.aload_n 0, 1) := by decide +kernel
theorem dX12_init_214 : decode cX12_init 214 = .ok (.bipush 8, 2) := by decide +kernel
theorem dX12_init_216 : decode cX12_init 216 = .ok (.newarray .int, 2) := by decide +kernel
theorem dX12_init_218 : decode cX12_init 218 = .ok (.putfield 91, 3) := by decide +kernel
theorem dX12_init_221 : decode cX12_init 221 = .ok (.aload_n 0, 1) := by decide +kernel
theorem dX12_init_222 : decode cX12_init 222 = .ok (.bipush 8, 2) := by decide +kernel
theorem dX12_init_224 : decode cX12_init 224 = .ok (.newarray .int, 2) := by decide +kernel
theorem dX12_init_226 : decode cX12_init 226 = .ok (.putfield 94, 3) := by decide +kernel
theorem dX12_init_229 : decode cX12_init 229 = .ok (.aload_n 0, 1) := by decide +kernel
theorem dX12_init_230 : decode cX12_init 230 = .ok (.bipush 8, 2) := by decide +kernel
theorem dX12_init_232 : decode cX12_init 232 = .ok (.newarray .int, 2) := by decide +kernel
theorem dX12_init_234 : decode cX12_init 234 = .ok (.putfield 97, 3) := by decide +kernel
theorem dX12_init_237 : decode cX12_init 237 = .ok (.aload_n 0, 1) := by decide +kernel
theorem dX12_init_238 : decode cX12_init 238 = .ok (.bipush 8, 2) := by decide +kernel
theorem dX12_init_240 : decode cX12_init 240 = .ok (.newarray .int, 2) := by decide +kernel
theorem dX12_init_242 : decode cX12_init 242 = .ok (.putfield 100, 3) := by decide +kernel
theorem dX12_init_245 : decode cX12_init 245 = .ok (.aload_n 0, 1) := by decide +kernel
theorem dX12_init_246 : decode cX12_init 246 = .ok (.bipush 8, 2) := by decide +kernel
theorem dX12_init_248 : decode cX12_init 248 = .ok (.newarray .int, 2) := by decide +kernel
theorem dX12_init_250 : decode cX12_init 250 = .ok (.putfield 103, 3) := by decide +kernel
theorem dX12_init_253 : decode cX12_init 253 = .ok (.aload_n 0, 1) := by decide +kernel
theorem dX12_init_254 : decode cX12_init 254 = .ok (.bipush 8, 2) := by decide +kernel
theorem dX12_init_256 : decode cX12_init 256 = .ok (.newarray .int, 2) := by decide +kernel
theorem dX12_init_258 : decode cX12_init 258 = .ok (.putfield 106, 3) := by decide +kernel
theorem dX12_init_261 : decode cX12_init 261 = .ok (.aload_n 0, 1) := by decide +kernel
theorem dX12_init_262 : decode cX12_init 262 = .ok (.bipush 8, 2) := by decide +kernel
theorem dX12_init_264 : decode cX12_init 264 = .ok (.bipush 60, 2) := by decide +kernel
theorem dX12_init_266 : decode cX12_init 266 = .ok (.multianewarray 76 2, 4) := by decide +kernel
theorem dX12_init_270 : decode cX12_init 270 = .ok (.putfield 109, 3) := by decide +kernel
theorem dX12_init_273 : decode cX12_init 273 = .ok (.aload_n 0, 1) := by decide +kernel
theorem dX12_init_274 : decode cX12_init 274 = .ok (.bipush 40, 2) := by decide +kernel
theorem dX12_init_276 : decode cX12_init 276 = .ok (.newarray .int, 2) := by decide +kernel
theorem dX12_init_278 : decode cX12_init 278 = .ok (.putfield 112, 3) := by decide +kernel
theorem dX12_init_281 : decode cX12_init 281 = .ok (.aload_n 0, 1) := by decide +kernel
theorem dX12_init_282 : decode cX12_init 282 = .ok (.bipush 8, 2) := by decide +kernel
theorem dX12_init_284 : decode cX12_init 284 = .ok (.bipush 7, 2) := by decide +kernel
theorem dX12_init_286 : decode cX12_init 286 = .ok (.multianewarray 28 2, 4) := by decide +kernel
theorem dX12_init_290 : decode cX12_init 290 = .ok (.putfield 115, 3) := by decide +kernel
theorem dX12_init_293 : decode cX12_init 293 = .ok (.aload_n 0, 1) := by decide +kernel
theorem dX12_init_294 : decode cX12_init 294 = .ok (.bipush 8, 2) := by decide +kernel
theorem dX12_init_296 : decode cX12_init 296 = .ok (.bipush 60, 2) := by decide +kernel
theorem dX12_init_298 : decode cX12_init 298 = .ok (.multianewarray 28 2, 4) := by decide +kernel
theorem dX12_init_302 : decode cX12_init 302 = .ok (.putfield 118, 3) := by decide +kernel
theorem dX12_init_305 : decode cX12_init 305 = .ok (.aload_n 0, 1) := by decide +kernel
theorem dX12_init_306 : decode cX12_init 306 = .ok (.bipush 8, 2) := by decide +kernel
theorem dX12_init_308 : decode cX12_init 308 = .ok (.newarray .int, 2) := by decide +kernel
theorem dX12_init_310 : decode cX12_init 310 = .ok (.putfield 121, 3) := by decide +kernel
theorem dX12_init_313 : decode cX12_init 313 = .ok (.iconst 0, 1) := by decide +kernel
theorem dX12_init_314 : decode cX12_init 314 = .ok (.istore_n 1, 1) := by decide +kernel
theorem dX12_init_315 : decode cX12_init 315 = .ok (.iload_n 1, 1) := by decide +kernel
theorem dX12_init_316 : decode cX12_init 316 = .ok (.bipush 6, 2) := by decide +kernel
theorem dX12_init_318 : decode cX12_init 318 = .ok (.if_icmp .ge 16, 3) := by decide +kernel
theorem dX12_init_321 : decode cX12_init 321 = .ok (.aload_n 0, 1) := by decide +kernel
theorem dX12_init_322 : decode cX12_init 322 = .ok (.getfield 7, 3) := by decide +kernel
theorem dX12_init_325 : decode cX12_init 325 = .ok (.iload_n 1, 1) := by decide +kernel
theorem dX12_init_326 : decode cX12_init 326 = .ok (.iconst 5, 1) := by decide +kernel
theorem dX12_init_327 : decode cX12_init 327 = .ok (.iastore, 1) := by decide +kernel
theorem dX12_init_328 : decode cX12_init 328 = .ok (.iinc 1 1, 3) := by decide +kernel
theorem dX12_init_331 : decode cX12_init 331 = .ok (.goto (-16), 3) := by decide +kernel
theorem dX12_init_334 : decode cX12_init 334 = .ok (.return_, 1) := by decide +kernel
theorem dX12_in_0 : decode cX12_in 0 = .ok (.iload_n 0, 1) := by decide +kernel
theorem dX12_in_1 : decode cX12_in 1 = .ok (.iload_n 1, 1) := by decide +kernel
theorem dX12_in_2 : decode cX12_in 2 = .ok (.if_icmp .lt 12, 3) := by decide +kernel
theorem dX12_in_5 : decode cX12_in 5 = .ok (.iload_n 0, 1) := by decide +kernel
theorem dX12_in_6 : decode cX12_in 6 = .ok (.iload_n 2, 1) := by decide +kernel
theorem dX12_in_7 : decode cX12_in 7 = .ok (.if_icmp .gt 7, 3) := by decide +kernel
theorem dX12_in_10 : decode cX12_in 10 = .ok (.iconst 1, 1) := by decide +kernel
theorem dX12_in_11 : decode cX12_in 11 = .ok (.goto 4, 3) := by decide +kernel
theorem dX12_in_14 : decode cX12_in 14 = .ok (.iconst 0, 1) := by decide +kernel
theorem dX12_in_15 : decode cX12_in 15 = .ok (.ireturn, 1) := by decide +kernel
theorem dX12_clock_0 : decode cX12_clock 0 = .ok (.iload_n 1, 1) := by decide +kernel
theorem dX12_clock_1 : decode cX12_clock 1 = .ok (.aload_n 0, 1) := by decide +kernel
theorem dX12_clock_2 : decode cX12_clock 2 = .ok (.getfield 128, 3) := by decide +kernel
theorem dX12_clock_5 : decode cX12_clock 5 = .ok (.sipush 5000, 3) := by decide +kernel
theorem dX12_clock_8 : decode cX12_clock 8 = .ok (.invokestatic 131, 3) := by decide +kernel
theorem dX12_clock_11 : decode cX12_clock 11 = .ok (.ifCond .ne 5, 3) := by decide +kernel
theorem dX12_clock_14 : decode cX12_clock 14 = .ok (.iconst 0, 1) := by decide +kernel
theorem dX12_clock_15 : decode cX12_clock 15 = .ok (.ireturn, 1) := by decide +kernel
theorem dX12_clock_16 : decode cX12_clock 16 = .ok (.aload_n 0, 1) := by decide +kernel
theorem dX12_clock_17 : decode cX12_clock 17 = .ok (.iload_n 1, 1) := by decide +kernel
theorem dX12_clock_18 : decode cX12_clock 18 = .ok (.putfield 128, 3) := by decide +kernel
theorem dX12_clock_21 : decode cX12_clock 21 = .ok (.iconst 1, 1) := by decide +kernel
theorem dX12_clock_22 : decode cX12_clock 22 = .ok (.ireturn, 1) := by decide +kernel
theorem dX12_trust_0 : decode cX12_trust 0 = .ok (.iload_n 1, 1) := by decide +kernel
theorem dX12_trust_1 : decode cX12_trust 1 = .ok (.iconst 0, 1) := by decide +kernel
theorem dX12_trust_2 : decode cX12_trust 2 = .ok (.iconst 5, 1) := by decide +kernel
theorem dX12_trust_3 : decode cX12_trust 3 = .ok (.invokestatic 131, 3) := by decide +kernel
theorem dX12_trust_6 : decode cX12_trust 6 = .ok (.ifCond .eq 13, 3) := by decide +kernel
theorem dX12_trust_9 : decode cX12_trust 9 = .ok (.iload_n 2, 1) := by decide +kernel
theorem dX12_trust_10 : decode cX12_trust 10 = .ok (.iconst 0, 1) := by decide +kernel
theorem dX12_trust_11 : decode cX12_trust 11 = .ok (.bipush 9, 2) := by decide +kernel
theorem dX12_trust_13 : decode cX12_trust 13 = .ok (.invokestatic 131, 3) := by decide +kernel
theorem dX12_trust_16 : decode cX12_trust 16 = .ok (.ifCond .ne 5, 3) := by decide +kernel
theorem dX12_trust_19 : decode cX12_trust 19 = .ok (.iconst (-1), 1) := by decide +kernel
theorem dX12_trust_20 : decode cX12_trust 20 = .ok (.ireturn, 1) := by decide +kernel
theorem dX12_trust_21 : decode cX12_trust 21 = .ok (.aload_n 0, 1) := by decide +kernel
theorem dX12_trust_22 : decode cX12_trust 22 = .ok (.getfield 7, 3) := by decide +kernel
theorem dX12_trust_25 : decode cX12_trust 25 = .ok (.iload_n 1, 1) := by decide +kernel
theorem dX12_trust_26 : decode cX12_trust 26 = .ok (.iaload, 1) := by decide +kernel
theorem dX12_trust_27 : decode cX12_trust 27 = .ok (.istore_n 3, 1) := by decide +kernel
theorem dX12_trust_28 : decode cX12_trust 28 = .ok (.aload_n 0, 1) := by decide +kernel
theorem dX12_trust_29 : decode cX12_trust 29 = .ok (.getfield 7, 3) := by decide +kernel
theorem dX12_trust_32 : decode cX12_trust 32 = .ok (.iload_n 1, 1) := by decide +kernel
theorem dX12_trust_33 : decode cX12_trust 33 = .ok (.iload_n 2, 1) := by decide +kernel
theorem dX12_trust_34 : decode cX12_trust 34 = .ok (.iastore, 1) := by decide +kernel
theorem dX12_trust_35 : decode cX12_trust 35 = .ok (.iload_n 3, 1) := by decide +kernel
theorem dX12_trust_36 : decode cX12_trust 36 = .ok (.ireturn, 1) := by decide +kernel
theorem dX12_says_0 : decode cX12_says 0 = .ok (.aload_n 0, 1) := by decide +kernel
theorem dX12_says_1 : decode cX12_says 1 = .ok (.getfield 135, 3) := by decide +kernel
theorem dX12_says_4 : decode cX12_says 4 = .ok (.bipush 40, 2) := by decide +kernel
theorem dX12_says_6 : decode cX12_says 6 = .ok (.if_icmp .eq 64, 3) := by decide +kernel
theorem dX12_says_9 : decode cX12_says 9 = .ok (.iload_n 1, 1) := by decide +kernel
theorem dX12_says_10 : decode cX12_says 10 = .ok (.iconst 0, 1) := by decide +kernel
theorem dX12_says_11 : decode cX12_says 11 = .ok (.iconst 5, 1) := by decide +kernel
theorem dX12_says_12 : decode cX12_says 12 = .ok (.invokestatic 131, 3) := by decide +kernel
theorem dX12_says_15 : decode cX12_says 15 = .ok (.ifCond .eq 55, 3) := by decide +kernel
theorem dX12_says_18 : decode cX12_says 18 = .ok (.iload_n 2, 1) := by decide +kernel
theorem dX12_says_19 : decode cX12_says 19 = .ok (.iconst 0, 1) := by decide +kernel
theorem dX12_says_20 : decode cX12_says 20 = .ok (.bipush 15, 2) := by decide +kernel
theorem dX12_says_22 : decode cX12_says 22 = .ok (.invokestatic 131, 3) := by decide +kernel
theorem dX12_says_25 : decode cX12_says 25 = .ok (.ifCond .eq 45, 3) := by decide +kernel
theorem dX12_says_28 : decode cX12_says 28 = .ok (.iload_n 3, 1) := by decide +kernel
theorem dX12_says_29 : decode cX12_says 29 = .ok (.iconst 0, 1) := by decide +kernel
theorem dX12_says_30 : decode cX12_says 30 = .ok (.bipush 15, 2) := by decide +kernel
theorem dX12_says_32 : decode cX12_says 32 = .ok (.invokestatic 131, 3) := by decide +kernel
theorem dX12_says_35 : decode cX12_says 35 = .ok (.ifCond .eq 35, 3) := by decide +kernel
theorem dX12_says_38 : decode cX12_says 38 = .ok (.iload_n 2, 1) := by decide +kernel
theorem dX12_says_39 : decode cX12_says 39 = .ok (.iload_n 3, 1) := by decide +kernel
theorem dX12_says_40 : decode cX12_says 40 = .ok (.if_icmp .eq 30, 3) := by decide +kernel
theorem dX12_says_43 : decode cX12_says 43 = .ok (.iload 4, 2) := by decide +kernel
theorem dX12_says_45 : decode cX12_says 45 = .ok (.sipush (-10000), 3) := by decide +kernel
theorem dX12_says_48 : decode cX12_says 48 = .ok (.sipush 10000, 3) := by decide +kernel
theorem dX12_says_51 : decode cX12_says 51 = .ok (.invokestatic 131, 3) := by decide +kernel
theorem dX12_says_54 : decode cX12_says 54 = .ok (.ifCond .eq 16, 3) := by decide +kernel
theorem dX12_says_57 : decode cX12_says 57 = .ok (.iload 5, 2) := by decide +kernel
theorem dX12_says_59 : decode cX12_says 59 = .ok (.iload 4, 2) := by decide +kernel
theorem dX12_says_61 : decode cX12_says 61 = .ok (.sipush 10000, 3) := by decide +kernel
theorem dX12_says_64 : decode cX12_says 64 = .ok (.invokestatic 131, 3) := by decide +kernel
theorem dX12_says_67 : decode cX12_says 67 = .ok (.ifCond .ne 5, 3) := by decide +kernel
theorem dX12_says_70 : decode cX12_says 70 = .ok (.iconst (-1), 1) := by decide +kernel
theorem dX12_says_71 : decode cX12_says 71 = .ok (.ireturn, 1) := by decide +kernel
theorem dX12_says_72 : decode cX12_says 72 = .ok (.aload_n 0, 1) := by decide +kernel
theorem dX12_says_73 : decode cX12_says 73 = .ok (.getfield 13, 3) := by decide +kernel
theorem dX12_says_76 : decode cX12_says 76 = .ok (.aload_n 0, 1) := by decide +kernel
theorem dX12_says_77 : decode cX12_says 77 = .ok (.getfield 135, 3) := by decide +kernel
theorem dX12_says_80 : decode cX12_says 80 = .ok (.iload_n 1, 1) := by decide +kernel
theorem dX12_says_81 : decode cX12_says 81 = .ok (.iastore, 1) := by decide +kernel
theorem dX12_says_82 : decode cX12_says 82 = .ok (.aload_n 0, 1) := by decide +kernel
theorem dX12_says_83 : decode cX12_says 83 = .ok (.getfield 16, 3) := by decide +kernel
theorem dX12_says_86 : decode cX12_says 86 = .ok (.aload_n 0, 1) := by decide +kernel
theorem dX12_says_87 : decode cX12_says 87 = .ok (.getfield 135, 3) := by decide +kernel
theorem dX12_says_90 : decode cX12_says 90 = .ok (.iload_n 2, 1) := by decide +kernel
theorem dX12_says_91 : decode cX12_says 91 = .ok (.iastore, 1) := by decide +kernel
theorem dX12_says_92 : decode cX12_says 92 = .ok (.aload_n 0, 1) := by decide +kernel
theorem dX12_says_93 : decode cX12_says 93 = .ok (.getfield 19, 3) := by decide +kernel
theorem dX12_says_96 : decode cX12_says 96 = .ok (.aload_n 0, 1) := by decide +kernel
theorem dX12_says_97 : decode cX12_says 97 = .ok (.getfield 135, 3) := by decide +kernel
theorem dX12_says_100 : decode cX12_says 100 = .ok (.iload_n 3, 1) := by decide +kernel
theorem dX12_says_101 : decode cX12_says 101 = .ok (.iastore, 1) := by decide +kernel
theorem dX12_says_102 : decode cX12_says 102 = .ok (.aload_n 0, 1) := by decide +kernel
theorem dX12_says_103 : decode cX12_says 103 = .ok (.getfield 22, 3) := by decide +kernel
theorem dX12_says_106 : decode cX12_says 106 = .ok (.aload_n 0, 1) := by decide +kernel
theorem dX12_says_107 : decode cX12_says 107 = .ok (.getfield 135, 3) := by decide +kernel
theorem dX12_says_110 : decode cX12_says 110 = .ok (.iload 4, 2) := by decide +kernel
theorem dX12_says_112 : decode cX12_says 112 = .ok (.iastore, 1) := by decide +kernel
theorem dX12_says_113 : decode cX12_says 113 = .ok (.aload_n 0, 1) := by decide +kernel
theorem dX12_says_114 : decode cX12_says 114 = .ok (.getfield 25, 3) := by decide +kernel
theorem dX12_says_117 : decode cX12_says 117 = .ok (.aload_n 0, 1) := by decide +kernel
theorem dX12_says_118 : decode cX12_says 118 = .ok (.getfield 135, 3) := by decide +kernel
theorem dX12_says_121 : decode cX12_says 121 = .ok (.iload 5, 2) := by decide +kernel
theorem dX12_says_123 : decode cX12_says 123 = .ok (.iastore, 1) := by decide +kernel
theorem dX12_says_124 : decode cX12_says 124 = .ok (.aload_n 0, 1) := by decide +kernel
theorem dX12_says_125 : decode cX12_says 125 = .ok (.dup, 1) := by decide +kernel
theorem dX12_says_126 : decode cX12_says 126 = .ok (.getfield 135, 3) := by decide +kernel
theorem dX12_says_129 : decode cX12_says 129 = .ok (.iconst 1, 1) := by decide +kernel
theorem dX12_says_130 : decode cX12_says 130 = .ok (.iadd, 1) := by decide +kernel
theorem dX12_says_131 : decode cX12_says 131 = .ok (.putfield 135, 3) := by decide +kernel
theorem dX12_says_134 : decode cX12_says 134 = .ok (.aload_n 0, 1) := by decide +kernel
theorem dX12_says_135 : decode cX12_says 135 = .ok (.getfield 135, 3) := by decide +kernel
theorem dX12_says_138 : decode cX12_says 138 = .ok (.iconst 1, 1) := by decide +kernel
theorem dX12_says_139 : decode cX12_says 139 = .ok (.isub, 1) := by decide +kernel
theorem dX12_says_140 : decode cX12_says 140 = .ok (.ireturn, 1) := by decide +kernel
theorem dX12_canBe_0 : decode cX12_canBe 0 = .ok (.iconst 0, 1) := by decide +kernel
theorem dX12_canBe_1 : decode cX12_canBe 1 = .ok (.istore_n 1, 1) := by decide +kernel
theorem dX12_canBe_2 : decode cX12_canBe 2 = .ok (.iload_n 1, 1) := by decide +kernel
theorem dX12_canBe_3 : decode cX12_canBe 3 = .ok (.bipush 16, 2) := by decide +kernel
theorem dX12_canBe_5 : decode cX12_canBe 5 = .ok (.if_icmp .ge 43, 3) := by decide +kernel
theorem dX12_canBe_8 : decode cX12_canBe 8 = .ok (.iconst 0, 1) := by decide +kernel
theorem dX12_canBe_9 : decode cX12_canBe 9 = .ok (.istore_n 2, 1) := by decide +kernel
theorem dX12_canBe_10 : decode cX12_canBe 10 = .ok (.iload_n 2, 1) := by decide +kernel
theorem dX12_canBe_11 : decode cX12_canBe 11 = .ok (.bipush 16, 2) := by decide +kernel
theorem dX12_canBe_13 : decode cX12_canBe 13 = .ok (.if_icmp .ge 29, 3) := by decide +kernel
theorem dX12_canBe_16 : decode cX12_canBe 16 = .ok (.aload_n 0, 1) := by decide +kernel
theorem dX12_canBe_17 : decode cX12_canBe 17 = .ok (.getfield 30, 3) := by decide +kernel
theorem dX12_canBe_20 : decode cX12_canBe 20 = .ok (.iload_n 1, 1) := by decide +kernel
theorem dX12_canBe_21 : decode cX12_canBe 21 = .ok (.aaload, 1) := by decide +kernel
theorem dX12_canBe_22 : decode cX12_canBe 22 = .ok (.iload_n 2, 1) := by decide +kernel
theorem dX12_canBe_23 : decode cX12_canBe 23 = .ok (.iload_n 1, 1) := by decide +kernel
theorem dX12_canBe_24 : decode cX12_canBe 24 = .ok (.iload_n 2, 1) := by decide +kernel
theorem dX12_canBe_25 : decode cX12_canBe 25 = .ok (.if_icmp .ne 7, 3) := by decide +kernel
theorem dX12_canBe_28 : decode cX12_canBe 28 = .ok (.lconst 0, 1) := by decide +kernel
theorem dX12_canBe_29 : decode cX12_canBe 29 = .ok (.goto 6, 3) := by decide +kernel
theorem dX12_canBe_32 : decode cX12_canBe 32 = .ok (.ldc2_w 138, 3) := by decide +kernel
theorem dX12_canBe_35 : decode cX12_canBe 35 = .ok (.lastore, 1) := by decide +kernel
theorem dX12_canBe_36 : decode cX12_canBe 36 = .ok (.iinc 2 1, 3) := by decide +kernel
theorem dX12_canBe_39 : decode cX12_canBe 39 = .ok (.goto (-29), 3) := by decide +kernel
theorem dX12_canBe_42 : decode cX12_canBe 42 = .ok (.iinc 1 1, 3) := by decide +kernel
theorem dX12_canBe_45 : decode cX12_canBe 45 = .ok (.goto (-43), 3) := by decide +kernel
theorem dX12_canBe_48 : decode cX12_canBe 48 = .ok (.iconst 0, 1) := by decide +kernel
theorem dX12_canBe_49 : decode cX12_canBe 49 = .ok (.istore_n 1, 1) := by decide +kernel
theorem dX12_canBe_50 : decode cX12_canBe 50 = .ok (.iload_n 1, 1) := by decide +kernel
theorem dX12_canBe_51 : decode cX12_canBe 51 = .ok (.aload_n 0, 1) := by decide +kernel
theorem dX12_canBe_52 : decode cX12_canBe 52 = .ok (.getfield 135, 3) := by decide +kernel
theorem dX12_canBe_55 : decode cX12_canBe 55 = .ok (.if_icmp .ge 124, 3) := by decide +kernel
theorem dX12_canBe_58 : decode cX12_canBe 58 = .ok (.aload_n 0, 1) := by decide +kernel
theorem dX12_canBe_59 : decode cX12_canBe 59 = .ok (.getfield 33, 3) := by decide +kernel
theorem dX12_canBe_62 : decode cX12_canBe 62 = .ok (.iload_n 1, 1) := by decide +kernel
theorem dX12_canBe_63 : decode cX12_canBe 63 = .ok (.baload, 1) := by decide +kernel
theorem dX12_canBe_64 : decode cX12_canBe 64 = .ok (.ifCond .eq 109, 3) := by decide +kernel
theorem dX12_canBe_67 : decode cX12_canBe 67 = .ok (.aload_n 0, 1) := by decide +kernel
theorem dX12_canBe_68 : decode cX12_canBe 68 = .ok (.getfield 16, 3) := by decide +kernel
theorem dX12_canBe_71 : decode cX12_canBe 71 = .ok (.iload_n 1, 1) := by decide +kernel
theorem dX12_canBe_72 : decode cX12_canBe 72 = .ok (.iaload, 1) := by decide +kernel
theorem dX12_canBe_73 : decode cX12_canBe 73 = .ok (.istore_n 2, 1) := by decide +kernel
theorem dX12_canBe_74 : decode cX12_canBe 74 = .ok (.aload_n 0, 1) := by decide +kernel
theorem dX12_canBe_75 : decode cX12_canBe 75 = .ok (.getfield 19, 3) := by decide +kernel
theorem dX12_canBe_78 : decode cX12_canBe 78 = .ok (.iload_n 1, 1) := by decide +kernel
theorem dX12_canBe_79 : decode cX12_canBe 79 = .ok (.iaload, 1) := by decide +kernel
theorem dX12_canBe_80 : decode cX12_canBe 80 = .ok (.istore_n 3, 1) := by decide +kernel
theorem dX12_canBe_81 : decode cX12_canBe 81 = .ok (.aload_n 0, 1) := by decide +kernel
theorem dX12_canBe_82 : decode cX12_canBe 82 = .ok (.getfield 30, 3) := by decide +kernel
theorem dX12_canBe_85 : decode cX12_canBe 85 = .ok (.iload_n 2, 1) := by decide +kernel
theorem dX12_canBe_86 : decode cX12_canBe 86 = .ok (.aaload, 1) := by decide +kernel
theorem dX12_canBe_87 : decode cX12_canBe 87 = .ok (.iload_n 3, 1) := by decide +kernel
theorem dX12_canBe_88 : decode cX12_canBe 88 = .ok (.aload_n 0, 1) := by decide +kernel
theorem dX12_canBe_89 : decode cX12_canBe 89 = .ok (.getfield 30, 3) := by decide +kernel
theorem dX12_canBe_92 : decode cX12_canBe 92 = .ok (.iload_n 2, 1) := by decide +kernel
theorem dX12_canBe_93 : decode cX12_canBe 93 = .ok (.aaload, 1) := by decide +kernel
theorem dX12_canBe_94 : decode cX12_canBe 94 = .ok (.iload_n 3, 1) := by decide +kernel
theorem dX12_canBe_95 : decode cX12_canBe 95 = .ok (.laload, 1) := by decide +kernel
theorem dX12_canBe_96 : decode cX12_canBe 96 = .ok (.aload_n 0, 1) := by decide +kernel
theorem dX12_canBe_97 : decode cX12_canBe 97 = .ok (.getfield 25, 3) := by decide +kernel
theorem dX12_canBe_100 : decode cX12_canBe 100 = .ok (.iload_n 1, 1) := by decide +kernel
theorem dX12_canBe_101 : decode cX12_canBe 101 = .ok (.iaload, 1) := by decide +kernel
theorem dX12_canBe_102 : decode cX12_canBe 102 = .ok (.i2l, 1) := by decide +kernel
theorem dX12_canBe_103 : decode cX12_canBe 103 = .ok (.lcmp, 1) := by decide +kernel
theorem dX12_canBe_104 : decode cX12_canBe 104 = .ok (.ifCond .ge 14, 3) := by decide +kernel
theorem dX12_canBe_107 : decode cX12_canBe 107 = .ok (.aload_n 0, 1) := by decide +kernel
theorem dX12_canBe_108 : decode cX12_canBe 108 = .ok (.getfield 30, 3) := by decide +kernel
theorem dX12_canBe_111 : decode cX12_canBe 111 = .ok (.iload_n 2, 1) := by decide +kernel
theorem dX12_canBe_112 : decode cX12_canBe 112 = .ok (.aaload, 1) := by decide +kernel
theorem dX12_canBe_113 : decode cX12_canBe 113 = .ok (.iload_n 3, 1) := by decide +kernel
theorem dX12_canBe_114 : decode cX12_canBe 114 = .ok (.laload, 1) := by decide +kernel
theorem dX12_canBe_115 : decode cX12_canBe 115 = .ok (.goto 10, 3) := by decide +kernel
theorem dX12_canBe_118 : decode cX12_canBe 118 = .ok (.aload_n 0, 1) := by decide +kernel
theorem dX12_canBe_119 : decode cX12_canBe 119 = .ok (.getfield 25, 3) := by decide +kernel
theorem dX12_canBe_122 : decode cX12_canBe 122 = .ok (.iload_n 1, 1) := by decide +kernel
theorem dX12_canBe_123 : decode cX12_canBe 123 = .ok (.iaload, 1) := by decide +kernel
theorem dX12_canBe_124 : decode cX12_canBe 124 = .ok (.i2l, 1) := by decide +kernel
theorem dX12_canBe_125 : decode cX12_canBe 125 = .ok (.lastore, 1) := by decide +kernel
theorem dX12_canBe_126 : decode cX12_canBe 126 = .ok (.aload_n 0, 1) := by decide +kernel
theorem dX12_canBe_127 : decode cX12_canBe 127 = .ok (.getfield 30, 3) := by decide +kernel
theorem dX12_canBe_130 : decode cX12_canBe 130 = .ok (.iload_n 3, 1) := by decide +kernel
theorem dX12_canBe_131 : decode cX12_canBe 131 = .ok (.aaload, 1) := by decide +kernel
theorem dX12_canBe_132 : decode cX12_canBe 132 = .ok (.iload_n 2, 1) := by decide +kernel
theorem dX12_canBe_133 : decode cX12_canBe 133 = .ok (.aload_n 0, 1) := by decide +kernel
theorem dX12_canBe_134 : decode cX12_canBe 134 = .ok (.getfield 30, 3) := by decide +kernel
theorem dX12_canBe_137 : decode cX12_canBe 137 = .ok (.iload_n 3, 1) := by decide +kernel
theorem dX12_canBe_138 : decode cX12_canBe 138 = .ok (.aaload, 1) := by decide +kernel
theorem dX12_canBe_139 : decode cX12_canBe 139 = .ok (.iload_n 2, 1) := by decide +kernel
theorem dX12_canBe_140 : decode cX12_canBe 140 = .ok (.laload, 1) := by decide +kernel
theorem dX12_canBe_141 : decode cX12_canBe 141 = .ok (.aload_n 0, 1) := by decide +kernel
theorem dX12_canBe_142 : decode cX12_canBe 142 = .ok (.getfield 22, 3) := by decide +kernel
theorem dX12_canBe_145 : decode cX12_canBe 145 = .ok (.iload_n 1, 1) := by decide +kernel
theorem dX12_canBe_146 : decode cX12_canBe 146 = .ok (.iaload, 1) := by decide +kernel
theorem dX12_canBe_147 : decode cX12_canBe 147 = .ok (.ineg, 1) := by decide +kernel
theorem dX12_canBe_148 : decode cX12_canBe 148 = .ok (.i2l, 1) := by decide +kernel
theorem dX12_canBe_149 : decode cX12_canBe 149 = .ok (.lcmp, 1) := by decide +kernel
theorem dX12_canBe_150 : decode cX12_canBe 150 = .ok (.ifCond .ge 14, 3) := by decide +kernel
theorem dX12_canBe_153 : decode cX12_canBe 153 = .ok (.aload_n 0, 1) := by decide +kernel
theorem dX12_canBe_154 : decode cX12_canBe 154 = .ok (.getfield 30, 3) := by decide +kernel
theorem dX12_canBe_157 : decode cX12_canBe 157 = .ok (.iload_n 3, 1) := by decide +kernel
theorem dX12_canBe_158 : decode cX12_canBe 158 = .ok (.aaload, 1) := by decide +kernel
theorem dX12_canBe_159 : decode cX12_canBe 159 = .ok (.iload_n 2, 1) := by decide +kernel
theorem dX12_canBe_160 : decode cX12_canBe 160 = .ok (.laload, 1) := by decide +kernel
theorem dX12_canBe_161 : decode cX12_canBe 161 = .ok (.goto 11, 3) := by decide +kernel
theorem dX12_canBe_164 : decode cX12_canBe 164 = .ok (.aload_n 0, 1) := by decide +kernel
theorem dX12_canBe_165 : decode cX12_canBe 165 = .ok (.getfield 22, 3) := by decide +kernel
theorem dX12_canBe_168 : decode cX12_canBe 168 = .ok (.iload_n 1, 1) := by decide +kernel
theorem dX12_canBe_169 : decode cX12_canBe 169 = .ok (.iaload, 1) := by decide +kernel
theorem dX12_canBe_170 : decode cX12_canBe 170 = .ok (.ineg, 1) := by decide +kernel
theorem dX12_canBe_171 : decode cX12_canBe 171 = .ok (.i2l, 1) := by decide +kernel
theorem dX12_canBe_172 : decode cX12_canBe 172 = .ok (.lastore, 1) := by decide +kernel
theorem dX12_canBe_173 : decode cX12_canBe 173 = .ok (.iinc 1 1, 3) := by decide +kernel
theorem dX12_canBe_176 : decode cX12_canBe 176 = .ok (.goto (-126), 3) := by decide +kernel
theorem dX12_canBe_179 : decode cX12_canBe 179 = .ok (.iconst 0, 1) := by decide +kernel
theorem dX12_canBe_180 : decode cX12_canBe 180 = .ok (.istore_n 1, 1) := by decide +kernel
theorem dX12_canBe_181 : decode cX12_canBe 181 = .ok (.iload_n 1, 1) := by decide +kernel
theorem dX12_canBe_182 : decode cX12_canBe 182 = .ok (.bipush 16, 2) := by decide +kernel
theorem dX12_canBe_184 : decode cX12_canBe 184 = .ok (.if_icmp .ge 150, 3) := by decide +kernel
theorem dX12_canBe_187 : decode cX12_canBe 187 = .ok (.iconst 0, 1) := by decide +kernel
theorem dX12_canBe_188 : decode cX12_canBe 188 = .ok (.istore_n 2, 1) := by decide +kernel
theorem dX12_canBe_189 : decode cX12_canBe 189 = .ok (.iload_n 2, 1) := by decide +kernel
theorem dX12_canBe_190 : decode cX12_canBe 190 = .ok (.bipush 16, 2) := by decide +kernel
theorem dX12_canBe_192 : decode cX12_canBe 192 = .ok (.if_icmp .ge 107, 3) := by decide +kernel
theorem dX12_canBe_195 : decode cX12_canBe 195 = .ok (.iconst 0, 1) := by decide +kernel
theorem dX12_canBe_196 : decode cX12_canBe 196 = .ok (.istore_n 3, 1) := by decide +kernel
theorem dX12_canBe_197 : decode cX12_canBe 197 = .ok (.iload_n 3, 1) := by decide +kernel
theorem dX12_canBe_198 : decode cX12_canBe 198 = .ok (.bipush 16, 2) := by decide +kernel
theorem dX12_canBe_200 : decode cX12_canBe 200 = .ok (.if_icmp .ge 93, 3) := by decide +kernel
theorem dX12_canBe_203 : decode cX12_canBe 203 = .ok (.aload_n 0, 1) := by decide +kernel
theorem dX12_canBe_204 : decode cX12_canBe 204 = .ok (.getfield 30, 3) := by decide +kernel
theorem dX12_canBe_207 : decode cX12_canBe 207 = .ok (.iload_n 2, 1) := by decide +kernel
theorem dX12_canBe_208 : decode cX12_canBe 208 = .ok (.aaload, 1) := by decide +kernel
theorem dX12_canBe_209 : decode cX12_canBe 209 = .ok (.iload_n 1, 1) := by decide +kernel
theorem dX12_canBe_210 : decode cX12_canBe 210 = .ok (.laload, 1) := by decide +kernel
theorem dX12_canBe_211 : decode cX12_canBe 211 = .ok (.ldc2_w 138, 3) := by decide +kernel
theorem dX12_canBe_214 : decode cX12_canBe 214 = .ok (.lcmp, 1) := by decide +kernel
theorem dX12_canBe_215 : decode cX12_canBe 215 = .ok (.ifCond .ge 72, 3) := by decide +kernel
theorem dX12_canBe_218 : decode cX12_canBe 218 = .ok (.aload_n 0, 1) := by decide +kernel
theorem dX12_canBe_219 : decode cX12_canBe 219 = .ok (.getfield 30, 3) := by decide +kernel
theorem dX12_canBe_222 : decode cX12_canBe 222 = .ok (.iload_n 1, 1) := by decide +kernel
theorem dX12_canBe_223 : decode cX12_canBe 223 = .ok (.aaload, 1) := by decide +kernel
theorem dX12_canBe_224 : decode cX12_canBe 224 = .ok (.iload_n 3, 1) := by decide +kernel
theorem dX12_canBe_225 : decode cX12_canBe 225 = .ok (.laload, 1) := by decide +kernel
theorem dX12_canBe_226 : decode cX12_canBe 226 = .ok (.ldc2_w 138, 3) := by decide +kernel
theorem dX12_canBe_229 : decode cX12_canBe 229 = .ok (.lcmp, 1) := by decide +kernel
theorem dX12_canBe_230 : decode cX12_canBe 230 = .ok (.ifCond .ge 57, 3) := by decide +kernel
theorem dX12_canBe_233 : decode cX12_canBe 233 = .ok (.aload_n 0, 1) := by decide +kernel
theorem dX12_canBe_234 : decode cX12_canBe 234 = .ok (.getfield 30, 3) := by decide +kernel
theorem dX12_canBe_237 : decode cX12_canBe 237 = .ok (.iload_n 2, 1) := by decide +kernel
theorem dX12_canBe_238 : decode cX12_canBe 238 = .ok (.aaload, 1) := by decide +kernel
theorem dX12_canBe_239 : decode cX12_canBe 239 = .ok (.iload_n 1, 1) := by decide +kernel
theorem dX12_canBe_240 : decode cX12_canBe 240 = .ok (.laload, 1) := by decide +kernel
theorem dX12_canBe_241 : decode cX12_canBe 241 = .ok (.aload_n 0, 1) := by decide +kernel
theorem dX12_canBe_242 : decode cX12_canBe 242 = .ok (.getfield 30, 3) := by decide +kernel
theorem dX12_canBe_245 : decode cX12_canBe 245 = .ok (.iload_n 1, 1) := by decide +kernel
theorem dX12_canBe_246 : decode cX12_canBe 246 = .ok (.aaload, 1) := by decide +kernel
theorem dX12_canBe_247 : decode cX12_canBe 247 = .ok (.iload_n 3, 1) := by decide +kernel
theorem dX12_canBe_248 : decode cX12_canBe 248 = .ok (.laload, 1) := by decide +kernel
theorem dX12_canBe_249 : decode cX12_canBe 249 = .ok (.ladd, 1) := by decide +kernel
theorem dX12_canBe_250 : decode cX12_canBe 250 = .ok (.aload_n 0, 1) := by decide +kernel
theorem dX12_canBe_251 : decode cX12_canBe 251 = .ok (.getfield 30, 3) := by decide +kernel
theorem dX12_canBe_254 : decode cX12_canBe 254 = .ok (.iload_n 2, 1) := by decide +kernel
theorem dX12_canBe_255 : decode cX12_canBe 255 = .ok (.aaload, 1) := by decide +kernel
theorem dX12_canBe_256 : decode cX12_canBe 256 = .ok (.iload_n 3, 1) := by decide +kernel
theorem dX12_canBe_257 : decode cX12_canBe 257 = .ok (.laload, 1) := by decide +kernel
theorem dX12_canBe_258 : decode cX12_canBe 258 = .ok (.lcmp, 1) := by decide +kernel
theorem dX12_canBe_259 : decode cX12_canBe 259 = .ok (.ifCond .ge 28, 3) := by decide +kernel
theorem dX12_canBe_262 : decode cX12_canBe 262 = .ok (.aload_n 0, 1) := by decide +kernel
theorem dX12_canBe_263 : decode cX12_canBe 263 = .ok (.getfield 30, 3) := by decide +kernel
theorem dX12_canBe_266 : decode cX12_canBe 266 = .ok (.iload_n 2, 1) := by decide +kernel
theorem dX12_canBe_267 : decode cX12_canBe 267 = .ok (.aaload, 1) := by decide +kernel
theorem dX12_canBe_268 : decode cX12_canBe 268 = .ok (.iload_n 3, 1) := by decide +kernel
theorem dX12_canBe_269 : decode cX12_canBe 269 = .ok (.aload_n 0, 1) := by decide +kernel
theorem dX12_canBe_270 : decode cX12_canBe 270 = .ok (.getfield 30, 3) := by decide +kernel
theorem dX12_canBe_273 : decode cX12_canBe 273 = .ok (.iload_n 2, 1) := by decide +kernel
theorem dX12_canBe_274 : decode cX12_canBe 274 = .ok (.aaload, 1) := by decide +kernel
theorem dX12_canBe_275 : decode cX12_canBe 275 = .ok (.iload_n 1, 1) := by decide +kernel
theorem dX12_canBe_276 : decode cX12_canBe 276 = .ok (.laload, 1) := by decide +kernel
theorem dX12_canBe_277 : decode cX12_canBe 277 = .ok (.aload_n 0, 1) := by decide +kernel
theorem dX12_canBe_278 : decode cX12_canBe 278 = .ok (.getfield 30, 3) := by decide +kernel
theorem dX12_canBe_281 : decode cX12_canBe 281 = .ok (.iload_n 1, 1) := by decide +kernel
theorem dX12_canBe_282 : decode cX12_canBe 282 = .ok (.aaload, 1) := by decide +kernel
theorem dX12_canBe_283 : decode cX12_canBe 283 = .ok (.iload_n 3, 1) := by decide +kernel
theorem dX12_canBe_284 : decode cX12_canBe 284 = .ok (.laload, 1) := by decide +kernel
theorem dX12_canBe_285 : decode cX12_canBe 285 = .ok (.ladd, 1) := by decide +kernel
theorem dX12_canBe_286 : decode cX12_canBe 286 = .ok (.lastore, 1) := by decide +kernel
theorem dX12_canBe_287 : decode cX12_canBe 287 = .ok (.iinc 3 1, 3) := by decide +kernel
theorem dX12_canBe_290 : decode cX12_canBe 290 = .ok (.goto (-93), 3) := by decide +kernel
theorem dX12_canBe_293 : decode cX12_canBe 293 = .ok (.iinc 2 1, 3) := by decide +kernel
theorem dX12_canBe_296 : decode cX12_canBe 296 = .ok (.goto (-107), 3) := by decide +kernel
theorem dX12_canBe_299 : decode cX12_canBe 299 = .ok (.iconst 0, 1) := by decide +kernel
theorem dX12_canBe_300 : decode cX12_canBe 300 = .ok (.istore_n 2, 1) := by decide +kernel
theorem dX12_canBe_301 : decode cX12_canBe 301 = .ok (.iload_n 2, 1) := by decide +kernel
theorem dX12_canBe_302 : decode cX12_canBe 302 = .ok (.bipush 16, 2) := by decide +kernel
theorem dX12_canBe_304 : decode cX12_canBe 304 = .ok (.if_icmp .ge 24, 3) := by decide +kernel
theorem dX12_canBe_307 : decode cX12_canBe 307 = .ok (.aload_n 0, 1) := by decide +kernel
theorem dX12_canBe_308 : decode cX12_canBe 308 = .ok (.getfield 30, 3) := by decide +kernel
theorem dX12_canBe_311 : decode cX12_canBe 311 = .ok (.iload_n 2, 1) := by decide +kernel
theorem dX12_canBe_312 : decode cX12_canBe 312 = .ok (.aaload, 1) := by decide +kernel
theorem dX12_canBe_313 : decode cX12_canBe 313 = .ok (.iload_n 2, 1) := by decide +kernel
theorem dX12_canBe_314 : decode cX12_canBe 314 = .ok (.laload, 1) := by decide +kernel
theorem dX12_canBe_315 : decode cX12_canBe 315 = .ok (.lconst 0, 1) := by decide +kernel
theorem dX12_canBe_316 : decode cX12_canBe 316 = .ok (.lcmp, 1) := by decide +kernel
theorem dX12_canBe_317 : decode cX12_canBe 317 = .ok (.ifCond .ge 5, 3) := by decide +kernel
theorem dX12_canBe_320 : decode cX12_canBe 320 = .ok (.iconst 0, 1) := by decide +kernel
theorem dX12_canBe_321 : decode cX12_canBe 321 = .ok (.ireturn, 1) := by decide +kernel
theorem dX12_canBe_322 : decode cX12_canBe 322 = .ok (.iinc 2 1, 3) := by decide +kernel
theorem dX12_canBe_325 : decode cX12_canBe 325 = .ok (.goto (-24), 3) := by decide +kernel
theorem dX12_canBe_328 : decode cX12_canBe 328 = .ok (.iinc 1 1, 3) := by decide +kernel
theorem dX12_canBe_331 : decode cX12_canBe 331 = .ok (.goto (-150), 3) := by decide +kernel
theorem dX12_canBe_334 : decode cX12_canBe 334 = .ok (.iconst 1, 1) := by decide +kernel
theorem dX12_canBe_335 : decode cX12_canBe 335 = .ok (.ireturn, 1) := by decide +kernel
theorem dX12_believe_0 : decode cX12_believe 0 = .ok (.bipush 40, 2) := by decide +kernel
theorem dX12_believe_2 : decode cX12_believe 2 = .ok (.newarray .boolean, 2) := by decide +kernel
theorem dX12_believe_4 : decode cX12_believe 4 = .ok (.astore_n 1, 1) := by decide +kernel
theorem dX12_believe_5 : decode cX12_believe 5 = .ok (.iconst 0, 1) := by decide +kernel
theorem dX12_believe_6 : decode cX12_believe 6 = .ok (.istore_n 2, 1) := by decide +kernel
theorem dX12_believe_7 : decode cX12_believe 7 = .ok (.iload_n 2, 1) := by decide +kernel
theorem dX12_believe_8 : decode cX12_believe 8 = .ok (.bipush 40, 2) := by decide +kernel
theorem dX12_believe_10 : decode cX12_believe 10 = .ok (.if_icmp .ge 16, 3) := by decide +kernel
theorem dX12_believe_13 : decode cX12_believe 13 = .ok (.aload_n 0, 1) := by decide +kernel
theorem dX12_believe_14 : decode cX12_believe 14 = .ok (.getfield 33, 3) := by decide +kernel
theorem dX12_believe_17 : decode cX12_believe 17 = .ok (.iload_n 2, 1) := by decide +kernel
theorem dX12_believe_18 : decode cX12_believe 18 = .ok (.iconst 0, 1) := by decide +kernel
theorem dX12_believe_19 : decode cX12_believe 19 = .ok (.bastore, 1) := by decide +kernel
theorem dX12_believe_20 : decode cX12_believe 20 = .ok (.iinc 2 1, 3) := by decide +kernel
theorem dX12_believe_23 : decode cX12_believe 23 = .ok (.goto (-16), 3) := by decide +kernel
theorem dX12_believe_26 : decode cX12_believe 26 = .ok (.iconst 0, 1) := by decide +kernel
theorem dX12_believe_27 : decode cX12_believe 27 = .ok (.istore_n 2, 1) := by decide +kernel
theorem dX12_believe_28 : decode cX12_believe 28 = .ok (.iload_n 2, 1) := by decide +kernel
theorem dX12_believe_29 : decode cX12_believe 29 = .ok (.aload_n 0, 1) := by decide +kernel
theorem dX12_believe_30 : decode cX12_believe 30 = .ok (.getfield 135, 3) := by decide +kernel
theorem dX12_believe_33 : decode cX12_believe 33 = .ok (.if_icmp .ge 91, 3) := by decide +kernel
theorem dX12_believe_36 : decode cX12_believe 36 = .ok (.iconst (-1), 1) := by decide +kernel
theorem dX12_believe_37 : decode cX12_believe 37 = .ok (.istore_n 3, 1) := by decide +kernel
theorem dX12_believe_38 : decode cX12_believe 38 = .ok (.iconst 0, 1) := by decide +kernel
theorem dX12_believe_39 : decode cX12_believe 39 = .ok (.istore 4, 2) := by decide +kernel
theorem dX12_believe_41 : decode cX12_believe 41 = .ok (.iload 4, 2) := by decide +kernel
theorem dX12_believe_43 : decode cX12_believe 43 = .ok (.aload_n 0, 1) := by decide +kernel
theorem dX12_believe_44 : decode cX12_believe 44 = .ok (.getfield 135, 3) := by decide +kernel
theorem dX12_believe_47 : decode cX12_believe 47 = .ok (.if_icmp .ge 50, 3) := by decide +kernel
theorem dX12_believe_50 : decode cX12_believe 50 = .ok (.aload_n 1, 1) := by decide +kernel
theorem dX12_believe_51 : decode cX12_believe 51 = .ok (.iload 4, 2) := by decide +kernel
theorem dX12_believe_53 : decode cX12_believe 53 = .ok (.baload, 1) := by decide +kernel
theorem dX12_believe_54 : decode cX12_believe 54 = .ok (.ifCond .ne 37, 3) := by decide +kernel
theorem dX12_believe_57 : decode cX12_believe 57 = .ok (.iload_n 3, 1) := by decide +kernel
theorem dX12_believe_58 : decode cX12_believe 58 = .ok (.iconst (-1), 1) := by decide +kernel
theorem dX12_believe_59 : decode cX12_believe 59 = .ok (.if_icmp .eq 29, 3) := by decide +kernel
theorem dX12_believe_62 : decode cX12_believe 62 = .ok (.aload_n 0, 1) := by decide +kernel
theorem dX12_believe_63 : decode cX12_believe 63 = .ok (.getfield 7, 3) := by decide +kernel
theorem dX12_believe_66 : decode cX12_believe 66 = .ok (.aload_n 0, 1) := by decide +kernel
theorem dX12_believe_67 : decode cX12_believe 67 = .ok (.getfield 13, 3) := by decide +kernel
theorem dX12_believe_70 : decode cX12_believe 70 = .ok (.iload 4, 2) := by decide +kernel
theorem dX12_believe_72 : decode cX12_believe 72 = .ok (.iaload, 1) := by decide +kernel
theorem dX12_believe_73 : decode cX12_believe 73 = .ok (.iaload, 1) := by decide +kernel
theorem dX12_believe_74 : decode cX12_believe 74 = .ok (.aload_n 0, 1) := by decide +kernel
theorem dX12_believe_75 : decode cX12_believe 75 = .ok (.getfield 7, 3) := by decide +kernel
theorem dX12_believe_78 : decode cX12_believe 78 = .ok (.aload_n 0, 1) := by decide +kernel
theorem dX12_believe_79 : decode cX12_believe 79 = .ok (.getfield 13, 3) := by decide +kernel
theorem dX12_believe_82 : decode cX12_believe 82 = .ok (.iload_n 3, 1) := by decide +kernel
theorem dX12_believe_83 : decode cX12_believe 83 = .ok (.iaload, 1) := by decide +kernel
theorem dX12_believe_84 : decode cX12_believe 84 = .ok (.iaload, 1) := by decide +kernel
theorem dX12_believe_85 : decode cX12_believe 85 = .ok (.if_icmp .le 6, 3) := by decide +kernel
theorem dX12_believe_88 : decode cX12_believe 88 = .ok (.iload 4, 2) := by decide +kernel
theorem dX12_believe_90 : decode cX12_believe 90 = .ok (.istore_n 3, 1) := by decide +kernel
theorem dX12_believe_91 : decode cX12_believe 91 = .ok (.iinc 4 1, 3) := by decide +kernel
theorem dX12_believe_94 : decode cX12_believe 94 = .ok (.goto (-53), 3) := by decide +kernel
theorem dX12_believe_97 : decode cX12_believe 97 = .ok (.aload_n 1, 1) := by decide +kernel
theorem dX12_believe_98 : decode cX12_believe 98 = .ok (.iload_n 3, 1) := by decide +kernel
theorem dX12_believe_99 : decode cX12_believe 99 = .ok (.iconst 1, 1) := by decide +kernel
theorem dX12_believe_100 : decode cX12_believe 100 = .ok (.bastore, 1) := by decide +kernel
theorem dX12_believe_101 : decode cX12_believe 101 = .ok (.aload_n 0, 1) := by decide +kernel
theorem dX12_believe_102 : decode cX12_believe 102 = .ok (.getfield 33, 3) := by decide +kernel
theorem dX12_believe_105 : decode cX12_believe 105 = .ok (.iload_n 3, 1) := by decide +kernel
theorem dX12_believe_106 : decode cX12_believe 106 = .ok (.iconst 1, 1) := by decide +kernel
theorem dX12_believe_107 : decode cX12_believe 107 = .ok (.bastore, 1) := by decide +kernel
theorem dX12_believe_108 : decode cX12_believe 108 = .ok (.aload_n 0, 1) := by decide +kernel
theorem dX12_believe_109 : decode cX12_believe 109 = .ok (.getfield 33, 3) := by decide +kernel
theorem dX12_believe_112 : decode cX12_believe 112 = .ok (.iload_n 3, 1) := by decide +kernel
theorem dX12_believe_113 : decode cX12_believe 113 = .ok (.aload_n 0, 1) := by decide +kernel
theorem dX12_believe_114 : decode cX12_believe 114 = .ok (.invokevirtual 140, 3) := by decide +kernel
theorem dX12_believe_117 : decode cX12_believe 117 = .ok (.bastore, 1) := by decide +kernel
theorem dX12_believe_118 : decode cX12_believe 118 = .ok (.iinc 2 1, 3) := by decide +kernel
theorem dX12_believe_121 : decode cX12_believe 121 = .ok (.goto (-93), 3) := by decide +kernel
theorem dX12_believe_124 : decode cX12_believe 124 = .ok (.aload_n 0, 1) := by decide +kernel
theorem dX12_believe_125 : decode cX12_believe 125 = .ok (.invokevirtual 140, 3) := by decide +kernel
theorem dX12_believe_128 : decode cX12_believe 128 = .ok (.pop, 1) := by decide +kernel
theorem dX12_believe_129 : decode cX12_believe 129 = .ok (.return_, 1) := by decide +kernel
theorem dX12_believed_0 : decode cX12_believed 0 = .ok (.iload_n 1, 1) := by decide +kernel
theorem dX12_believed_1 : decode cX12_believed 1 = .ok (.iconst 0, 1) := by decide +kernel
theorem dX12_believed_2 : decode cX12_believed 2 = .ok (.aload_n 0, 1) := by decide +kernel
theorem dX12_believed_3 : decode cX12_believed 3 = .ok (.getfield 135, 3) := by decide +kernel
theorem dX12_believed_6 : decode cX12_believed 6 = .ok (.iconst 1, 1) := by decide +kernel
theorem dX12_believed_7 : decode cX12_believed 7 = .ok (.isub, 1) := by decide +kernel
theorem dX12_believed_8 : decode cX12_believed 8 = .ok (.invokestatic 131, 3) := by decide +kernel
theorem dX12_believed_11 : decode cX12_believed 11 = .ok (.ifCond .ne 5, 3) := by decide +kernel
theorem dX12_believed_14 : decode cX12_believed 14 = .ok (.iconst (-1), 1) := by decide +kernel
theorem dX12_believed_15 : decode cX12_believed 15 = .ok (.ireturn, 1) := by decide +kernel
theorem dX12_believed_16 : decode cX12_believed 16 = .ok (.aload_n 0, 1) := by decide +kernel
theorem dX12_believed_17 : decode cX12_believed 17 = .ok (.invokevirtual 144, 3) := by decide +kernel
theorem dX12_believed_20 : decode cX12_believed 20 = .ok (.aload_n 0, 1) := by decide +kernel
theorem dX12_believed_21 : decode cX12_believed 21 = .ok (.getfield 33, 3) := by decide +kernel
theorem dX12_believed_24 : decode cX12_believed 24 = .ok (.iload_n 1, 1) := by decide +kernel
theorem dX12_believed_25 : decode cX12_believed 25 = .ok (.baload, 1) := by decide +kernel
theorem dX12_believed_26 : decode cX12_believed 26 = .ok (.ifCond .eq 7, 3) := by decide +kernel
theorem dX12_believed_29 : decode cX12_believed 29 = .ok (.iconst 1, 1) := by decide +kernel
theorem dX12_believed_30 : decode cX12_believed 30 = .ok (.goto 4, 3) := by decide +kernel
theorem dX12_believed_33 : decode cX12_believed 33 = .ok (.iconst 0, 1) := by decide +kernel
theorem dX12_believed_34 : decode cX12_believed 34 = .ok (.ireturn, 1) := by decide +kernel
theorem dX12_spans_0 : decode cX12_spans 0 = .ok (.iload_n 1, 1) := by decide +kernel
theorem dX12_spans_1 : decode cX12_spans 1 = .ok (.iconst 0, 1) := by decide +kernel
theorem dX12_spans_2 : decode cX12_spans 2 = .ok (.bipush 15, 2) := by decide +kernel
theorem dX12_spans_4 : decode cX12_spans 4 = .ok (.invokestatic 131, 3) := by decide +kernel
theorem dX12_spans_7 : decode cX12_spans 7 = .ok (.ifCond .eq 22, 3) := by decide +kernel
theorem dX12_spans_10 : decode cX12_spans 10 = .ok (.iload_n 2, 1) := by decide +kernel
theorem dX12_spans_11 : decode cX12_spans 11 = .ok (.iconst 0, 1) := by decide +kernel
theorem dX12_spans_12 : decode cX12_spans 12 = .ok (.bipush 15, 2) := by decide +kernel
theorem dX12_spans_14 : decode cX12_spans 14 = .ok (.invokestatic 131, 3) := by decide +kernel
theorem dX12_spans_17 : decode cX12_spans 17 = .ok (.ifCond .eq 12, 3) := by decide +kernel
theorem dX12_spans_20 : decode cX12_spans 20 = .ok (.iload_n 3, 1) := by decide +kernel
theorem dX12_spans_21 : decode cX12_spans 21 = .ok (.iconst 0, 1) := by decide +kernel
theorem dX12_spans_22 : decode cX12_spans 22 = .ok (.iconst 1, 1) := by decide +kernel
theorem dX12_spans_23 : decode cX12_spans 23 = .ok (.invokestatic 131, 3) := by decide +kernel
theorem dX12_spans_26 : decode cX12_spans 26 = .ok (.ifCond .ne 6, 3) := by decide +kernel
theorem dX12_spans_29 : decode cX12_spans 29 = .ok (.ldc 147, 2) := by decide +kernel
theorem dX12_spans_31 : decode cX12_spans 31 = .ok (.ireturn, 1) := by decide +kernel
theorem dX12_spans_32 : decode cX12_spans 32 = .ok (.aload_n 0, 1) := by decide +kernel
theorem dX12_spans_33 : decode cX12_spans 33 = .ok (.invokevirtual 144, 3) := by decide +kernel
theorem dX12_spans_36 : decode cX12_spans 36 = .ok (.iload_n 3, 1) := by decide +kernel
theorem dX12_spans_37 : decode cX12_spans 37 = .ok (.ifCond .ne 14, 3) := by decide +kernel
theorem dX12_spans_40 : decode cX12_spans 40 = .ok (.aload_n 0, 1) := by decide +kernel
theorem dX12_spans_41 : decode cX12_spans 41 = .ok (.getfield 30, 3) := by decide +kernel
theorem dX12_spans_44 : decode cX12_spans 44 = .ok (.iload_n 2, 1) := by decide +kernel
theorem dX12_spans_45 : decode cX12_spans 45 = .ok (.aaload, 1) := by decide +kernel
theorem dX12_spans_46 : decode cX12_spans 46 = .ok (.iload_n 1, 1) := by decide +kernel
theorem dX12_spans_47 : decode cX12_spans 47 = .ok (.laload, 1) := by decide +kernel
theorem dX12_spans_48 : decode cX12_spans 48 = .ok (.goto 11, 3) := by decide +kernel
theorem dX12_spans_51 : decode cX12_spans 51 = .ok (.aload_n 0, 1) := by decide +kernel
theorem dX12_spans_52 : decode cX12_spans 52 = .ok (.getfield 30, 3) := by decide +kernel
theorem dX12_spans_55 : decode cX12_spans 55 = .ok (.iload_n 1, 1) := by decide +kernel
theorem dX12_spans_56 : decode cX12_spans 56 = .ok (.aaload, 1) := by decide +kernel
theorem dX12_spans_57 : decode cX12_spans 57 = .ok (.iload_n 2, 1) := by decide +kernel
theorem dX12_spans_58 : decode cX12_spans 58 = .ok (.laload, 1) := by decide +kernel
theorem dX12_spans_59 : decode cX12_spans 59 = .ok (.lstore 4, 2) := by decide +kernel
theorem dX12_spans_61 : decode cX12_spans 61 = .ok (.lload 4, 2) := by decide +kernel
theorem dX12_spans_63 : decode cX12_spans 63 = .ok (.ldc2_w 138, 3) := by decide +kernel
theorem dX12_spans_66 : decode cX12_spans 66 = .ok (.lcmp, 1) := by decide +kernel
theorem dX12_spans_67 : decode cX12_spans 67 = .ok (.ifCond .ne 8, 3) := by decide +kernel
theorem dX12_spans_70 : decode cX12_spans 70 = .ok (.ldc 147, 2) := by decide +kernel
theorem dX12_spans_72 : decode cX12_spans 72 = .ok (.goto 16, 3) := by decide +kernel
theorem dX12_spans_75 : decode cX12_spans 75 = .ok (.iload_n 3, 1) := by decide +kernel
theorem dX12_spans_76 : decode cX12_spans 76 = .ok (.ifCond .ne 9, 3) := by decide +kernel
theorem dX12_spans_79 : decode cX12_spans 79 = .ok (.lload 4, 2) := by decide +kernel
theorem dX12_spans_81 : decode cX12_spans 81 = .ok (.lneg, 1) := by decide +kernel
theorem dX12_spans_82 : decode cX12_spans 82 = .ok (.goto 5, 3) := by decide +kernel
theorem dX12_spans_85 : decode cX12_spans 85 = .ok (.lload 4, 2) := by decide +kernel
theorem dX12_spans_87 : decode cX12_spans 87 = .ok (.l2i, 1) := by decide +kernel
theorem dX12_spans_88 : decode cX12_spans 88 = .ok (.ireturn, 1) := by decide +kernel
theorem dX12_quarrel_0 : decode cX12_quarrel 0 = .ok (.iconst 0, 1) := by decide +kernel
theorem dX12_quarrel_1 : decode cX12_quarrel 1 = .ok (.istore_n 1, 1) := by decide +kernel
theorem dX12_quarrel_2 : decode cX12_quarrel 2 = .ok (.iload_n 1, 1) := by decide +kernel
theorem dX12_quarrel_3 : decode cX12_quarrel 3 = .ok (.bipush 40, 2) := by decide +kernel
theorem dX12_quarrel_5 : decode cX12_quarrel 5 = .ok (.if_icmp .ge 28, 3) := by decide +kernel
theorem dX12_quarrel_8 : decode cX12_quarrel 8 = .ok (.aload_n 0, 1) := by decide +kernel
theorem dX12_quarrel_9 : decode cX12_quarrel 9 = .ok (.getfield 33, 3) := by decide +kernel
theorem dX12_quarrel_12 : decode cX12_quarrel 12 = .ok (.iload_n 1, 1) := by decide +kernel
theorem dX12_quarrel_13 : decode cX12_quarrel 13 = .ok (.iload_n 1, 1) := by decide +kernel
theorem dX12_quarrel_14 : decode cX12_quarrel 14 = .ok (.aload_n 0, 1) := by decide +kernel
theorem dX12_quarrel_15 : decode cX12_quarrel 15 = .ok (.getfield 135, 3) := by decide +kernel
theorem dX12_quarrel_18 : decode cX12_quarrel 18 = .ok (.if_icmp .ge 7, 3) := by decide +kernel
theorem dX12_quarrel_21 : decode cX12_quarrel 21 = .ok (.iconst 1, 1) := by decide +kernel
theorem dX12_quarrel_22 : decode cX12_quarrel 22 = .ok (.goto 4, 3) := by decide +kernel
theorem dX12_quarrel_25 : decode cX12_quarrel 25 = .ok (.iconst 0, 1) := by decide +kernel
theorem dX12_quarrel_26 : decode cX12_quarrel 26 = .ok (.bastore, 1) := by decide +kernel
theorem dX12_quarrel_27 : decode cX12_quarrel 27 = .ok (.iinc 1 1, 3) := by decide +kernel
theorem dX12_quarrel_30 : decode cX12_quarrel 30 = .ok (.goto (-28), 3) := by decide +kernel
theorem dX12_quarrel_33 : decode cX12_quarrel 33 = .ok (.aload_n 0, 1) := by decide +kernel
theorem dX12_quarrel_34 : decode cX12_quarrel 34 = .ok (.invokevirtual 140, 3) := by decide +kernel
theorem dX12_quarrel_37 : decode cX12_quarrel 37 = .ok (.ifCond .eq 5, 3) := by decide +kernel
theorem dX12_quarrel_40 : decode cX12_quarrel 40 = .ok (.iconst 0, 1) := by decide +kernel
theorem dX12_quarrel_41 : decode cX12_quarrel 41 = .ok (.ireturn, 1) := by decide +kernel
theorem dX12_quarrel_42 : decode cX12_quarrel 42 = .ok (.aload_n 0, 1) := by decide +kernel
theorem dX12_quarrel_43 : decode cX12_quarrel 43 = .ok (.getfield 135, 3) := by decide +kernel
theorem dX12_quarrel_46 : decode cX12_quarrel 46 = .ok (.istore_n 1, 1) := by decide +kernel
theorem dX12_quarrel_47 : decode cX12_quarrel 47 = .ok (.aload_n 0, 1) := by decide +kernel
theorem dX12_quarrel_48 : decode cX12_quarrel 48 = .ok (.getfield 135, 3) := by decide +kernel
theorem dX12_quarrel_51 : decode cX12_quarrel 51 = .ok (.iconst 1, 1) := by decide +kernel
theorem dX12_quarrel_52 : decode cX12_quarrel 52 = .ok (.isub, 1) := by decide +kernel
theorem dX12_quarrel_53 : decode cX12_quarrel 53 = .ok (.istore_n 2, 1) := by decide +kernel
theorem dX12_quarrel_54 : decode cX12_quarrel 54 = .ok (.iload_n 2, 1) := by decide +kernel
theorem dX12_quarrel_55 : decode cX12_quarrel 55 = .ok (.ifCond .lt 36, 3) := by decide +kernel
theorem dX12_quarrel_58 : decode cX12_quarrel 58 = .ok (.aload_n 0, 1) := by decide +kernel
theorem dX12_quarrel_59 : decode cX12_quarrel 59 = .ok (.getfield 33, 3) := by decide +kernel
theorem dX12_quarrel_62 : decode cX12_quarrel 62 = .ok (.iload_n 2, 1) := by decide +kernel
theorem dX12_quarrel_63 : decode cX12_quarrel 63 = .ok (.iconst 0, 1) := by decide +kernel
theorem dX12_quarrel_64 : decode cX12_quarrel 64 = .ok (.bastore, 1) := by decide +kernel
theorem dX12_quarrel_65 : decode cX12_quarrel 65 = .ok (.aload_n 0, 1) := by decide +kernel
theorem dX12_quarrel_66 : decode cX12_quarrel 66 = .ok (.invokevirtual 140, 3) := by decide +kernel
theorem dX12_quarrel_69 : decode cX12_quarrel 69 = .ok (.ifCond .eq 13, 3) := by decide +kernel
theorem dX12_quarrel_72 : decode cX12_quarrel 72 = .ok (.aload_n 0, 1) := by decide +kernel
theorem dX12_quarrel_73 : decode cX12_quarrel 73 = .ok (.getfield 33, 3) := by decide +kernel
theorem dX12_quarrel_76 : decode cX12_quarrel 76 = .ok (.iload_n 2, 1) := by decide +kernel
theorem dX12_quarrel_77 : decode cX12_quarrel 77 = .ok (.iconst 1, 1) := by decide +kernel
theorem dX12_quarrel_78 : decode cX12_quarrel 78 = .ok (.bastore, 1) := by decide +kernel
theorem dX12_quarrel_79 : decode cX12_quarrel 79 = .ok (.goto 6, 3) := by decide +kernel
theorem dX12_quarrel_82 : decode cX12_quarrel 82 = .ok (.iinc 1 (-1), 3) := by decide +kernel
theorem dX12_quarrel_85 : decode cX12_quarrel 85 = .ok (.iinc 2 (-1), 3) := by decide +kernel
theorem dX12_quarrel_88 : decode cX12_quarrel 88 = .ok (.goto (-34), 3) := by decide +kernel
theorem dX12_quarrel_91 : decode cX12_quarrel 91 = .ok (.iload_n 1, 1) := by decide +kernel
theorem dX12_quarrel_92 : decode cX12_quarrel 92 = .ok (.ireturn, 1) := by decide +kernel
theorem dX12_quarrels_0 : decode cX12_quarrels 0 = .ok (.aload_n 0, 1) := by decide +kernel
theorem dX12_quarrels_1 : decode cX12_quarrels 1 = .ok (.invokevirtual 148, 3) := by decide +kernel
theorem dX12_quarrels_4 : decode cX12_quarrels 4 = .ok (.istore_n 2, 1) := by decide +kernel
theorem dX12_quarrels_5 : decode cX12_quarrels 5 = .ok (.iload_n 1, 1) := by decide +kernel
theorem dX12_quarrels_6 : decode cX12_quarrels 6 = .ok (.iconst 0, 1) := by decide +kernel
theorem dX12_quarrels_7 : decode cX12_quarrels 7 = .ok (.iload_n 2, 1) := by decide +kernel
theorem dX12_quarrels_8 : decode cX12_quarrels 8 = .ok (.iconst 1, 1) := by decide +kernel
theorem dX12_quarrels_9 : decode cX12_quarrels 9 = .ok (.isub, 1) := by decide +kernel
theorem dX12_quarrels_10 : decode cX12_quarrels 10 = .ok (.invokestatic 131, 3) := by decide +kernel
theorem dX12_quarrels_13 : decode cX12_quarrels 13 = .ok (.ifCond .ne 5, 3) := by decide +kernel
theorem dX12_quarrels_16 : decode cX12_quarrels 16 = .ok (.iconst (-1), 1) := by decide +kernel
theorem dX12_quarrels_17 : decode cX12_quarrels 17 = .ok (.ireturn, 1) := by decide +kernel
theorem dX12_quarrels_18 : decode cX12_quarrels 18 = .ok (.iload_n 1, 1) := by decide +kernel
theorem dX12_quarrels_19 : decode cX12_quarrels 19 = .ok (.istore_n 3, 1) := by decide +kernel
theorem dX12_quarrels_20 : decode cX12_quarrels 20 = .ok (.iconst 0, 1) := by decide +kernel
theorem dX12_quarrels_21 : decode cX12_quarrels 21 = .ok (.istore 4, 2) := by decide +kernel
theorem dX12_quarrels_23 : decode cX12_quarrels 23 = .ok (.iload 4, 2) := by decide +kernel
theorem dX12_quarrels_25 : decode cX12_quarrels 25 = .ok (.aload_n 0, 1) := by decide +kernel
theorem dX12_quarrels_26 : decode cX12_quarrels 26 = .ok (.getfield 135, 3) := by decide +kernel
theorem dX12_quarrels_29 : decode cX12_quarrels 29 = .ok (.if_icmp .ge 29, 3) := by decide +kernel
theorem dX12_quarrels_32 : decode cX12_quarrels 32 = .ok (.aload_n 0, 1) := by decide +kernel
theorem dX12_quarrels_33 : decode cX12_quarrels 33 = .ok (.getfield 33, 3) := by decide +kernel
theorem dX12_quarrels_36 : decode cX12_quarrels 36 = .ok (.iload 4, 2) := by decide +kernel
theorem dX12_quarrels_38 : decode cX12_quarrels 38 = .ok (.baload, 1) := by decide +kernel
theorem dX12_quarrels_39 : decode cX12_quarrels 39 = .ok (.ifCond .eq 13, 3) := by decide +kernel
theorem dX12_quarrels_42 : decode cX12_quarrels 42 = .ok (.iload_n 3, 1) := by decide +kernel
theorem dX12_quarrels_43 : decode cX12_quarrels 43 = .ok (.ifCond .ne 6, 3) := by decide +kernel
theorem dX12_quarrels_46 : decode cX12_quarrels 46 = .ok (.iload 4, 2) := by decide +kernel
theorem dX12_quarrels_48 : decode cX12_quarrels 48 = .ok (.ireturn, 1) := by decide +kernel
theorem dX12_quarrels_49 : decode cX12_quarrels 49 = .ok (.iinc 3 (-1), 3) := by decide +kernel
theorem dX12_quarrels_52 : decode cX12_quarrels 52 = .ok (.iinc 4 1, 3) := by decide +kernel
theorem dX12_quarrels_55 : decode cX12_quarrels 55 = .ok (.goto (-32), 3) := by decide +kernel
theorem dX12_quarrels_58 : decode cX12_quarrels 58 = .ok (.iconst (-1), 1) := by decide +kernel
theorem dX12_quarrels_59 : decode cX12_quarrels 59 = .ok (.ireturn, 1) := by decide +kernel
theorem dX12_value_0 : decode cX12_value 0 = .ok (.aload_n 0, 1) := by decide +kernel
theorem dX12_value_1 : decode cX12_value 1 = .ok (.getfield 152, 3) := by decide +kernel
theorem dX12_value_4 : decode cX12_value 4 = .ok (.bipush 60, 2) := by decide +kernel
theorem dX12_value_6 : decode cX12_value 6 = .ok (.if_icmp .eq 45, 3) := by decide +kernel
theorem dX12_value_9 : decode cX12_value 9 = .ok (.iload_n 1, 1) := by decide +kernel
theorem dX12_value_10 : decode cX12_value 10 = .ok (.iconst 0, 1) := by decide +kernel
theorem dX12_value_11 : decode cX12_value 11 = .ok (.bipush 9, 2) := by decide +kernel
theorem dX12_value_13 : decode cX12_value 13 = .ok (.invokestatic 131, 3) := by decide +kernel
theorem dX12_value_16 : decode cX12_value 16 = .ok (.ifCond .eq 35, 3) := by decide +kernel
theorem dX12_value_19 : decode cX12_value 19 = .ok (.iload_n 2, 1) := by decide +kernel
theorem dX12_value_20 : decode cX12_value 20 = .ok (.iconst 0, 1) := by decide +kernel
theorem dX12_value_21 : decode cX12_value 21 = .ok (.ldc 155, 2) := by decide +kernel
theorem dX12_value_23 : decode cX12_value 23 = .ok (.invokestatic 131, 3) := by decide +kernel
theorem dX12_value_26 : decode cX12_value 26 = .ok (.ifCond .eq 25, 3) := by decide +kernel
theorem dX12_value_29 : decode cX12_value 29 = .ok (.iload_n 3, 1) := by decide +kernel
theorem dX12_value_30 : decode cX12_value 30 = .ok (.iconst 0, 1) := by decide +kernel
theorem dX12_value_31 : decode cX12_value 31 = .ok (.ldc 155, 2) := by decide +kernel
theorem dX12_value_33 : decode cX12_value 33 = .ok (.invokestatic 131, 3) := by decide +kernel
theorem dX12_value_36 : decode cX12_value 36 = .ok (.ifCond .eq 15, 3) := by decide +kernel
theorem dX12_value_39 : decode cX12_value 39 = .ok (.iload 4, 2) := by decide +kernel
theorem dX12_value_41 : decode cX12_value 41 = .ok (.iconst 0, 1) := by decide +kernel
theorem dX12_value_42 : decode cX12_value 42 = .ok (.sipush 5000, 3) := by decide +kernel
theorem dX12_value_45 : decode cX12_value 45 = .ok (.invokestatic 131, 3) := by decide +kernel
theorem dX12_value_48 : decode cX12_value 48 = .ok (.ifCond .ne 5, 3) := by decide +kernel
theorem dX12_value_51 : decode cX12_value 51 = .ok (.iconst (-1), 1) := by decide +kernel
theorem dX12_value_52 : decode cX12_value 52 = .ok (.ireturn, 1) := by decide +kernel
theorem dX12_value_53 : decode cX12_value 53 = .ok (.aload_n 0, 1) := by decide +kernel
theorem dX12_value_54 : decode cX12_value 54 = .ok (.getfield 37, 3) := by decide +kernel
theorem dX12_value_57 : decode cX12_value 57 = .ok (.aload_n 0, 1) := by decide +kernel
theorem dX12_value_58 : decode cX12_value 58 = .ok (.getfield 152, 3) := by decide +kernel
theorem dX12_value_61 : decode cX12_value 61 = .ok (.iload_n 1, 1) := by decide +kernel
theorem dX12_value_62 : decode cX12_value 62 = .ok (.iastore, 1) := by decide +kernel
theorem dX12_value_63 : decode cX12_value 63 = .ok (.aload_n 0, 1) := by decide +kernel
theorem dX12_value_64 : decode cX12_value 64 = .ok (.getfield 40, 3) := by decide +kernel
theorem dX12_value_67 : decode cX12_value 67 = .ok (.aload_n 0, 1) := by decide +kernel
theorem dX12_value_68 : decode cX12_value 68 = .ok (.getfield 152, 3) := by decide +kernel
theorem dX12_value_71 : decode cX12_value 71 = .ok (.iload_n 2, 1) := by decide +kernel
theorem dX12_value_72 : decode cX12_value 72 = .ok (.iastore, 1) := by decide +kernel
theorem dX12_value_73 : decode cX12_value 73 = .ok (.aload_n 0, 1) := by decide +kernel
theorem dX12_value_74 : decode cX12_value 74 = .ok (.getfield 43, 3) := by decide +kernel
theorem dX12_value_77 : decode cX12_value 77 = .ok (.aload_n 0, 1) := by decide +kernel
theorem dX12_value_78 : decode cX12_value 78 = .ok (.getfield 152, 3) := by decide +kernel
theorem dX12_value_81 : decode cX12_value 81 = .ok (.iload_n 3, 1) := by decide +kernel
theorem dX12_value_82 : decode cX12_value 82 = .ok (.iastore, 1) := by decide +kernel
theorem dX12_value_83 : decode cX12_value 83 = .ok (.aload_n 0, 1) := by decide +kernel
theorem dX12_value_84 : decode cX12_value 84 = .ok (.getfield 46, 3) := by decide +kernel
theorem dX12_value_87 : decode cX12_value 87 = .ok (.aload_n 0, 1) := by decide +kernel
theorem dX12_value_88 : decode cX12_value 88 = .ok (.getfield 152, 3) := by decide +kernel
theorem dX12_value_91 : decode cX12_value 91 = .ok (.iload 4, 2) := by decide +kernel
theorem dX12_value_93 : decode cX12_value 93 = .ok (.iastore, 1) := by decide +kernel
theorem dX12_value_94 : decode cX12_value 94 = .ok (.aload_n 0, 1) := by decide +kernel
theorem dX12_value_95 : decode cX12_value 95 = .ok (.getfield 49, 3) := by decide +kernel
theorem dX12_value_98 : decode cX12_value 98 = .ok (.aload_n 0, 1) := by decide +kernel
theorem dX12_value_99 : decode cX12_value 99 = .ok (.getfield 152, 3) := by decide +kernel
theorem dX12_value_102 : decode cX12_value 102 = .ok (.aload_n 0, 1) := by decide +kernel
theorem dX12_value_103 : decode cX12_value 103 = .ok (.getfield 128, 3) := by decide +kernel
theorem dX12_value_106 : decode cX12_value 106 = .ok (.iastore, 1) := by decide +kernel
theorem dX12_value_107 : decode cX12_value 107 = .ok (.aload_n 0, 1) := by decide +kernel
theorem dX12_value_108 : decode cX12_value 108 = .ok (.dup, 1) := by decide +kernel
theorem dX12_value_109 : decode cX12_value 109 = .ok (.getfield 152, 3) := by decide +kernel
theorem dX12_value_112 : decode cX12_value 112 = .ok (.iconst 1, 1) := by decide +kernel
theorem dX12_value_113 : decode cX12_value 113 = .ok (.iadd, 1) := by decide +kernel
theorem dX12_value_114 : decode cX12_value 114 = .ok (.putfield 152, 3) := by decide +kernel
theorem dX12_value_117 : decode cX12_value 117 = .ok (.aload_n 0, 1) := by decide +kernel
theorem dX12_value_118 : decode cX12_value 118 = .ok (.getfield 152, 3) := by decide +kernel
theorem dX12_value_121 : decode cX12_value 121 = .ok (.ireturn, 1) := by decide +kernel
theorem dX12_saved_0 : decode cX12_saved 0 = .ok (.iload_n 1, 1) := by decide +kernel
theorem dX12_saved_1 : decode cX12_saved 1 = .ok (.iconst 0, 1) := by decide +kernel
theorem dX12_saved_2 : decode cX12_saved 2 = .ok (.bipush 9, 2) := by decide +kernel
theorem dX12_saved_4 : decode cX12_saved 4 = .ok (.invokestatic 131, 3) := by decide +kernel
theorem dX12_saved_7 : decode cX12_saved 7 = .ok (.ifCond .eq 25, 3) := by decide +kernel
theorem dX12_saved_10 : decode cX12_saved 10 = .ok (.iload_n 2, 1) := by decide +kernel
theorem dX12_saved_11 : decode cX12_saved 11 = .ok (.iconst 0, 1) := by decide +kernel
theorem dX12_saved_12 : decode cX12_saved 12 = .ok (.sipush 5000, 3) := by decide +kernel
theorem dX12_saved_15 : decode cX12_saved 15 = .ok (.invokestatic 131, 3) := by decide +kernel
theorem dX12_saved_18 : decode cX12_saved 18 = .ok (.ifCond .eq 14, 3) := by decide +kernel
theorem dX12_saved_21 : decode cX12_saved 21 = .ok (.iload_n 3, 1) := by decide +kernel
theorem dX12_saved_22 : decode cX12_saved 22 = .ok (.iconst 0, 1) := by decide +kernel
theorem dX12_saved_23 : decode cX12_saved 23 = .ok (.sipush 5000, 3) := by decide +kernel
theorem dX12_saved_26 : decode cX12_saved 26 = .ok (.invokestatic 131, 3) := by decide +kernel
theorem dX12_saved_29 : decode cX12_saved 29 = .ok (.ifCond .ne 5, 3) := by decide +kernel
theorem dX12_saved_32 : decode cX12_saved 32 = .ok (.iconst (-1), 1) := by decide +kernel
theorem dX12_saved_33 : decode cX12_saved 33 = .ok (.ireturn, 1) := by decide +kernel
theorem dX12_saved_34 : decode cX12_saved 34 = .ok (.iconst (-1), 1) := by decide +kernel
theorem dX12_saved_35 : decode cX12_saved 35 = .ok (.istore 4, 2) := by decide +kernel
theorem dX12_saved_37 : decode cX12_saved 37 = .ok (.iconst 0, 1) := by decide +kernel
theorem dX12_saved_38 : decode cX12_saved 38 = .ok (.istore 5, 2) := by decide +kernel
theorem dX12_saved_40 : decode cX12_saved 40 = .ok (.iload 5, 2) := by decide +kernel
theorem dX12_saved_42 : decode cX12_saved 42 = .ok (.aload_n 0, 1) := by decide +kernel
theorem dX12_saved_43 : decode cX12_saved 43 = .ok (.getfield 152, 3) := by decide +kernel
theorem dX12_saved_46 : decode cX12_saved 46 = .ok (.if_icmp .ge 69, 3) := by decide +kernel
theorem dX12_saved_49 : decode cX12_saved 49 = .ok (.aload_n 0, 1) := by decide +kernel
theorem dX12_saved_50 : decode cX12_saved 50 = .ok (.getfield 37, 3) := by decide +kernel
theorem dX12_saved_53 : decode cX12_saved 53 = .ok (.iload 5, 2) := by decide +kernel
theorem dX12_saved_55 : decode cX12_saved 55 = .ok (.iaload, 1) := by decide +kernel
theorem dX12_saved_56 : decode cX12_saved 56 = .ok (.iload_n 1, 1) := by decide +kernel
theorem dX12_saved_57 : decode cX12_saved 57 = .ok (.if_icmp .ne 52, 3) := by decide +kernel
theorem dX12_saved_60 : decode cX12_saved 60 = .ok (.aload_n 0, 1) := by decide +kernel
theorem dX12_saved_61 : decode cX12_saved 61 = .ok (.getfield 49, 3) := by decide +kernel
theorem dX12_saved_64 : decode cX12_saved 64 = .ok (.iload 5, 2) := by decide +kernel
theorem dX12_saved_66 : decode cX12_saved 66 = .ok (.iaload, 1) := by decide +kernel
theorem dX12_saved_67 : decode cX12_saved 67 = .ok (.iload_n 2, 1) := by decide +kernel
theorem dX12_saved_68 : decode cX12_saved 68 = .ok (.if_icmp .gt 41, 3) := by decide +kernel
theorem dX12_saved_71 : decode cX12_saved 71 = .ok (.aload_n 0, 1) := by decide +kernel
theorem dX12_saved_72 : decode cX12_saved 72 = .ok (.getfield 46, 3) := by decide +kernel
theorem dX12_saved_75 : decode cX12_saved 75 = .ok (.iload 5, 2) := by decide +kernel
theorem dX12_saved_77 : decode cX12_saved 77 = .ok (.iaload, 1) := by decide +kernel
theorem dX12_saved_78 : decode cX12_saved 78 = .ok (.iload_n 3, 1) := by decide +kernel
theorem dX12_saved_79 : decode cX12_saved 79 = .ok (.if_icmp .gt 30, 3) := by decide +kernel
theorem dX12_saved_82 : decode cX12_saved 82 = .ok (.iload 4, 2) := by decide +kernel
theorem dX12_saved_84 : decode cX12_saved 84 = .ok (.iconst (-1), 1) := by decide +kernel
theorem dX12_saved_85 : decode cX12_saved 85 = .ok (.if_icmp .eq 20, 3) := by decide +kernel
theorem dX12_saved_88 : decode cX12_saved 88 = .ok (.aload_n 0, 1) := by decide +kernel
theorem dX12_saved_89 : decode cX12_saved 89 = .ok (.getfield 46, 3) := by decide +kernel
theorem dX12_saved_92 : decode cX12_saved 92 = .ok (.iload 5, 2) := by decide +kernel
theorem dX12_saved_94 : decode cX12_saved 94 = .ok (.iaload, 1) := by decide +kernel
theorem dX12_saved_95 : decode cX12_saved 95 = .ok (.aload_n 0, 1) := by decide +kernel
theorem dX12_saved_96 : decode cX12_saved 96 = .ok (.getfield 46, 3) := by decide +kernel
theorem dX12_saved_99 : decode cX12_saved 99 = .ok (.iload 4, 2) := by decide +kernel
theorem dX12_saved_101 : decode cX12_saved 101 = .ok (.iaload, 1) := by decide +kernel
theorem dX12_saved_102 : decode cX12_saved 102 = .ok (.if_icmp .lt 7, 3) := by decide +kernel
theorem dX12_saved_105 : decode cX12_saved 105 = .ok (.iload 5, 2) := by decide +kernel
theorem dX12_saved_107 : decode cX12_saved 107 = .ok (.istore 4, 2) := by decide +kernel
theorem dX12_saved_109 : decode cX12_saved 109 = .ok (.iinc 5 1, 3) := by decide +kernel
theorem dX12_saved_112 : decode cX12_saved 112 = .ok (.goto (-72), 3) := by decide +kernel
theorem dX12_saved_115 : decode cX12_saved 115 = .ok (.iload 4, 2) := by decide +kernel
theorem dX12_saved_117 : decode cX12_saved 117 = .ok (.iconst (-1), 1) := by decide +kernel
theorem dX12_saved_118 : decode cX12_saved 118 = .ok (.if_icmp .eq 20, 3) := by decide +kernel
theorem dX12_saved_121 : decode cX12_saved 121 = .ok (.aload_n 0, 1) := by decide +kernel
theorem dX12_saved_122 : decode cX12_saved 122 = .ok (.getfield 40, 3) := by decide +kernel
theorem dX12_saved_125 : decode cX12_saved 125 = .ok (.iload 4, 2) := by decide +kernel
theorem dX12_saved_127 : decode cX12_saved 127 = .ok (.iaload, 1) := by decide +kernel
theorem dX12_saved_128 : decode cX12_saved 128 = .ok (.aload_n 0, 1) := by decide +kernel
theorem dX12_saved_129 : decode cX12_saved 129 = .ok (.getfield 43, 3) := by decide +kernel
theorem dX12_saved_132 : decode cX12_saved 132 = .ok (.iload 4, 2) := by decide +kernel
theorem dX12_saved_134 : decode cX12_saved 134 = .ok (.iaload, 1) := by decide +kernel
theorem dX12_saved_135 : decode cX12_saved 135 = .ok (.if_icmp .ge 7, 3) := by decide +kernel
theorem dX12_saved_138 : decode cX12_saved 138 = .ok (.iconst 0, 1) := by decide +kernel
theorem dX12_saved_139 : decode cX12_saved 139 = .ok (.goto 18, 3) := by decide +kernel
theorem dX12_saved_142 : decode cX12_saved 142 = .ok (.aload_n 0, 1) := by decide +kernel
theorem dX12_saved_143 : decode cX12_saved 143 = .ok (.getfield 40, 3) := by decide +kernel
theorem dX12_saved_146 : decode cX12_saved 146 = .ok (.iload 4, 2) := by decide +kernel
theorem dX12_saved_148 : decode cX12_saved 148 = .ok (.iaload, 1) := by decide +kernel
theorem dX12_saved_149 : decode cX12_saved 149 = .ok (.aload_n 0, 1) := by decide +kernel
theorem dX12_saved_150 : decode cX12_saved 150 = .ok (.getfield 43, 3) := by decide +kernel
theorem dX12_saved_153 : decode cX12_saved 153 = .ok (.iload 4, 2) := by decide +kernel
theorem dX12_saved_155 : decode cX12_saved 155 = .ok (.iaload, 1) := by decide +kernel
theorem dX12_saved_156 : decode cX12_saved 156 = .ok (.isub, 1) := by decide +kernel
theorem dX12_saved_157 : decode cX12_saved 157 = .ok (.ireturn, 1) := by decide +kernel
theorem dX12_earlier_0 : decode cX12_earlier 0 = .ok (.aload_n 0, 1) := by decide +kernel
theorem dX12_earlier_1 : decode cX12_earlier 1 = .ok (.getfield 156, 3) := by decide +kernel
theorem dX12_earlier_4 : decode cX12_earlier 4 = .ok (.bipush 40, 2) := by decide +kernel
theorem dX12_earlier_6 : decode cX12_earlier 6 = .ok (.if_icmp .eq 35, 3) := by decide +kernel
theorem dX12_earlier_9 : decode cX12_earlier 9 = .ok (.iload_n 1, 1) := by decide +kernel
theorem dX12_earlier_10 : decode cX12_earlier 10 = .ok (.iconst 0, 1) := by decide +kernel
theorem dX12_earlier_11 : decode cX12_earlier 11 = .ok (.ldc 159, 2) := by decide +kernel
theorem dX12_earlier_13 : decode cX12_earlier 13 = .ok (.invokestatic 131, 3) := by decide +kernel
theorem dX12_earlier_16 : decode cX12_earlier 16 = .ok (.ifCond .eq 25, 3) := by decide +kernel
theorem dX12_earlier_19 : decode cX12_earlier 19 = .ok (.iload_n 2, 1) := by decide +kernel
theorem dX12_earlier_20 : decode cX12_earlier 20 = .ok (.iconst 0, 1) := by decide +kernel
theorem dX12_earlier_21 : decode cX12_earlier 21 = .ok (.sipush 1000, 3) := by decide +kernel
theorem dX12_earlier_24 : decode cX12_earlier 24 = .ok (.invokestatic 131, 3) := by decide +kernel
theorem dX12_earlier_27 : decode cX12_earlier 27 = .ok (.ifCond .eq 14, 3) := by decide +kernel
theorem dX12_earlier_30 : decode cX12_earlier 30 = .ok (.iload_n 3, 1) := by decide +kernel
theorem dX12_earlier_31 : decode cX12_earlier 31 = .ok (.iconst 0, 1) := by decide +kernel
theorem dX12_earlier_32 : decode cX12_earlier 32 = .ok (.sipush 5000, 3) := by decide +kernel
theorem dX12_earlier_35 : decode cX12_earlier 35 = .ok (.invokestatic 131, 3) := by decide +kernel
theorem dX12_earlier_38 : decode cX12_earlier 38 = .ok (.ifCond .ne 5, 3) := by decide +kernel
theorem dX12_earlier_41 : decode cX12_earlier 41 = .ok (.iconst (-1), 1) := by decide +kernel
theorem dX12_earlier_42 : decode cX12_earlier 42 = .ok (.ireturn, 1) := by decide +kernel
theorem dX12_earlier_43 : decode cX12_earlier 43 = .ok (.aload_n 0, 1) := by decide +kernel
theorem dX12_earlier_44 : decode cX12_earlier 44 = .ok (.getfield 52, 3) := by decide +kernel
theorem dX12_earlier_47 : decode cX12_earlier 47 = .ok (.aload_n 0, 1) := by decide +kernel
theorem dX12_earlier_48 : decode cX12_earlier 48 = .ok (.getfield 156, 3) := by decide +kernel
theorem dX12_earlier_51 : decode cX12_earlier 51 = .ok (.iload_n 1, 1) := by decide +kernel
theorem dX12_earlier_52 : decode cX12_earlier 52 = .ok (.iastore, 1) := by decide +kernel
theorem dX12_earlier_53 : decode cX12_earlier 53 = .ok (.aload_n 0, 1) := by decide +kernel
theorem dX12_earlier_54 : decode cX12_earlier 54 = .ok (.getfield 55, 3) := by decide +kernel
theorem dX12_earlier_57 : decode cX12_earlier 57 = .ok (.aload_n 0, 1) := by decide +kernel
theorem dX12_earlier_58 : decode cX12_earlier 58 = .ok (.getfield 156, 3) := by decide +kernel
theorem dX12_earlier_61 : decode cX12_earlier 61 = .ok (.iload_n 2, 1) := by decide +kernel
theorem dX12_earlier_62 : decode cX12_earlier 62 = .ok (.iastore, 1) := by decide +kernel
theorem dX12_earlier_63 : decode cX12_earlier 63 = .ok (.aload_n 0, 1) := by decide +kernel
theorem dX12_earlier_64 : decode cX12_earlier 64 = .ok (.getfield 58, 3) := by decide +kernel
theorem dX12_earlier_67 : decode cX12_earlier 67 = .ok (.aload_n 0, 1) := by decide +kernel
theorem dX12_earlier_68 : decode cX12_earlier 68 = .ok (.getfield 156, 3) := by decide +kernel
theorem dX12_earlier_71 : decode cX12_earlier 71 = .ok (.iload_n 3, 1) := by decide +kernel
theorem dX12_earlier_72 : decode cX12_earlier 72 = .ok (.iastore, 1) := by decide +kernel
theorem dX12_earlier_73 : decode cX12_earlier 73 = .ok (.aload_n 0, 1) := by decide +kernel
theorem dX12_earlier_74 : decode cX12_earlier 74 = .ok (.getfield 61, 3) := by decide +kernel
theorem dX12_earlier_77 : decode cX12_earlier 77 = .ok (.aload_n 0, 1) := by decide +kernel
theorem dX12_earlier_78 : decode cX12_earlier 78 = .ok (.getfield 156, 3) := by decide +kernel
theorem dX12_earlier_81 : decode cX12_earlier 81 = .ok (.aload_n 0, 1) := by decide +kernel
theorem dX12_earlier_82 : decode cX12_earlier 82 = .ok (.getfield 128, 3) := by decide +kernel
theorem dX12_earlier_85 : decode cX12_earlier 85 = .ok (.iastore, 1) := by decide +kernel
theorem dX12_earlier_86 : decode cX12_earlier 86 = .ok (.aload_n 0, 1) := by decide +kernel
theorem dX12_earlier_87 : decode cX12_earlier 87 = .ok (.getfield 64, 3) := by decide +kernel
theorem dX12_earlier_90 : decode cX12_earlier 90 = .ok (.aload_n 0, 1) := by decide +kernel
theorem dX12_earlier_91 : decode cX12_earlier 91 = .ok (.getfield 156, 3) := by decide +kernel
theorem dX12_earlier_94 : decode cX12_earlier 94 = .ok (.iconst (-1), 1) := by decide +kernel
theorem dX12_earlier_95 : decode cX12_earlier 95 = .ok (.iastore, 1) := by decide +kernel
theorem dX12_earlier_96 : decode cX12_earlier 96 = .ok (.aload_n 0, 1) := by decide +kernel
theorem dX12_earlier_97 : decode cX12_earlier 97 = .ok (.dup, 1) := by decide +kernel
theorem dX12_earlier_98 : decode cX12_earlier 98 = .ok (.getfield 156, 3) := by decide +kernel
theorem dX12_earlier_101 : decode cX12_earlier 101 = .ok (.iconst 1, 1) := by decide +kernel
theorem dX12_earlier_102 : decode cX12_earlier 102 = .ok (.iadd, 1) := by decide +kernel
theorem dX12_earlier_103 : decode cX12_earlier 103 = .ok (.putfield 156, 3) := by decide +kernel
theorem dX12_earlier_106 : decode cX12_earlier 106 = .ok (.aload_n 0, 1) := by decide +kernel
theorem dX12_earlier_107 : decode cX12_earlier 107 = .ok (.getfield 156, 3) := by decide +kernel
theorem dX12_earlier_110 : decode cX12_earlier 110 = .ok (.iconst 1, 1) := by decide +kernel
theorem dX12_earlier_111 : decode cX12_earlier 111 = .ok (.isub, 1) := by decide +kernel
theorem dX12_earlier_112 : decode cX12_earlier 112 = .ok (.ireturn, 1) := by decide +kernel
theorem dX12_overrule_0 : decode cX12_overrule 0 = .ok (.iload_n 1, 1) := by decide +kernel
theorem dX12_overrule_1 : decode cX12_overrule 1 = .ok (.iconst 0, 1) := by decide +kernel
theorem dX12_overrule_2 : decode cX12_overrule 2 = .ok (.aload_n 0, 1) := by decide +kernel
theorem dX12_overrule_3 : decode cX12_overrule 3 = .ok (.getfield 156, 3) := by decide +kernel
theorem dX12_overrule_6 : decode cX12_overrule 6 = .ok (.iconst 1, 1) := by decide +kernel
theorem dX12_overrule_7 : decode cX12_overrule 7 = .ok (.isub, 1) := by decide +kernel
theorem dX12_overrule_8 : decode cX12_overrule 8 = .ok (.invokestatic 131, 3) := by decide +kernel
theorem dX12_overrule_11 : decode cX12_overrule 11 = .ok (.ifCond .eq 24, 3) := by decide +kernel
theorem dX12_overrule_14 : decode cX12_overrule 14 = .ok (.iload_n 2, 1) := by decide +kernel
theorem dX12_overrule_15 : decode cX12_overrule 15 = .ok (.iconst 0, 1) := by decide +kernel
theorem dX12_overrule_16 : decode cX12_overrule 16 = .ok (.sipush 5000, 3) := by decide +kernel
theorem dX12_overrule_19 : decode cX12_overrule 19 = .ok (.invokestatic 131, 3) := by decide +kernel
theorem dX12_overrule_22 : decode cX12_overrule 22 = .ok (.ifCond .eq 13, 3) := by decide +kernel
theorem dX12_overrule_25 : decode cX12_overrule 25 = .ok (.aload_n 0, 1) := by decide +kernel
theorem dX12_overrule_26 : decode cX12_overrule 26 = .ok (.getfield 64, 3) := by decide +kernel
theorem dX12_overrule_29 : decode cX12_overrule 29 = .ok (.iload_n 1, 1) := by decide +kernel
theorem dX12_overrule_30 : decode cX12_overrule 30 = .ok (.iaload, 1) := by decide +kernel
theorem dX12_overrule_31 : decode cX12_overrule 31 = .ok (.iconst (-1), 1) := by decide +kernel
theorem dX12_overrule_32 : decode cX12_overrule 32 = .ok (.if_icmp .eq 5, 3) := by decide +kernel
theorem dX12_overrule_35 : decode cX12_overrule 35 = .ok (.iconst 0, 1) := by decide +kernel
theorem dX12_overrule_36 : decode cX12_overrule 36 = .ok (.ireturn, 1) := by decide +kernel
theorem dX12_overrule_37 : decode cX12_overrule 37 = .ok (.aload_n 0, 1) := by decide +kernel
theorem dX12_overrule_38 : decode cX12_overrule 38 = .ok (.getfield 64, 3) := by decide +kernel
theorem dX12_overrule_41 : decode cX12_overrule 41 = .ok (.iload_n 1, 1) := by decide +kernel
theorem dX12_overrule_42 : decode cX12_overrule 42 = .ok (.iload_n 2, 1) := by decide +kernel
theorem dX12_overrule_43 : decode cX12_overrule 43 = .ok (.iastore, 1) := by decide +kernel
theorem dX12_overrule_44 : decode cX12_overrule 44 = .ok (.aload_n 0, 1) := by decide +kernel
theorem dX12_overrule_45 : decode cX12_overrule 45 = .ok (.getfield 67, 3) := by decide +kernel
theorem dX12_overrule_48 : decode cX12_overrule 48 = .ok (.iload_n 1, 1) := by decide +kernel
theorem dX12_overrule_49 : decode cX12_overrule 49 = .ok (.aload_n 0, 1) := by decide +kernel
theorem dX12_overrule_50 : decode cX12_overrule 50 = .ok (.getfield 128, 3) := by decide +kernel
theorem dX12_overrule_53 : decode cX12_overrule 53 = .ok (.iastore, 1) := by decide +kernel
theorem dX12_overrule_54 : decode cX12_overrule 54 = .ok (.iconst 1, 1) := by decide +kernel
theorem dX12_overrule_55 : decode cX12_overrule 55 = .ok (.ireturn, 1) := by decide +kernel
theorem dX12_suit_0 : decode cX12_suit 0 = .ok (.iload_n 1, 1) := by decide +kernel
theorem dX12_suit_1 : decode cX12_suit 1 = .ok (.iconst 0, 1) := by decide +kernel
theorem dX12_suit_2 : decode cX12_suit 2 = .ok (.ldc 159, 2) := by decide +kernel
theorem dX12_suit_4 : decode cX12_suit 4 = .ok (.invokestatic 131, 3) := by decide +kernel
theorem dX12_suit_7 : decode cX12_suit 7 = .ok (.ifCond .eq 13, 3) := by decide +kernel
theorem dX12_suit_10 : decode cX12_suit 10 = .ok (.iload_n 2, 1) := by decide +kernel
theorem dX12_suit_11 : decode cX12_suit 11 = .ok (.iconst 0, 1) := by decide +kernel
theorem dX12_suit_12 : decode cX12_suit 12 = .ok (.bipush 99, 2) := by decide +kernel
theorem dX12_suit_14 : decode cX12_suit 14 = .ok (.invokestatic 131, 3) := by decide +kernel
theorem dX12_suit_17 : decode cX12_suit 17 = .ok (.ifCond .ne 5, 3) := by decide +kernel
theorem dX12_suit_20 : decode cX12_suit 20 = .ok (.iconst 0, 1) := by decide +kernel
theorem dX12_suit_21 : decode cX12_suit 21 = .ok (.ireturn, 1) := by decide +kernel
theorem dX12_suit_22 : decode cX12_suit 22 = .ok (.aload_n 0, 1) := by decide +kernel
theorem dX12_suit_23 : decode cX12_suit 23 = .ok (.iload_n 1, 1) := by decide +kernel
theorem dX12_suit_24 : decode cX12_suit 24 = .ok (.putfield 160, 3) := by decide +kernel
theorem dX12_suit_27 : decode cX12_suit 27 = .ok (.aload_n 0, 1) := by decide +kernel
theorem dX12_suit_28 : decode cX12_suit 28 = .ok (.iload_n 2, 1) := by decide +kernel
theorem dX12_suit_29 : decode cX12_suit 29 = .ok (.putfield 163, 3) := by decide +kernel
theorem dX12_suit_32 : decode cX12_suit 32 = .ok (.iconst 1, 1) := by decide +kernel
theorem dX12_suit_33 : decode cX12_suit 33 = .ok (.ireturn, 1) := by decide +kernel
theorem dX12_feed_0 : decode cX12_feed 0 = .ok (.aload_n 0, 1) := by decide +kernel
theorem dX12_feed_1 : decode cX12_feed 1 = .ok (.getfield 166, 3) := by decide +kernel
theorem dX12_feed_4 : decode cX12_feed 4 = .ok (.bipush 20, 2) := by decide +kernel
theorem dX12_feed_6 : decode cX12_feed 6 = .ok (.iadd, 1) := by decide +kernel
theorem dX12_feed_7 : decode cX12_feed 7 = .ok (.sipush 300, 3) := by decide +kernel
theorem dX12_feed_10 : decode cX12_feed 10 = .ok (.if_icmp .le 5, 3) := by decide +kernel
theorem dX12_feed_13 : decode cX12_feed 13 = .ok (.iconst (-1), 1) := by decide +kernel
theorem dX12_feed_14 : decode cX12_feed 14 = .ok (.ireturn, 1) := by decide +kernel
theorem dX12_feed_15 : decode cX12_feed 15 = .ok (.aload_n 0, 1) := by decide +kernel
theorem dX12_feed_16 : decode cX12_feed 16 = .ok (.iload_n 1, 1) := by decide +kernel
theorem dX12_feed_17 : decode cX12_feed 17 = .ok (.invokevirtual 169, 3) := by decide +kernel
theorem dX12_feed_20 : decode cX12_feed 20 = .ok (.aload_n 0, 1) := by decide +kernel
theorem dX12_feed_21 : decode cX12_feed 21 = .ok (.iload_n 2, 1) := by decide +kernel
theorem dX12_feed_22 : decode cX12_feed 22 = .ok (.invokevirtual 169, 3) := by decide +kernel
theorem dX12_feed_25 : decode cX12_feed 25 = .ok (.aload_n 0, 1) := by decide +kernel
theorem dX12_feed_26 : decode cX12_feed 26 = .ok (.iload_n 3, 1) := by decide +kernel
theorem dX12_feed_27 : decode cX12_feed 27 = .ok (.invokevirtual 169, 3) := by decide +kernel
theorem dX12_feed_30 : decode cX12_feed 30 = .ok (.aload_n 0, 1) := by decide +kernel
theorem dX12_feed_31 : decode cX12_feed 31 = .ok (.iload 4, 2) := by decide +kernel
theorem dX12_feed_33 : decode cX12_feed 33 = .ok (.invokevirtual 169, 3) := by decide +kernel
theorem dX12_feed_36 : decode cX12_feed 36 = .ok (.aload_n 0, 1) := by decide +kernel
theorem dX12_feed_37 : decode cX12_feed 37 = .ok (.iload 5, 2) := by decide +kernel
theorem dX12_feed_39 : decode cX12_feed 39 = .ok (.invokevirtual 169, 3) := by decide +kernel
theorem dX12_feed_42 : decode cX12_feed 42 = .ok (.aload_n 0, 1) := by decide +kernel
theorem dX12_feed_43 : decode cX12_feed 43 = .ok (.getfield 166, 3) := by decide +kernel
theorem dX12_feed_46 : decode cX12_feed 46 = .ok (.ireturn, 1) := by decide +kernel
theorem dX12_put_0 : decode cX12_put 0 = .ok (.bipush 24, 2) := by decide +kernel
theorem dX12_put_2 : decode cX12_put 2 = .ok (.istore_n 2, 1) := by decide +kernel
theorem dX12_put_3 : decode cX12_put 3 = .ok (.iload_n 2, 1) := by decide +kernel
theorem dX12_put_4 : decode cX12_put 4 = .ok (.ifCond .lt 32, 3) := by decide +kernel
theorem dX12_put_7 : decode cX12_put 7 = .ok (.aload_n 0, 1) := by decide +kernel
theorem dX12_put_8 : decode cX12_put 8 = .ok (.getfield 81, 3) := by decide +kernel
theorem dX12_put_11 : decode cX12_put 11 = .ok (.aload_n 0, 1) := by decide +kernel
theorem dX12_put_12 : decode cX12_put 12 = .ok (.getfield 166, 3) := by decide +kernel
theorem dX12_put_15 : decode cX12_put 15 = .ok (.iload_n 1, 1) := by decide +kernel
theorem dX12_put_16 : decode cX12_put 16 = .ok (.iload_n 2, 1) := by decide +kernel
theorem dX12_put_17 : decode cX12_put 17 = .ok (.ishr, 1) := by decide +kernel
theorem dX12_put_18 : decode cX12_put 18 = .ok (.i2b, 1) := by decide +kernel
theorem dX12_put_19 : decode cX12_put 19 = .ok (.bastore, 1) := by decide +kernel
theorem dX12_put_20 : decode cX12_put 20 = .ok (.aload_n 0, 1) := by decide +kernel
theorem dX12_put_21 : decode cX12_put 21 = .ok (.dup, 1) := by decide +kernel
theorem dX12_put_22 : decode cX12_put 22 = .ok (.getfield 166, 3) := by decide +kernel
theorem dX12_put_25 : decode cX12_put 25 = .ok (.iconst 1, 1) := by decide +kernel
theorem dX12_put_26 : decode cX12_put 26 = .ok (.iadd, 1) := by decide +kernel
theorem dX12_put_27 : decode cX12_put 27 = .ok (.putfield 166, 3) := by decide +kernel
theorem dX12_put_30 : decode cX12_put 30 = .ok (.iinc 2 (-8), 3) := by decide +kernel
theorem dX12_put_33 : decode cX12_put 33 = .ok (.goto (-30), 3) := by decide +kernel
theorem dX12_put_36 : decode cX12_put 36 = .ok (.return_, 1) := by decide +kernel
theorem dX12_end_0 : decode cX12_end 0 = .ok (.iload_n 1, 1) := by decide +kernel
theorem dX12_end_1 : decode cX12_end 1 = .ok (.ifCond .lt 11, 3) := by decide +kernel
theorem dX12_end_4 : decode cX12_end 4 = .ok (.iload_n 1, 1) := by decide +kernel
theorem dX12_end_5 : decode cX12_end 5 = .ok (.aload_n 0, 1) := by decide +kernel
theorem dX12_end_6 : decode cX12_end 6 = .ok (.getfield 166, 3) := by decide +kernel
theorem dX12_end_9 : decode cX12_end 9 = .ok (.if_icmp .le 5, 3) := by decide +kernel
theorem dX12_end_12 : decode cX12_end 12 = .ok (.iconst (-1), 1) := by decide +kernel
theorem dX12_end_13 : decode cX12_end 13 = .ok (.ireturn, 1) := by decide +kernel
theorem dX12_end_14 : decode cX12_end 14 = .ok (.aload_n 0, 1) := by decide +kernel
theorem dX12_end_15 : decode cX12_end 15 = .ok (.iload_n 1, 1) := by decide +kernel
theorem dX12_end_16 : decode cX12_end 16 = .ok (.putfield 166, 3) := by decide +kernel
theorem dX12_end_19 : decode cX12_end 19 = .ok (.iload_n 1, 1) := by decide +kernel
theorem dX12_end_20 : decode cX12_end 20 = .ok (.ireturn, 1) := by decide +kernel
theorem dX12_fails_0 : decode cX12_fails 0 = .ok (.aload_n 0, 1) := by decide +kernel
theorem dX12_fails_1 : decode cX12_fails 1 = .ok (.getfield 173, 3) := by decide +kernel
theorem dX12_fails_4 : decode cX12_fails 4 = .ok (.ifCond .ne 12, 3) := by decide +kernel
theorem dX12_fails_7 : decode cX12_fails 7 = .ok (.aload_n 0, 1) := by decide +kernel
theorem dX12_fails_8 : decode cX12_fails 8 = .ok (.iload_n 1, 1) := by decide +kernel
theorem dX12_fails_9 : decode cX12_fails 9 = .ok (.iconst 4, 1) := by decide +kernel
theorem dX12_fails_10 : decode cX12_fails 10 = .ok (.iload_n 2, 1) := by decide +kernel
theorem dX12_fails_11 : decode cX12_fails 11 = .ok (.imul, 1) := by decide +kernel
theorem dX12_fails_12 : decode cX12_fails 12 = .ok (.iadd, 1) := by decide +kernel
theorem dX12_fails_13 : decode cX12_fails 13 = .ok (.putfield 173, 3) := by decide +kernel
theorem dX12_fails_16 : decode cX12_fails 16 = .ok (.return_, 1) := by decide +kernel
theorem dX12_isEnd_0 : decode cX12_isEnd 0 = .ok (.aload_n 0, 1) := by decide +kernel
theorem dX12_isEnd_1 : decode cX12_isEnd 1 = .ok (.getfield 176, 3) := by decide +kernel
theorem dX12_isEnd_4 : decode cX12_isEnd 4 = .ok (.aload_n 0, 1) := by decide +kernel
theorem dX12_isEnd_5 : decode cX12_isEnd 5 = .ok (.getfield 166, 3) := by decide +kernel
theorem dX12_isEnd_8 : decode cX12_isEnd 8 = .ok (.if_icmp .ge 30, 3) := by decide +kernel
theorem dX12_isEnd_11 : decode cX12_isEnd 11 = .ok (.aload_n 0, 1) := by decide +kernel
theorem dX12_isEnd_12 : decode cX12_isEnd 12 = .ok (.getfield 81, 3) := by decide +kernel
theorem dX12_isEnd_15 : decode cX12_isEnd 15 = .ok (.aload_n 0, 1) := by decide +kernel
theorem dX12_isEnd_16 : decode cX12_isEnd 16 = .ok (.getfield 176, 3) := by decide +kernel
theorem dX12_isEnd_19 : decode cX12_isEnd 19 = .ok (.baload, 1) := by decide +kernel
theorem dX12_isEnd_20 : decode cX12_isEnd 20 = .ok (.bipush 32, 2) := by decide +kernel
theorem dX12_isEnd_22 : decode cX12_isEnd 22 = .ok (.if_icmp .ne 16, 3) := by decide +kernel
theorem dX12_isEnd_25 : decode cX12_isEnd 25 = .ok (.aload_n 0, 1) := by decide +kernel
theorem dX12_isEnd_26 : decode cX12_isEnd 26 = .ok (.dup, 1) := by decide +kernel
theorem dX12_isEnd_27 : decode cX12_isEnd 27 = .ok (.getfield 176, 3) := by decide +kernel
theorem dX12_isEnd_30 : decode cX12_isEnd 30 = .ok (.iconst 1, 1) := by decide +kernel
theorem dX12_isEnd_31 : decode cX12_isEnd 31 = .ok (.iadd, 1) := by decide +kernel
theorem dX12_isEnd_32 : decode cX12_isEnd 32 = .ok (.putfield 176, 3) := by decide +kernel
theorem dX12_isEnd_35 : decode cX12_isEnd 35 = .ok (.goto (-35), 3) := by decide +kernel
theorem dX12_isEnd_38 : decode cX12_isEnd 38 = .ok (.aload_n 0, 1) := by decide +kernel
theorem dX12_isEnd_39 : decode cX12_isEnd 39 = .ok (.aload_n 0, 1) := by decide +kernel
theorem dX12_isEnd_40 : decode cX12_isEnd 40 = .ok (.getfield 176, 3) := by decide +kernel
theorem dX12_isEnd_43 : decode cX12_isEnd 43 = .ok (.putfield 179, 3) := by decide +kernel
theorem dX12_isEnd_46 : decode cX12_isEnd 46 = .ok (.aload_n 0, 1) := by decide +kernel
theorem dX12_isEnd_47 : decode cX12_isEnd 47 = .ok (.getfield 176, 3) := by decide +kernel
theorem dX12_isEnd_50 : decode cX12_isEnd 50 = .ok (.aload_n 0, 1) := by decide +kernel
theorem dX12_isEnd_51 : decode cX12_isEnd 51 = .ok (.getfield 166, 3) := by decide +kernel
theorem dX12_isEnd_54 : decode cX12_isEnd 54 = .ok (.if_icmp .ne 7, 3) := by decide +kernel
theorem dX12_isEnd_57 : decode cX12_isEnd 57 = .ok (.iconst 1, 1) := by decide +kernel
theorem dX12_isEnd_58 : decode cX12_isEnd 58 = .ok (.goto 4, 3) := by decide +kernel
theorem dX12_isEnd_61 : decode cX12_isEnd 61 = .ok (.iconst 0, 1) := by decide +kernel
theorem dX12_isEnd_62 : decode cX12_isEnd 62 = .ok (.ireturn, 1) := by decide +kernel
theorem dX12_word_0 : decode cX12_word 0 = .ok (.aload_n 0, 1) := by decide +kernel
theorem dX12_word_1 : decode cX12_word 1 = .ok (.invokevirtual 182, 3) := by decide +kernel
theorem dX12_word_4 : decode cX12_word 4 = .ok (.pop, 1) := by decide +kernel
theorem dX12_word_5 : decode cX12_word 5 = .ok (.aload_n 0, 1) := by decide +kernel
theorem dX12_word_6 : decode cX12_word 6 = .ok (.getfield 176, 3) := by decide +kernel
theorem dX12_word_9 : decode cX12_word 9 = .ok (.aload_n 0, 1) := by decide +kernel
theorem dX12_word_10 : decode cX12_word 10 = .ok (.getfield 166, 3) := by decide +kernel
theorem dX12_word_13 : decode cX12_word 13 = .ok (.if_icmp .ge 44, 3) := by decide +kernel
theorem dX12_word_16 : decode cX12_word 16 = .ok (.aload_n 0, 1) := by decide +kernel
theorem dX12_word_17 : decode cX12_word 17 = .ok (.getfield 81, 3) := by decide +kernel
theorem dX12_word_20 : decode cX12_word 20 = .ok (.aload_n 0, 1) := by decide +kernel
theorem dX12_word_21 : decode cX12_word 21 = .ok (.getfield 176, 3) := by decide +kernel
theorem dX12_word_24 : decode cX12_word 24 = .ok (.baload, 1) := by decide +kernel
theorem dX12_word_25 : decode cX12_word 25 = .ok (.bipush 97, 2) := by decide +kernel
theorem dX12_word_27 : decode cX12_word 27 = .ok (.if_icmp .lt 30, 3) := by decide +kernel
theorem dX12_word_30 : decode cX12_word 30 = .ok (.aload_n 0, 1) := by decide +kernel
theorem dX12_word_31 : decode cX12_word 31 = .ok (.getfield 81, 3) := by decide +kernel
theorem dX12_word_34 : decode cX12_word 34 = .ok (.aload_n 0, 1) := by decide +kernel
theorem dX12_word_35 : decode cX12_word 35 = .ok (.getfield 176, 3) := by decide +kernel
theorem dX12_word_38 : decode cX12_word 38 = .ok (.baload, 1) := by decide +kernel
theorem dX12_word_39 : decode cX12_word 39 = .ok (.bipush 122, 2) := by decide +kernel
theorem dX12_word_41 : decode cX12_word 41 = .ok (.if_icmp .gt 16, 3) := by decide +kernel
theorem dX12_word_44 : decode cX12_word 44 = .ok (.aload_n 0, 1) := by decide +kernel
theorem dX12_word_45 : decode cX12_word 45 = .ok (.dup, 1) := by decide +kernel
theorem dX12_word_46 : decode cX12_word 46 = .ok (.getfield 176, 3) := by decide +kernel
theorem dX12_word_49 : decode cX12_word 49 = .ok (.iconst 1, 1) := by decide +kernel
theorem dX12_word_50 : decode cX12_word 50 = .ok (.iadd, 1) := by decide +kernel
theorem dX12_word_51 : decode cX12_word 51 = .ok (.putfield 176, 3) := by decide +kernel
theorem dX12_word_54 : decode cX12_word 54 = .ok (.goto (-49), 3) := by decide +kernel
theorem dX12_word_57 : decode cX12_word 57 = .ok (.aload_n 0, 1) := by decide +kernel
theorem dX12_word_58 : decode cX12_word 58 = .ok (.getfield 176, 3) := by decide +kernel
theorem dX12_word_61 : decode cX12_word 61 = .ok (.aload_n 0, 1) := by decide +kernel
theorem dX12_word_62 : decode cX12_word 62 = .ok (.getfield 179, 3) := by decide +kernel
theorem dX12_word_65 : decode cX12_word 65 = .ok (.if_icmp .ne 12, 3) := by decide +kernel
theorem dX12_word_68 : decode cX12_word 68 = .ok (.aload_n 0, 1) := by decide +kernel
theorem dX12_word_69 : decode cX12_word 69 = .ok (.iconst 1, 1) := by decide +kernel
theorem dX12_word_70 : decode cX12_word 70 = .ok (.aload_n 0, 1) := by decide +kernel
theorem dX12_word_71 : decode cX12_word 71 = .ok (.getfield 179, 3) := by decide +kernel
theorem dX12_word_74 : decode cX12_word 74 = .ok (.invokevirtual 185, 3) := by decide +kernel
theorem dX12_word_77 : decode cX12_word 77 = .ok (.return_, 1) := by decide +kernel
theorem dX12_is_0 : decode cX12_is 0 = .ok (.aload_n 0, 1) := by decide +kernel
theorem dX12_is_1 : decode cX12_is 1 = .ok (.getfield 176, 3) := by decide +kernel
theorem dX12_is_4 : decode cX12_is 4 = .ok (.aload_n 0, 1) := by decide +kernel
theorem dX12_is_5 : decode cX12_is 5 = .ok (.getfield 179, 3) := by decide +kernel
theorem dX12_is_8 : decode cX12_is 8 = .ok (.isub, 1) := by decide +kernel
theorem dX12_is_9 : decode cX12_is 9 = .ok (.aload_n 1, 1) := by decide +kernel
theorem dX12_is_10 : decode cX12_is 10 = .ok (.invokevirtual 189, 3) := by decide +kernel
theorem dX12_is_13 : decode cX12_is 13 = .ok (.if_icmp .ne 7, 3) := by decide +kernel
theorem dX12_is_16 : decode cX12_is 16 = .ok (.iconst 1, 1) := by decide +kernel
theorem dX12_is_17 : decode cX12_is 17 = .ok (.goto 4, 3) := by decide +kernel
theorem dX12_is_20 : decode cX12_is 20 = .ok (.iconst 0, 1) := by decide +kernel
theorem dX12_is_21 : decode cX12_is 21 = .ok (.istore_n 2, 1) := by decide +kernel
theorem dX12_is_22 : decode cX12_is 22 = .ok (.iconst 0, 1) := by decide +kernel
theorem dX12_is_23 : decode cX12_is 23 = .ok (.istore_n 3, 1) := by decide +kernel
theorem dX12_is_24 : decode cX12_is 24 = .ok (.iload_n 3, 1) := by decide +kernel
theorem dX12_is_25 : decode cX12_is 25 = .ok (.aload_n 1, 1) := by decide +kernel
theorem dX12_is_26 : decode cX12_is 26 = .ok (.invokevirtual 189, 3) := by decide +kernel
theorem dX12_is_29 : decode cX12_is 29 = .ok (.if_icmp .ge 38, 3) := by decide +kernel
theorem dX12_is_32 : decode cX12_is 32 = .ok (.iload_n 2, 1) := by decide +kernel
theorem dX12_is_33 : decode cX12_is 33 = .ok (.ifCond .eq 34, 3) := by decide +kernel
theorem dX12_is_36 : decode cX12_is 36 = .ok (.aload_n 0, 1) := by decide +kernel
theorem dX12_is_37 : decode cX12_is 37 = .ok (.getfield 81, 3) := by decide +kernel
theorem dX12_is_40 : decode cX12_is 40 = .ok (.aload_n 0, 1) := by decide +kernel
theorem dX12_is_41 : decode cX12_is 41 = .ok (.getfield 179, 3) := by decide +kernel
theorem dX12_is_44 : decode cX12_is 44 = .ok (.iload_n 3, 1) := by decide +kernel
theorem dX12_is_45 : decode cX12_is 45 = .ok (.iadd, 1) := by decide +kernel
theorem dX12_is_46 : decode cX12_is 46 = .ok (.baload, 1) := by decide +kernel
theorem dX12_is_47 : decode cX12_is 47 = .ok (.aload_n 1, 1) := by decide +kernel
theorem dX12_is_48 : decode cX12_is 48 = .ok (.iload_n 3, 1) := by decide +kernel
theorem dX12_is_49 : decode cX12_is 49 = .ok (.invokevirtual 194, 3) := by decide +kernel
theorem dX12_is_52 : decode cX12_is 52 = .ok (.if_icmp .ne 7, 3) := by decide +kernel
theorem dX12_is_55 : decode cX12_is 55 = .ok (.iconst 1, 1) := by decide +kernel
theorem dX12_is_56 : decode cX12_is 56 = .ok (.goto 4, 3) := by decide +kernel
theorem dX12_is_59 : decode cX12_is 59 = .ok (.iconst 0, 1) := by decide +kernel
theorem dX12_is_60 : decode cX12_is 60 = .ok (.istore_n 2, 1) := by decide +kernel
theorem dX12_is_61 : decode cX12_is 61 = .ok (.iinc 3 1, 3) := by decide +kernel
theorem dX12_is_64 : decode cX12_is 64 = .ok (.goto (-40), 3) := by decide +kernel
theorem dX12_is_67 : decode cX12_is 67 = .ok (.iload_n 2, 1) := by decide +kernel
theorem dX12_is_68 : decode cX12_is 68 = .ok (.ireturn, 1) := by decide +kernel
theorem dX12_number_0 : decode cX12_number 0 = .ok (.aload_n 0, 1) := by decide +kernel
theorem dX12_number_1 : decode cX12_number 1 = .ok (.getfield 173, 3) := by decide +kernel
theorem dX12_number_4 : decode cX12_number 4 = .ok (.ifCond .le 5, 3) := by decide +kernel
theorem dX12_number_7 : decode cX12_number 7 = .ok (.iconst 0, 1) := by decide +kernel
theorem dX12_number_8 : decode cX12_number 8 = .ok (.ireturn, 1) := by decide +kernel
theorem dX12_number_9 : decode cX12_number 9 = .ok (.aload_n 0, 1) := by decide +kernel
theorem dX12_number_10 : decode cX12_number 10 = .ok (.invokevirtual 182, 3) := by decide +kernel
theorem dX12_number_13 : decode cX12_number 13 = .ok (.pop, 1) := by decide +kernel
theorem dX12_number_14 : decode cX12_number 14 = .ok (.iconst 0, 1) := by decide +kernel
theorem dX12_number_15 : decode cX12_number 15 = .ok (.istore_n 3, 1) := by decide +kernel
theorem dX12_number_16 : decode cX12_number 16 = .ok (.aload_n 0, 1) := by decide +kernel
theorem dX12_number_17 : decode cX12_number 17 = .ok (.getfield 176, 3) := by decide +kernel
theorem dX12_number_20 : decode cX12_number 20 = .ok (.aload_n 0, 1) := by decide +kernel
theorem dX12_number_21 : decode cX12_number 21 = .ok (.getfield 166, 3) := by decide +kernel
theorem dX12_number_24 : decode cX12_number 24 = .ok (.if_icmp .ge 80, 3) := by decide +kernel
theorem dX12_number_27 : decode cX12_number 27 = .ok (.aload_n 0, 1) := by decide +kernel
theorem dX12_number_28 : decode cX12_number 28 = .ok (.getfield 81, 3) := by decide +kernel
theorem dX12_number_31 : decode cX12_number 31 = .ok (.aload_n 0, 1) := by decide +kernel
theorem dX12_number_32 : decode cX12_number 32 = .ok (.getfield 176, 3) := by decide +kernel
theorem dX12_number_35 : decode cX12_number 35 = .ok (.baload, 1) := by decide +kernel
theorem dX12_number_36 : decode cX12_number 36 = .ok (.bipush 48, 2) := by decide +kernel
theorem dX12_number_38 : decode cX12_number 38 = .ok (.if_icmp .lt 66, 3) := by decide +kernel
theorem dX12_number_41 : decode cX12_number 41 = .ok (.aload_n 0, 1) := by decide +kernel
theorem dX12_number_42 : decode cX12_number 42 = .ok (.getfield 81, 3) := by decide +kernel
theorem dX12_number_45 : decode cX12_number 45 = .ok (.aload_n 0, 1) := by decide +kernel
theorem dX12_number_46 : decode cX12_number 46 = .ok (.getfield 176, 3) := by decide +kernel
theorem dX12_number_49 : decode cX12_number 49 = .ok (.baload, 1) := by decide +kernel
theorem dX12_number_50 : decode cX12_number 50 = .ok (.bipush 57, 2) := by decide +kernel
theorem dX12_number_52 : decode cX12_number 52 = .ok (.if_icmp .gt 52, 3) := by decide +kernel
theorem dX12_number_55 : decode cX12_number 55 = .ok (.aload_n 0, 1) := by decide +kernel
theorem dX12_number_56 : decode cX12_number 56 = .ok (.getfield 176, 3) := by decide +kernel
theorem dX12_number_59 : decode cX12_number 59 = .ok (.aload_n 0, 1) := by decide +kernel
theorem dX12_number_60 : decode cX12_number 60 = .ok (.getfield 179, 3) := by decide +kernel
theorem dX12_number_63 : decode cX12_number 63 = .ok (.isub, 1) := by decide +kernel
theorem dX12_number_64 : decode cX12_number 64 = .ok (.iconst 4, 1) := by decide +kernel
theorem dX12_number_65 : decode cX12_number 65 = .ok (.if_icmp .ge 23, 3) := by decide +kernel
theorem dX12_number_68 : decode cX12_number 68 = .ok (.bipush 10, 2) := by decide +kernel
theorem dX12_number_70 : decode cX12_number 70 = .ok (.iload_n 3, 1) := by decide +kernel
theorem dX12_number_71 : decode cX12_number 71 = .ok (.imul, 1) := by decide +kernel
theorem dX12_number_72 : decode cX12_number 72 = .ok (.aload_n 0, 1) := by decide +kernel
theorem dX12_number_73 : decode cX12_number 73 = .ok (.getfield 81, 3) := by decide +kernel
theorem dX12_number_76 : decode cX12_number 76 = .ok (.aload_n 0, 1) := by decide +kernel
theorem dX12_number_77 : decode cX12_number 77 = .ok (.getfield 176, 3) := by decide +kernel
theorem dX12_number_80 : decode cX12_number 80 = .ok (.baload, 1) := by decide +kernel
theorem dX12_number_81 : decode cX12_number 81 = .ok (.iadd, 1) := by decide +kernel
theorem dX12_number_82 : decode cX12_number 82 = .ok (.bipush 48, 2) := by decide +kernel
theorem dX12_number_84 : decode cX12_number 84 = .ok (.isub, 1) := by decide +kernel
theorem dX12_number_85 : decode cX12_number 85 = .ok (.goto 5, 3) := by decide +kernel
theorem dX12_number_88 : decode cX12_number 88 = .ok (.ldc 155, 2) := by decide +kernel
theorem dX12_number_90 : decode cX12_number 90 = .ok (.istore_n 3, 1) := by decide +kernel
theorem dX12_number_91 : decode cX12_number 91 = .ok (.aload_n 0, 1) := by decide +kernel
theorem dX12_number_92 : decode cX12_number 92 = .ok (.dup, 1) := by decide +kernel
theorem dX12_number_93 : decode cX12_number 93 = .ok (.getfield 176, 3) := by decide +kernel
theorem dX12_number_96 : decode cX12_number 96 = .ok (.iconst 1, 1) := by decide +kernel
theorem dX12_number_97 : decode cX12_number 97 = .ok (.iadd, 1) := by decide +kernel
theorem dX12_number_98 : decode cX12_number 98 = .ok (.putfield 176, 3) := by decide +kernel
theorem dX12_number_101 : decode cX12_number 101 = .ok (.goto (-85), 3) := by decide +kernel
theorem dX12_number_104 : decode cX12_number 104 = .ok (.aload_n 0, 1) := by decide +kernel
theorem dX12_number_105 : decode cX12_number 105 = .ok (.getfield 176, 3) := by decide +kernel
theorem dX12_number_108 : decode cX12_number 108 = .ok (.aload_n 0, 1) := by decide +kernel
theorem dX12_number_109 : decode cX12_number 109 = .ok (.getfield 179, 3) := by decide +kernel
theorem dX12_number_112 : decode cX12_number 112 = .ok (.if_icmp .ne 15, 3) := by decide +kernel
theorem dX12_number_115 : decode cX12_number 115 = .ok (.aload_n 0, 1) := by decide +kernel
theorem dX12_number_116 : decode cX12_number 116 = .ok (.iconst 1, 1) := by decide +kernel
theorem dX12_number_117 : decode cX12_number 117 = .ok (.aload_n 0, 1) := by decide +kernel
theorem dX12_number_118 : decode cX12_number 118 = .ok (.getfield 179, 3) := by decide +kernel
theorem dX12_number_121 : decode cX12_number 121 = .ok (.invokevirtual 185, 3) := by decide +kernel
theorem dX12_number_124 : decode cX12_number 124 = .ok (.goto 21, 3) := by decide +kernel
theorem dX12_number_127 : decode cX12_number 127 = .ok (.iload_n 3, 1) := by decide +kernel
theorem dX12_number_128 : decode cX12_number 128 = .ok (.iload_n 1, 1) := by decide +kernel
theorem dX12_number_129 : decode cX12_number 129 = .ok (.iload_n 2, 1) := by decide +kernel
theorem dX12_number_130 : decode cX12_number 130 = .ok (.invokestatic 131, 3) := by decide +kernel
theorem dX12_number_133 : decode cX12_number 133 = .ok (.ifCond .ne 12, 3) := by decide +kernel
theorem dX12_number_136 : decode cX12_number 136 = .ok (.aload_n 0, 1) := by decide +kernel
theorem dX12_number_137 : decode cX12_number 137 = .ok (.iconst 2, 1) := by decide +kernel
theorem dX12_number_138 : decode cX12_number 138 = .ok (.aload_n 0, 1) := by decide +kernel
theorem dX12_number_139 : decode cX12_number 139 = .ok (.getfield 179, 3) := by decide +kernel
theorem dX12_number_142 : decode cX12_number 142 = .ok (.invokevirtual 185, 3) := by decide +kernel
theorem dX12_number_145 : decode cX12_number 145 = .ok (.iload_n 3, 1) := by decide +kernel
theorem dX12_number_146 : decode cX12_number 146 = .ok (.ireturn, 1) := by decide +kernel
theorem dX12_markOf_0 : decode cX12_markOf 0 = .ok (.iload_n 1, 1) := by decide +kernel
theorem dX12_markOf_1 : decode cX12_markOf 1 = .ok (.ifCond .ne 8, 3) := by decide +kernel
theorem dX12_markOf_4 : decode cX12_markOf 4 = .ok (.ldc 198, 2) := by decide +kernel
theorem dX12_markOf_6 : decode cX12_markOf 6 = .ok (.goto 35, 3) := by decide +kernel
theorem dX12_markOf_9 : decode cX12_markOf 9 = .ok (.iload_n 1, 1) := by decide +kernel
theorem dX12_markOf_10 : decode cX12_markOf 10 = .ok (.iconst 1, 1) := by decide +kernel
theorem dX12_markOf_11 : decode cX12_markOf 11 = .ok (.if_icmp .ne 8, 3) := by decide +kernel
theorem dX12_markOf_14 : decode cX12_markOf 14 = .ok (.ldc 200, 2) := by decide +kernel
theorem dX12_markOf_16 : decode cX12_markOf 16 = .ok (.goto 25, 3) := by decide +kernel
theorem dX12_markOf_19 : decode cX12_markOf 19 = .ok (.iload_n 1, 1) := by decide +kernel
theorem dX12_markOf_20 : decode cX12_markOf 20 = .ok (.iconst 2, 1) := by decide +kernel
theorem dX12_markOf_21 : decode cX12_markOf 21 = .ok (.if_icmp .ne 8, 3) := by decide +kernel
theorem dX12_markOf_24 : decode cX12_markOf 24 = .ok (.ldc 202, 2) := by decide +kernel
theorem dX12_markOf_26 : decode cX12_markOf 26 = .ok (.goto 15, 3) := by decide +kernel
theorem dX12_markOf_29 : decode cX12_markOf 29 = .ok (.iload_n 1, 1) := by decide +kernel
theorem dX12_markOf_30 : decode cX12_markOf 30 = .ok (.iconst 3, 1) := by decide +kernel
theorem dX12_markOf_31 : decode cX12_markOf 31 = .ok (.if_icmp .ne 8, 3) := by decide +kernel
theorem dX12_markOf_34 : decode cX12_markOf 34 = .ok (.ldc 204, 2) := by decide +kernel
theorem dX12_markOf_36 : decode cX12_markOf 36 = .ok (.goto 5, 3) := by decide +kernel
theorem dX12_markOf_39 : decode cX12_markOf 39 = .ok (.ldc 206, 2) := by decide +kernel
theorem dX12_markOf_41 : decode cX12_markOf 41 = .ok (.areturn, 1) := by decide +kernel
theorem dX12_clauseOf_0 : decode cX12_clauseOf 0 = .ok (.iload_n 1, 1) := by decide +kernel
theorem dX12_clauseOf_1 : decode cX12_clauseOf 1 = .ok (.tableswitch 43 5 8 #[31, 34, 37, 40], 31) := by decide +kernel
theorem dX12_clauseOf_32 : decode cX12_clauseOf 32 = .ok (.ldc 208, 2) := by decide +kernel
theorem dX12_clauseOf_34 : decode cX12_clauseOf 34 = .ok (.areturn, 1) := by decide +kernel
theorem dX12_clauseOf_35 : decode cX12_clauseOf 35 = .ok (.ldc 209, 2) := by decide +kernel
theorem dX12_clauseOf_37 : decode cX12_clauseOf 37 = .ok (.areturn, 1) := by decide +kernel
theorem dX12_clauseOf_38 : decode cX12_clauseOf 38 = .ok (.ldc 211, 2) := by decide +kernel
theorem dX12_clauseOf_40 : decode cX12_clauseOf 40 = .ok (.areturn, 1) := by decide +kernel
theorem dX12_clauseOf_41 : decode cX12_clauseOf 41 = .ok (.ldc 213, 2) := by decide +kernel
theorem dX12_clauseOf_43 : decode cX12_clauseOf 43 = .ok (.areturn, 1) := by decide +kernel
theorem dX12_clauseOf_44 : decode cX12_clauseOf 44 = .ok (.ldc 215, 2) := by decide +kernel
theorem dX12_clauseOf_46 : decode cX12_clauseOf 46 = .ok (.areturn, 1) := by decide +kernel
theorem dX12_gives_0 : decode cX12_gives 0 = .ok (.aload_n 0, 1) := by decide +kernel
theorem dX12_gives_1 : decode cX12_gives 1 = .ok (.ldc 217, 2) := by decide +kernel
theorem dX12_gives_3 : decode cX12_gives 3 = .ok (.invokevirtual 219, 3) := by decide +kernel
theorem dX12_gives_6 : decode cX12_gives 6 = .ok (.ifCond .eq 7, 3) := by decide +kernel
theorem dX12_gives_9 : decode cX12_gives 9 = .ok (.iconst 0, 1) := by decide +kernel
theorem dX12_gives_10 : decode cX12_gives 10 = .ok (.goto 43, 3) := by decide +kernel
theorem dX12_gives_13 : decode cX12_gives 13 = .ok (.aload_n 0, 1) := by decide +kernel
theorem dX12_gives_14 : decode cX12_gives 14 = .ok (.ldc 223, 2) := by decide +kernel
theorem dX12_gives_16 : decode cX12_gives 16 = .ok (.invokevirtual 219, 3) := by decide +kernel
theorem dX12_gives_19 : decode cX12_gives 19 = .ok (.ifCond .eq 7, 3) := by decide +kernel
theorem dX12_gives_22 : decode cX12_gives 22 = .ok (.iconst 1, 1) := by decide +kernel
theorem dX12_gives_23 : decode cX12_gives 23 = .ok (.goto 30, 3) := by decide +kernel
theorem dX12_gives_26 : decode cX12_gives 26 = .ok (.aload_n 0, 1) := by decide +kernel
theorem dX12_gives_27 : decode cX12_gives 27 = .ok (.ldc 225, 2) := by decide +kernel
theorem dX12_gives_29 : decode cX12_gives 29 = .ok (.invokevirtual 219, 3) := by decide +kernel
theorem dX12_gives_32 : decode cX12_gives 32 = .ok (.ifCond .eq 7, 3) := by decide +kernel
theorem dX12_gives_35 : decode cX12_gives 35 = .ok (.iconst 2, 1) := by decide +kernel
theorem dX12_gives_36 : decode cX12_gives 36 = .ok (.goto 17, 3) := by decide +kernel
theorem dX12_gives_39 : decode cX12_gives 39 = .ok (.aload_n 0, 1) := by decide +kernel
theorem dX12_gives_40 : decode cX12_gives 40 = .ok (.ldc 227, 2) := by decide +kernel
theorem dX12_gives_42 : decode cX12_gives 42 = .ok (.invokevirtual 219, 3) := by decide +kernel
theorem dX12_gives_45 : decode cX12_gives 45 = .ok (.ifCond .eq 7, 3) := by decide +kernel
theorem dX12_gives_48 : decode cX12_gives 48 = .ok (.iconst 3, 1) := by decide +kernel
theorem dX12_gives_49 : decode cX12_gives 49 = .ok (.goto 4, 3) := by decide +kernel
theorem dX12_gives_52 : decode cX12_gives 52 = .ok (.iconst (-1), 1) := by decide +kernel
theorem dX12_gives_53 : decode cX12_gives 53 = .ok (.ireturn, 1) := by decide +kernel
theorem dX12_clause_0 : decode cX12_clause 0 = .ok (.aload_n 0, 1) := by decide +kernel
theorem dX12_clause_1 : decode cX12_clause 1 = .ok (.invokevirtual 229, 3) := by decide +kernel
theorem dX12_clause_4 : decode cX12_clause 4 = .ok (.aload_n 0, 1) := by decide +kernel
theorem dX12_clause_5 : decode cX12_clause 5 = .ok (.getfield 173, 3) := by decide +kernel
theorem dX12_clause_8 : decode cX12_clause 8 = .ok (.ifCond .le 4, 3) := by decide +kernel
theorem dX12_clause_11 : decode cX12_clause 11 = .ok (.return_, 1) := by decide +kernel
theorem dX12_clause_12 : decode cX12_clause 12 = .ok (.aload_n 0, 1) := by decide +kernel
theorem dX12_clause_13 : decode cX12_clause 13 = .ok (.ldc 232, 2) := by decide +kernel
theorem dX12_clause_15 : decode cX12_clause 15 = .ok (.invokevirtual 219, 3) := by decide +kernel
theorem dX12_clause_18 : decode cX12_clause 18 = .ok (.ifCond .eq 86, 3) := by decide +kernel
theorem dX12_clause_21 : decode cX12_clause 21 = .ok (.aload_n 0, 1) := by decide +kernel
theorem dX12_clause_22 : decode cX12_clause 22 = .ok (.invokevirtual 229, 3) := by decide +kernel
theorem dX12_clause_25 : decode cX12_clause 25 = .ok (.iconst 0, 1) := by decide +kernel
theorem dX12_clause_26 : decode cX12_clause 26 = .ok (.istore_n 3, 1) := by decide +kernel
theorem dX12_clause_27 : decode cX12_clause 27 = .ok (.iload_n 3, 1) := by decide +kernel
theorem dX12_clause_28 : decode cX12_clause 28 = .ok (.iconst 5, 1) := by decide +kernel
theorem dX12_clause_29 : decode cX12_clause 29 = .ok (.if_icmp .ge 21, 3) := by decide +kernel
theorem dX12_clause_32 : decode cX12_clause 32 = .ok (.aload_n 0, 1) := by decide +kernel
theorem dX12_clause_33 : decode cX12_clause 33 = .ok (.aload_n 0, 1) := by decide +kernel
theorem dX12_clause_34 : decode cX12_clause 34 = .ok (.iload_n 3, 1) := by decide +kernel
theorem dX12_clause_35 : decode cX12_clause 35 = .ok (.invokevirtual 234, 3) := by decide +kernel
theorem dX12_clause_38 : decode cX12_clause 38 = .ok (.invokevirtual 219, 3) := by decide +kernel
theorem dX12_clause_41 : decode cX12_clause 41 = .ok (.ifCond .ne 9, 3) := by decide +kernel
theorem dX12_clause_44 : decode cX12_clause 44 = .ok (.iinc 3 1, 3) := by decide +kernel
theorem dX12_clause_47 : decode cX12_clause 47 = .ok (.goto (-20), 3) := by decide +kernel
theorem dX12_clause_50 : decode cX12_clause 50 = .ok (.iload_n 3, 1) := by decide +kernel
theorem dX12_clause_51 : decode cX12_clause 51 = .ok (.iconst 5, 1) := by decide +kernel
theorem dX12_clause_52 : decode cX12_clause 52 = .ok (.if_icmp .ne 15, 3) := by decide +kernel
theorem dX12_clause_55 : decode cX12_clause 55 = .ok (.aload_n 0, 1) := by decide +kernel
theorem dX12_clause_56 : decode cX12_clause 56 = .ok (.iconst 1, 1) := by decide +kernel
theorem dX12_clause_57 : decode cX12_clause 57 = .ok (.aload_n 0, 1) := by decide +kernel
theorem dX12_clause_58 : decode cX12_clause 58 = .ok (.getfield 179, 3) := by decide +kernel
theorem dX12_clause_61 : decode cX12_clause 61 = .ok (.invokevirtual 185, 3) := by decide +kernel
theorem dX12_clause_64 : decode cX12_clause 64 = .ok (.goto 18, 3) := by decide +kernel
theorem dX12_clause_67 : decode cX12_clause 67 = .ok (.aload_n 2, 1) := by decide +kernel
theorem dX12_clause_68 : decode cX12_clause 68 = .ok (.iload_n 3, 1) := by decide +kernel
theorem dX12_clause_69 : decode cX12_clause 69 = .ok (.baload, 1) := by decide +kernel
theorem dX12_clause_70 : decode cX12_clause 70 = .ok (.ifCond .eq 12, 3) := by decide +kernel
theorem dX12_clause_73 : decode cX12_clause 73 = .ok (.aload_n 0, 1) := by decide +kernel
theorem dX12_clause_74 : decode cX12_clause 74 = .ok (.iconst 3, 1) := by decide +kernel
theorem dX12_clause_75 : decode cX12_clause 75 = .ok (.aload_n 0, 1) := by decide +kernel
theorem dX12_clause_76 : decode cX12_clause 76 = .ok (.getfield 179, 3) := by decide +kernel
theorem dX12_clause_79 : decode cX12_clause 79 = .ok (.invokevirtual 185, 3) := by decide +kernel
theorem dX12_clause_82 : decode cX12_clause 82 = .ok (.aload_n 0, 1) := by decide +kernel
end
section
theorem dX12_clause_83 : decode cX12_clause 83 = .ok (.getfield 173, 3) := by decide +kernel
theorem dX12_clause_86 : decode cX12_clause 86 = .ok (.ifCond .ne 17, 3) := by decide +kernel
theorem dX12_clause_89 : decode cX12_clause 89 = .ok (.aload_n 2, 1) := by decide +kernel
theorem dX12_clause_90 : decode cX12_clause 90 = .ok (.iload_n 3, 1) := by decide +kernel
theorem dX12_clause_91 : decode cX12_clause 91 = .ok (.iconst 1, 1) := by decide +kernel
theorem dX12_clause_92 : decode cX12_clause 92 = .ok (.bastore, 1) := by decide +kernel
theorem dX12_clause_93 : decode cX12_clause 93 = .ok (.aload_n 1, 1) := by decide +kernel
theorem dX12_clause_94 : decode cX12_clause 94 = .ok (.iload_n 3, 1) := by decide +kernel
theorem dX12_clause_95 : decode cX12_clause 95 = .ok (.aload_n 0, 1) := by decide +kernel
theorem dX12_clause_96 : decode cX12_clause 96 = .ok (.iconst 0, 1) := by decide +kernel
theorem dX12_clause_97 : decode cX12_clause 97 = .ok (.bipush 99, 2) := by decide +kernel
theorem dX12_clause_99 : decode cX12_clause 99 = .ok (.invokevirtual 238, 3) := by decide +kernel
theorem dX12_clause_102 : decode cX12_clause 102 = .ok (.iastore, 1) := by decide +kernel
theorem dX12_clause_103 : decode cX12_clause 103 = .ok (.return_, 1) := by decide +kernel
theorem dX12_clause_104 : decode cX12_clause 104 = .ok (.iconst 5, 1) := by decide +kernel
theorem dX12_clause_105 : decode cX12_clause 105 = .ok (.istore_n 3, 1) := by decide +kernel
theorem dX12_clause_106 : decode cX12_clause 106 = .ok (.iload_n 3, 1) := by decide +kernel
theorem dX12_clause_107 : decode cX12_clause 107 = .ok (.bipush 9, 2) := by decide +kernel
theorem dX12_clause_109 : decode cX12_clause 109 = .ok (.if_icmp .gt 21, 3) := by decide +kernel
theorem dX12_clause_112 : decode cX12_clause 112 = .ok (.aload_n 0, 1) := by decide +kernel
theorem dX12_clause_113 : decode cX12_clause 113 = .ok (.aload_n 0, 1) := by decide +kernel
theorem dX12_clause_114 : decode cX12_clause 114 = .ok (.iload_n 3, 1) := by decide +kernel
theorem dX12_clause_115 : decode cX12_clause 115 = .ok (.invokevirtual 242, 3) := by decide +kernel
theorem dX12_clause_118 : decode cX12_clause 118 = .ok (.invokevirtual 219, 3) := by decide +kernel
theorem dX12_clause_121 : decode cX12_clause 121 = .ok (.ifCond .ne 9, 3) := by decide +kernel
theorem dX12_clause_124 : decode cX12_clause 124 = .ok (.iinc 3 1, 3) := by decide +kernel
theorem dX12_clause_127 : decode cX12_clause 127 = .ok (.goto (-21), 3) := by decide +kernel
theorem dX12_clause_130 : decode cX12_clause 130 = .ok (.iload_n 3, 1) := by decide +kernel
theorem dX12_clause_131 : decode cX12_clause 131 = .ok (.bipush 9, 2) := by decide +kernel
theorem dX12_clause_133 : decode cX12_clause 133 = .ok (.if_icmp .le 13, 3) := by decide +kernel
theorem dX12_clause_136 : decode cX12_clause 136 = .ok (.aload_n 0, 1) := by decide +kernel
theorem dX12_clause_137 : decode cX12_clause 137 = .ok (.iconst 1, 1) := by decide +kernel
theorem dX12_clause_138 : decode cX12_clause 138 = .ok (.aload_n 0, 1) := by decide +kernel
theorem dX12_clause_139 : decode cX12_clause 139 = .ok (.getfield 179, 3) := by decide +kernel
theorem dX12_clause_142 : decode cX12_clause 142 = .ok (.invokevirtual 185, 3) := by decide +kernel
theorem dX12_clause_145 : decode cX12_clause 145 = .ok (.return_, 1) := by decide +kernel
theorem dX12_clause_146 : decode cX12_clause 146 = .ok (.aload_n 2, 1) := by decide +kernel
theorem dX12_clause_147 : decode cX12_clause 147 = .ok (.iload_n 3, 1) := by decide +kernel
theorem dX12_clause_148 : decode cX12_clause 148 = .ok (.baload, 1) := by decide +kernel
theorem dX12_clause_149 : decode cX12_clause 149 = .ok (.ifCond .eq 13, 3) := by decide +kernel
theorem dX12_clause_152 : decode cX12_clause 152 = .ok (.aload_n 0, 1) := by decide +kernel
theorem dX12_clause_153 : decode cX12_clause 153 = .ok (.iconst 3, 1) := by decide +kernel
theorem dX12_clause_154 : decode cX12_clause 154 = .ok (.aload_n 0, 1) := by decide +kernel
theorem dX12_clause_155 : decode cX12_clause 155 = .ok (.getfield 179, 3) := by decide +kernel
theorem dX12_clause_158 : decode cX12_clause 158 = .ok (.invokevirtual 185, 3) := by decide +kernel
theorem dX12_clause_161 : decode cX12_clause 161 = .ok (.return_, 1) := by decide +kernel
theorem dX12_clause_162 : decode cX12_clause 162 = .ok (.aload_n 2, 1) := by decide +kernel
theorem dX12_clause_163 : decode cX12_clause 163 = .ok (.iload_n 3, 1) := by decide +kernel
theorem dX12_clause_164 : decode cX12_clause 164 = .ok (.iconst 1, 1) := by decide +kernel
theorem dX12_clause_165 : decode cX12_clause 165 = .ok (.bastore, 1) := by decide +kernel
theorem dX12_clause_166 : decode cX12_clause 166 = .ok (.iload_n 3, 1) := by decide +kernel
theorem dX12_clause_167 : decode cX12_clause 167 = .ok (.bipush 6, 2) := by decide +kernel
theorem dX12_clause_169 : decode cX12_clause 169 = .ok (.if_icmp .ne 33, 3) := by decide +kernel
theorem dX12_clause_172 : decode cX12_clause 172 = .ok (.aload_n 0, 1) := by decide +kernel
theorem dX12_clause_173 : decode cX12_clause 173 = .ok (.invokevirtual 229, 3) := by decide +kernel
theorem dX12_clause_176 : decode cX12_clause 176 = .ok (.aload_n 1, 1) := by decide +kernel
theorem dX12_clause_177 : decode cX12_clause 177 = .ok (.bipush 6, 2) := by decide +kernel
theorem dX12_clause_179 : decode cX12_clause 179 = .ok (.aload_n 0, 1) := by decide +kernel
theorem dX12_clause_180 : decode cX12_clause 180 = .ok (.invokevirtual 245, 3) := by decide +kernel
theorem dX12_clause_183 : decode cX12_clause 183 = .ok (.iastore, 1) := by decide +kernel
theorem dX12_clause_184 : decode cX12_clause 184 = .ok (.aload_n 1, 1) := by decide +kernel
theorem dX12_clause_185 : decode cX12_clause 185 = .ok (.bipush 6, 2) := by decide +kernel
theorem dX12_clause_187 : decode cX12_clause 187 = .ok (.iaload, 1) := by decide +kernel
theorem dX12_clause_188 : decode cX12_clause 188 = .ok (.iconst (-1), 1) := by decide +kernel
theorem dX12_clause_189 : decode cX12_clause 189 = .ok (.if_icmp .ne 12, 3) := by decide +kernel
theorem dX12_clause_192 : decode cX12_clause 192 = .ok (.aload_n 0, 1) := by decide +kernel
theorem dX12_clause_193 : decode cX12_clause 193 = .ok (.iconst 1, 1) := by decide +kernel
theorem dX12_clause_194 : decode cX12_clause 194 = .ok (.aload_n 0, 1) := by decide +kernel
theorem dX12_clause_195 : decode cX12_clause 195 = .ok (.getfield 179, 3) := by decide +kernel
theorem dX12_clause_198 : decode cX12_clause 198 = .ok (.invokevirtual 185, 3) := by decide +kernel
theorem dX12_clause_201 : decode cX12_clause 201 = .ok (.return_, 1) := by decide +kernel
theorem dX12_clause_202 : decode cX12_clause 202 = .ok (.aload_n 1, 1) := by decide +kernel
theorem dX12_clause_203 : decode cX12_clause 203 = .ok (.iload_n 3, 1) := by decide +kernel
theorem dX12_clause_204 : decode cX12_clause 204 = .ok (.aload_n 0, 1) := by decide +kernel
theorem dX12_clause_205 : decode cX12_clause 205 = .ok (.iconst 0, 1) := by decide +kernel
theorem dX12_clause_206 : decode cX12_clause 206 = .ok (.iload_n 3, 1) := by decide +kernel
theorem dX12_clause_207 : decode cX12_clause 207 = .ok (.iconst 5, 1) := by decide +kernel
theorem dX12_clause_208 : decode cX12_clause 208 = .ok (.if_icmp .ne 9, 3) := by decide +kernel
theorem dX12_clause_211 : decode cX12_clause 211 = .ok (.sipush 9999, 3) := by decide +kernel
theorem dX12_clause_214 : decode cX12_clause 214 = .ok (.goto 17, 3) := by decide +kernel
theorem dX12_clause_217 : decode cX12_clause 217 = .ok (.iload_n 3, 1) := by decide +kernel
theorem dX12_clause_218 : decode cX12_clause 218 = .ok (.bipush 8, 2) := by decide +kernel
theorem dX12_clause_220 : decode cX12_clause 220 = .ok (.if_icmp .ne 8, 3) := by decide +kernel
theorem dX12_clause_223 : decode cX12_clause 223 = .ok (.bipush 100, 2) := by decide +kernel
theorem dX12_clause_225 : decode cX12_clause 225 = .ok (.goto 6, 3) := by decide +kernel
theorem dX12_clause_228 : decode cX12_clause 228 = .ok (.sipush 1000, 3) := by decide +kernel
theorem dX12_clause_231 : decode cX12_clause 231 = .ok (.invokevirtual 238, 3) := by decide +kernel
theorem dX12_clause_234 : decode cX12_clause 234 = .ok (.iastore, 1) := by decide +kernel
theorem dX12_clause_235 : decode cX12_clause 235 = .ok (.iload_n 3, 1) := by decide +kernel
theorem dX12_clause_236 : decode cX12_clause 236 = .ok (.bipush 9, 2) := by decide +kernel
theorem dX12_clause_238 : decode cX12_clause 238 = .ok (.if_icmp .ne 51, 3) := by decide +kernel
theorem dX12_clause_241 : decode cX12_clause 241 = .ok (.aload_n 0, 1) := by decide +kernel
theorem dX12_clause_242 : decode cX12_clause 242 = .ok (.getfield 173, 3) := by decide +kernel
theorem dX12_clause_245 : decode cX12_clause 245 = .ok (.ifCond .ne 44, 3) := by decide +kernel
theorem dX12_clause_248 : decode cX12_clause 248 = .ok (.aload_n 0, 1) := by decide +kernel
theorem dX12_clause_249 : decode cX12_clause 249 = .ok (.invokevirtual 229, 3) := by decide +kernel
theorem dX12_clause_252 : decode cX12_clause 252 = .ok (.aload_n 0, 1) := by decide +kernel
theorem dX12_clause_253 : decode cX12_clause 253 = .ok (.getfield 173, 3) := by decide +kernel
theorem dX12_clause_256 : decode cX12_clause 256 = .ok (.ifCond .ne 21, 3) := by decide +kernel
theorem dX12_clause_259 : decode cX12_clause 259 = .ok (.aload_n 0, 1) := by decide +kernel
theorem dX12_clause_260 : decode cX12_clause 260 = .ok (.ldc 248, 2) := by decide +kernel
theorem dX12_clause_262 : decode cX12_clause 262 = .ok (.invokevirtual 219, 3) := by decide +kernel
theorem dX12_clause_265 : decode cX12_clause 265 = .ok (.ifCond .ne 12, 3) := by decide +kernel
theorem dX12_clause_268 : decode cX12_clause 268 = .ok (.aload_n 0, 1) := by decide +kernel
theorem dX12_clause_269 : decode cX12_clause 269 = .ok (.iconst 1, 1) := by decide +kernel
theorem dX12_clause_270 : decode cX12_clause 270 = .ok (.aload_n 0, 1) := by decide +kernel
theorem dX12_clause_271 : decode cX12_clause 271 = .ok (.getfield 179, 3) := by decide +kernel
theorem dX12_clause_274 : decode cX12_clause 274 = .ok (.invokevirtual 185, 3) := by decide +kernel
theorem dX12_clause_277 : decode cX12_clause 277 = .ok (.aload_n 1, 1) := by decide +kernel
theorem dX12_clause_278 : decode cX12_clause 278 = .ok (.bipush 10, 2) := by decide +kernel
theorem dX12_clause_280 : decode cX12_clause 280 = .ok (.aload_n 0, 1) := by decide +kernel
theorem dX12_clause_281 : decode cX12_clause 281 = .ok (.iconst 0, 1) := by decide +kernel
theorem dX12_clause_282 : decode cX12_clause 282 = .ok (.sipush 5000, 3) := by decide +kernel
theorem dX12_clause_285 : decode cX12_clause 285 = .ok (.invokevirtual 238, 3) := by decide +kernel
theorem dX12_clause_288 : decode cX12_clause 288 = .ok (.iastore, 1) := by decide +kernel
theorem dX12_clause_289 : decode cX12_clause 289 = .ok (.return_, 1) := by decide +kernel
theorem dX12_law_0 : decode cX12_law 0 = .ok (.aload_n 0, 1) := by decide +kernel
theorem dX12_law_1 : decode cX12_law 1 = .ok (.getfield 250, 3) := by decide +kernel
theorem dX12_law_4 : decode cX12_law 4 = .ok (.bipush 6, 2) := by decide +kernel
theorem dX12_law_6 : decode cX12_law 6 = .ok (.if_icmp .eq 14, 3) := by decide +kernel
theorem dX12_law_9 : decode cX12_law 9 = .ok (.iload_n 1, 1) := by decide +kernel
theorem dX12_law_10 : decode cX12_law 10 = .ok (.iconst 0, 1) := by decide +kernel
theorem dX12_law_11 : decode cX12_law 11 = .ok (.sipush 5000, 3) := by decide +kernel
theorem dX12_law_14 : decode cX12_law 14 = .ok (.invokestatic 131, 3) := by decide +kernel
theorem dX12_law_17 : decode cX12_law 17 = .ok (.ifCond .ne 5, 3) := by decide +kernel
theorem dX12_law_20 : decode cX12_law 20 = .ok (.iconst (-1), 1) := by decide +kernel
theorem dX12_law_21 : decode cX12_law 21 = .ok (.ireturn, 1) := by decide +kernel
theorem dX12_law_22 : decode cX12_law 22 = .ok (.aload_n 0, 1) := by decide +kernel
theorem dX12_law_23 : decode cX12_law 23 = .ok (.getfield 78, 3) := by decide +kernel
theorem dX12_law_26 : decode cX12_law 26 = .ok (.bipush 6, 2) := by decide +kernel
theorem dX12_law_28 : decode cX12_law 28 = .ok (.aaload, 1) := by decide +kernel
theorem dX12_law_29 : decode cX12_law 29 = .ok (.astore_n 2, 1) := by decide +kernel
theorem dX12_law_30 : decode cX12_law 30 = .ok (.bipush 11, 2) := by decide +kernel
theorem dX12_law_32 : decode cX12_law 32 = .ok (.newarray .boolean, 2) := by decide +kernel
theorem dX12_law_34 : decode cX12_law 34 = .ok (.astore_n 3, 1) := by decide +kernel
theorem dX12_law_35 : decode cX12_law 35 = .ok (.iconst 0, 1) := by decide +kernel
theorem dX12_law_36 : decode cX12_law 36 = .ok (.istore 4, 2) := by decide +kernel
theorem dX12_law_38 : decode cX12_law 38 = .ok (.iload 4, 2) := by decide +kernel
theorem dX12_law_40 : decode cX12_law 40 = .ok (.bipush 11, 2) := by decide +kernel
theorem dX12_law_42 : decode cX12_law 42 = .ok (.if_icmp .ge 26, 3) := by decide +kernel
theorem dX12_law_45 : decode cX12_law 45 = .ok (.aload_n 2, 1) := by decide +kernel
theorem dX12_law_46 : decode cX12_law 46 = .ok (.iload 4, 2) := by decide +kernel
theorem dX12_law_48 : decode cX12_law 48 = .ok (.iload 4, 2) := by decide +kernel
theorem dX12_law_50 : decode cX12_law 50 = .ok (.bipush 7, 2) := by decide +kernel
theorem dX12_law_52 : decode cX12_law 52 = .ok (.if_icmp .ne 8, 3) := by decide +kernel
theorem dX12_law_55 : decode cX12_law 55 = .ok (.bipush 100, 2) := by decide +kernel
theorem dX12_law_57 : decode cX12_law 57 = .ok (.goto 4, 3) := by decide +kernel
theorem dX12_law_60 : decode cX12_law 60 = .ok (.iconst 0, 1) := by decide +kernel
theorem dX12_law_61 : decode cX12_law 61 = .ok (.iastore, 1) := by decide +kernel
theorem dX12_law_62 : decode cX12_law 62 = .ok (.iinc 4 1, 3) := by decide +kernel
theorem dX12_law_65 : decode cX12_law 65 = .ok (.goto (-27), 3) := by decide +kernel
theorem dX12_law_68 : decode cX12_law 68 = .ok (.aload_n 0, 1) := by decide +kernel
theorem dX12_law_69 : decode cX12_law 69 = .ok (.iconst 0, 1) := by decide +kernel
theorem dX12_law_70 : decode cX12_law 70 = .ok (.putfield 176, 3) := by decide +kernel
theorem dX12_law_73 : decode cX12_law 73 = .ok (.aload_n 0, 1) := by decide +kernel
theorem dX12_law_74 : decode cX12_law 74 = .ok (.iconst 0, 1) := by decide +kernel
theorem dX12_law_75 : decode cX12_law 75 = .ok (.putfield 173, 3) := by decide +kernel
theorem dX12_law_78 : decode cX12_law 78 = .ok (.aload_n 0, 1) := by decide +kernel
theorem dX12_law_79 : decode cX12_law 79 = .ok (.getfield 173, 3) := by decide +kernel
theorem dX12_law_82 : decode cX12_law 82 = .ok (.ifCond .ne 66, 3) := by decide +kernel
theorem dX12_law_85 : decode cX12_law 85 = .ok (.aload_n 0, 1) := by decide +kernel
theorem dX12_law_86 : decode cX12_law 86 = .ok (.invokevirtual 182, 3) := by decide +kernel
theorem dX12_law_89 : decode cX12_law 89 = .ok (.ifCond .ne 59, 3) := by decide +kernel
theorem dX12_law_92 : decode cX12_law 92 = .ok (.aload_n 0, 1) := by decide +kernel
theorem dX12_law_93 : decode cX12_law 93 = .ok (.aload_n 2, 1) := by decide +kernel
theorem dX12_law_94 : decode cX12_law 94 = .ok (.aload_n 3, 1) := by decide +kernel
theorem dX12_law_95 : decode cX12_law 95 = .ok (.invokevirtual 253, 3) := by decide +kernel
theorem dX12_law_98 : decode cX12_law 98 = .ok (.aload_n 0, 1) := by decide +kernel
theorem dX12_law_99 : decode cX12_law 99 = .ok (.getfield 173, 3) := by decide +kernel
theorem dX12_law_102 : decode cX12_law 102 = .ok (.ifCond .ne (-24), 3) := by decide +kernel
theorem dX12_law_105 : decode cX12_law 105 = .ok (.aload_n 0, 1) := by decide +kernel
theorem dX12_law_106 : decode cX12_law 106 = .ok (.invokevirtual 182, 3) := by decide +kernel
theorem dX12_law_109 : decode cX12_law 109 = .ok (.ifCond .ne 17, 3) := by decide +kernel
theorem dX12_law_112 : decode cX12_law 112 = .ok (.aload_n 0, 1) := by decide +kernel
theorem dX12_law_113 : decode cX12_law 113 = .ok (.getfield 81, 3) := by decide +kernel
theorem dX12_law_116 : decode cX12_law 116 = .ok (.aload_n 0, 1) := by decide +kernel
theorem dX12_law_117 : decode cX12_law 117 = .ok (.getfield 176, 3) := by decide +kernel
theorem dX12_law_120 : decode cX12_law 120 = .ok (.baload, 1) := by decide +kernel
theorem dX12_law_121 : decode cX12_law 121 = .ok (.bipush 59, 2) := by decide +kernel
theorem dX12_law_123 : decode cX12_law 123 = .ok (.if_icmp .eq 12, 3) := by decide +kernel
theorem dX12_law_126 : decode cX12_law 126 = .ok (.aload_n 0, 1) := by decide +kernel
theorem dX12_law_127 : decode cX12_law 127 = .ok (.iconst 1, 1) := by decide +kernel
theorem dX12_law_128 : decode cX12_law 128 = .ok (.aload_n 0, 1) := by decide +kernel
theorem dX12_law_129 : decode cX12_law 129 = .ok (.getfield 176, 3) := by decide +kernel
theorem dX12_law_132 : decode cX12_law 132 = .ok (.invokevirtual 185, 3) := by decide +kernel
theorem dX12_law_135 : decode cX12_law 135 = .ok (.aload_n 0, 1) := by decide +kernel
theorem dX12_law_136 : decode cX12_law 136 = .ok (.dup, 1) := by decide +kernel
theorem dX12_law_137 : decode cX12_law 137 = .ok (.getfield 176, 3) := by decide +kernel
theorem dX12_law_140 : decode cX12_law 140 = .ok (.iconst 1, 1) := by decide +kernel
theorem dX12_law_141 : decode cX12_law 141 = .ok (.iadd, 1) := by decide +kernel
theorem dX12_law_142 : decode cX12_law 142 = .ok (.putfield 176, 3) := by decide +kernel
theorem dX12_law_145 : decode cX12_law 145 = .ok (.goto (-67), 3) := by decide +kernel
theorem dX12_law_148 : decode cX12_law 148 = .ok (.aload_n 3, 1) := by decide +kernel
theorem dX12_law_149 : decode cX12_law 149 = .ok (.bipush 6, 2) := by decide +kernel
theorem dX12_law_151 : decode cX12_law 151 = .ok (.baload, 1) := by decide +kernel
theorem dX12_law_152 : decode cX12_law 152 = .ok (.ifCond .ne 12, 3) := by decide +kernel
theorem dX12_law_155 : decode cX12_law 155 = .ok (.aload_n 0, 1) := by decide +kernel
theorem dX12_law_156 : decode cX12_law 156 = .ok (.iconst 4, 1) := by decide +kernel
theorem dX12_law_157 : decode cX12_law 157 = .ok (.aload_n 0, 1) := by decide +kernel
theorem dX12_law_158 : decode cX12_law 158 = .ok (.getfield 166, 3) := by decide +kernel
theorem dX12_law_161 : decode cX12_law 161 = .ok (.invokevirtual 185, 3) := by decide +kernel
theorem dX12_law_164 : decode cX12_law 164 = .ok (.aload_n 0, 1) := by decide +kernel
theorem dX12_law_165 : decode cX12_law 165 = .ok (.iconst 0, 1) := by decide +kernel
theorem dX12_law_166 : decode cX12_law 166 = .ok (.putfield 166, 3) := by decide +kernel
theorem dX12_law_169 : decode cX12_law 169 = .ok (.aload_n 0, 1) := by decide +kernel
theorem dX12_law_170 : decode cX12_law 170 = .ok (.getfield 173, 3) := by decide +kernel
theorem dX12_law_173 : decode cX12_law 173 = .ok (.ifCond .le 11, 3) := by decide +kernel
theorem dX12_law_176 : decode cX12_law 176 = .ok (.bipush (-2), 2) := by decide +kernel
theorem dX12_law_178 : decode cX12_law 178 = .ok (.aload_n 0, 1) := by decide +kernel
theorem dX12_law_179 : decode cX12_law 179 = .ok (.getfield 173, 3) := by decide +kernel
theorem dX12_law_182 : decode cX12_law 182 = .ok (.isub, 1) := by decide +kernel
theorem dX12_law_183 : decode cX12_law 183 = .ok (.ireturn, 1) := by decide +kernel
theorem dX12_law_184 : decode cX12_law 184 = .ok (.iconst 0, 1) := by decide +kernel
theorem dX12_law_185 : decode cX12_law 185 = .ok (.istore 4, 2) := by decide +kernel
theorem dX12_law_187 : decode cX12_law 187 = .ok (.iload 4, 2) := by decide +kernel
theorem dX12_law_189 : decode cX12_law 189 = .ok (.bipush 11, 2) := by decide +kernel
theorem dX12_law_191 : decode cX12_law 191 = .ok (.if_icmp .ge 25, 3) := by decide +kernel
theorem dX12_law_194 : decode cX12_law 194 = .ok (.aload_n 0, 1) := by decide +kernel
theorem dX12_law_195 : decode cX12_law 195 = .ok (.getfield 78, 3) := by decide +kernel
theorem dX12_law_198 : decode cX12_law 198 = .ok (.aload_n 0, 1) := by decide +kernel
theorem dX12_law_199 : decode cX12_law 199 = .ok (.getfield 250, 3) := by decide +kernel
theorem dX12_law_202 : decode cX12_law 202 = .ok (.aaload, 1) := by decide +kernel
theorem dX12_law_203 : decode cX12_law 203 = .ok (.iload 4, 2) := by decide +kernel
theorem dX12_law_205 : decode cX12_law 205 = .ok (.aload_n 2, 1) := by decide +kernel
theorem dX12_law_206 : decode cX12_law 206 = .ok (.iload 4, 2) := by decide +kernel
theorem dX12_law_208 : decode cX12_law 208 = .ok (.iaload, 1) := by decide +kernel
theorem dX12_law_209 : decode cX12_law 209 = .ok (.iastore, 1) := by decide +kernel
theorem dX12_law_210 : decode cX12_law 210 = .ok (.iinc 4 1, 3) := by decide +kernel
theorem dX12_law_213 : decode cX12_law 213 = .ok (.goto (-26), 3) := by decide +kernel
theorem dX12_law_216 : decode cX12_law 216 = .ok (.aload_n 0, 1) := by decide +kernel
theorem dX12_law_217 : decode cX12_law 217 = .ok (.getfield 70, 3) := by decide +kernel
theorem dX12_law_220 : decode cX12_law 220 = .ok (.aload_n 0, 1) := by decide +kernel
theorem dX12_law_221 : decode cX12_law 221 = .ok (.getfield 250, 3) := by decide +kernel
theorem dX12_law_224 : decode cX12_law 224 = .ok (.iload_n 1, 1) := by decide +kernel
theorem dX12_law_225 : decode cX12_law 225 = .ok (.iastore, 1) := by decide +kernel
theorem dX12_law_226 : decode cX12_law 226 = .ok (.aload_n 0, 1) := by decide +kernel
theorem dX12_law_227 : decode cX12_law 227 = .ok (.getfield 73, 3) := by decide +kernel
theorem dX12_law_230 : decode cX12_law 230 = .ok (.aload_n 0, 1) := by decide +kernel
theorem dX12_law_231 : decode cX12_law 231 = .ok (.getfield 250, 3) := by decide +kernel
theorem dX12_law_234 : decode cX12_law 234 = .ok (.aload_n 0, 1) := by decide +kernel
theorem dX12_law_235 : decode cX12_law 235 = .ok (.getfield 128, 3) := by decide +kernel
theorem dX12_law_238 : decode cX12_law 238 = .ok (.iastore, 1) := by decide +kernel
theorem dX12_law_239 : decode cX12_law 239 = .ok (.aload_n 0, 1) := by decide +kernel
theorem dX12_law_240 : decode cX12_law 240 = .ok (.dup, 1) := by decide +kernel
theorem dX12_law_241 : decode cX12_law 241 = .ok (.getfield 250, 3) := by decide +kernel
theorem dX12_law_244 : decode cX12_law 244 = .ok (.iconst 1, 1) := by decide +kernel
theorem dX12_law_245 : decode cX12_law 245 = .ok (.iadd, 1) := by decide +kernel
theorem dX12_law_246 : decode cX12_law 246 = .ok (.putfield 250, 3) := by decide +kernel
theorem dX12_law_249 : decode cX12_law 249 = .ok (.aload_n 0, 1) := by decide +kernel
theorem dX12_law_250 : decode cX12_law 250 = .ok (.getfield 250, 3) := by decide +kernel
theorem dX12_law_253 : decode cX12_law 253 = .ok (.iconst 1, 1) := by decide +kernel
theorem dX12_law_254 : decode cX12_law 254 = .ok (.isub, 1) := by decide +kernel
theorem dX12_law_255 : decode cX12_law 255 = .ok (.ireturn, 1) := by decide +kernel
theorem dX12_sheet_0 : decode cX12_sheet 0 = .ok (.iload_n 1, 1) := by decide +kernel
theorem dX12_sheet_1 : decode cX12_sheet 1 = .ok (.iconst 1, 1) := by decide +kernel
theorem dX12_sheet_2 : decode cX12_sheet 2 = .ok (.bipush 60, 2) := by decide +kernel
theorem dX12_sheet_4 : decode cX12_sheet 4 = .ok (.invokestatic 131, 3) := by decide +kernel
theorem dX12_sheet_7 : decode cX12_sheet 7 = .ok (.ifCond .ne 5, 3) := by decide +kernel
theorem dX12_sheet_10 : decode cX12_sheet 10 = .ok (.iconst 0, 1) := by decide +kernel
theorem dX12_sheet_11 : decode cX12_sheet 11 = .ok (.ireturn, 1) := by decide +kernel
theorem dX12_sheet_12 : decode cX12_sheet 12 = .ok (.bipush 60, 2) := by decide +kernel
theorem dX12_sheet_14 : decode cX12_sheet 14 = .ok (.newarray .int, 2) := by decide +kernel
theorem dX12_sheet_16 : decode cX12_sheet 16 = .ok (.astore 10, 2) := by decide +kernel
theorem dX12_sheet_18 : decode cX12_sheet 18 = .ok (.iconst 0, 1) := by decide +kernel
theorem dX12_sheet_19 : decode cX12_sheet 19 = .ok (.istore 11, 2) := by decide +kernel
theorem dX12_sheet_21 : decode cX12_sheet 21 = .ok (.iload 11, 2) := by decide +kernel
theorem dX12_sheet_23 : decode cX12_sheet 23 = .ok (.iload_n 1, 1) := by decide +kernel
theorem dX12_sheet_24 : decode cX12_sheet 24 = .ok (.if_icmp .ge 84, 3) := by decide +kernel
theorem dX12_sheet_27 : decode cX12_sheet 27 = .ok (.iload 11, 2) := by decide +kernel
theorem dX12_sheet_29 : decode cX12_sheet 29 = .ok (.bipush 16, 2) := by decide +kernel
theorem dX12_sheet_31 : decode cX12_sheet 31 = .ok (.if_icmp .ge 7, 3) := by decide +kernel
theorem dX12_sheet_34 : decode cX12_sheet 34 = .ok (.lload_n 2, 1) := by decide +kernel
theorem dX12_sheet_35 : decode cX12_sheet 35 = .ok (.goto 29, 3) := by decide +kernel
theorem dX12_sheet_38 : decode cX12_sheet 38 = .ok (.iload 11, 2) := by decide +kernel
theorem dX12_sheet_40 : decode cX12_sheet 40 = .ok (.bipush 32, 2) := by decide +kernel
theorem dX12_sheet_42 : decode cX12_sheet 42 = .ok (.if_icmp .ge 8, 3) := by decide +kernel
theorem dX12_sheet_45 : decode cX12_sheet 45 = .ok (.lload 4, 2) := by decide +kernel
theorem dX12_sheet_47 : decode cX12_sheet 47 = .ok (.goto 17, 3) := by decide +kernel
theorem dX12_sheet_50 : decode cX12_sheet 50 = .ok (.iload 11, 2) := by decide +kernel
theorem dX12_sheet_52 : decode cX12_sheet 52 = .ok (.bipush 48, 2) := by decide +kernel
theorem dX12_sheet_54 : decode cX12_sheet 54 = .ok (.if_icmp .ge 8, 3) := by decide +kernel
theorem dX12_sheet_57 : decode cX12_sheet 57 = .ok (.lload 6, 2) := by decide +kernel
theorem dX12_sheet_59 : decode cX12_sheet 59 = .ok (.goto 5, 3) := by decide +kernel
theorem dX12_sheet_62 : decode cX12_sheet 62 = .ok (.lload 8, 2) := by decide +kernel
theorem dX12_sheet_64 : decode cX12_sheet 64 = .ok (.lstore 12, 2) := by decide +kernel
theorem dX12_sheet_66 : decode cX12_sheet 66 = .ok (.aload 10, 2) := by decide +kernel
theorem dX12_sheet_68 : decode cX12_sheet 68 = .ok (.iload 11, 2) := by decide +kernel
theorem dX12_sheet_70 : decode cX12_sheet 70 = .ok (.lload 12, 2) := by decide +kernel
theorem dX12_sheet_72 : decode cX12_sheet 72 = .ok (.iconst 4, 1) := by decide +kernel
theorem dX12_sheet_73 : decode cX12_sheet 73 = .ok (.iload 11, 2) := by decide +kernel
theorem dX12_sheet_75 : decode cX12_sheet 75 = .ok (.bipush 16, 2) := by decide +kernel
theorem dX12_sheet_77 : decode cX12_sheet 77 = .ok (.irem, 1) := by decide +kernel
theorem dX12_sheet_78 : decode cX12_sheet 78 = .ok (.imul, 1) := by decide +kernel
theorem dX12_sheet_79 : decode cX12_sheet 79 = .ok (.lshr, 1) := by decide +kernel
theorem dX12_sheet_80 : decode cX12_sheet 80 = .ok (.ldc2_w 257, 3) := by decide +kernel
theorem dX12_sheet_83 : decode cX12_sheet 83 = .ok (.land, 1) := by decide +kernel
theorem dX12_sheet_84 : decode cX12_sheet 84 = .ok (.l2i, 1) := by decide +kernel
theorem dX12_sheet_85 : decode cX12_sheet 85 = .ok (.iastore, 1) := by decide +kernel
theorem dX12_sheet_86 : decode cX12_sheet 86 = .ok (.aload 10, 2) := by decide +kernel
theorem dX12_sheet_88 : decode cX12_sheet 88 = .ok (.iload 11, 2) := by decide +kernel
theorem dX12_sheet_90 : decode cX12_sheet 90 = .ok (.iaload, 1) := by decide +kernel
theorem dX12_sheet_91 : decode cX12_sheet 91 = .ok (.iconst 1, 1) := by decide +kernel
theorem dX12_sheet_92 : decode cX12_sheet 92 = .ok (.bipush 9, 2) := by decide +kernel
theorem dX12_sheet_94 : decode cX12_sheet 94 = .ok (.invokestatic 131, 3) := by decide +kernel
theorem dX12_sheet_97 : decode cX12_sheet 97 = .ok (.ifCond .ne 5, 3) := by decide +kernel
theorem dX12_sheet_100 : decode cX12_sheet 100 = .ok (.iconst 0, 1) := by decide +kernel
theorem dX12_sheet_101 : decode cX12_sheet 101 = .ok (.ireturn, 1) := by decide +kernel
theorem dX12_sheet_102 : decode cX12_sheet 102 = .ok (.iinc 11 1, 3) := by decide +kernel
theorem dX12_sheet_105 : decode cX12_sheet 105 = .ok (.goto (-84), 3) := by decide +kernel
theorem dX12_sheet_108 : decode cX12_sheet 108 = .ok (.iconst 0, 1) := by decide +kernel
theorem dX12_sheet_109 : decode cX12_sheet 109 = .ok (.istore 11, 2) := by decide +kernel
theorem dX12_sheet_111 : decode cX12_sheet 111 = .ok (.iload 11, 2) := by decide +kernel
theorem dX12_sheet_113 : decode cX12_sheet 113 = .ok (.iload_n 1, 1) := by decide +kernel
theorem dX12_sheet_114 : decode cX12_sheet 114 = .ok (.if_icmp .ge 21, 3) := by decide +kernel
theorem dX12_sheet_117 : decode cX12_sheet 117 = .ok (.aload_n 0, 1) := by decide +kernel
theorem dX12_sheet_118 : decode cX12_sheet 118 = .ok (.getfield 85, 3) := by decide +kernel
theorem dX12_sheet_121 : decode cX12_sheet 121 = .ok (.iload 11, 2) := by decide +kernel
theorem dX12_sheet_123 : decode cX12_sheet 123 = .ok (.aload 10, 2) := by decide +kernel
theorem dX12_sheet_125 : decode cX12_sheet 125 = .ok (.iload 11, 2) := by decide +kernel
theorem dX12_sheet_127 : decode cX12_sheet 127 = .ok (.iaload, 1) := by decide +kernel
theorem dX12_sheet_128 : decode cX12_sheet 128 = .ok (.iastore, 1) := by decide +kernel
theorem dX12_sheet_129 : decode cX12_sheet 129 = .ok (.iinc 11 1, 3) := by decide +kernel
theorem dX12_sheet_132 : decode cX12_sheet 132 = .ok (.goto (-21), 3) := by decide +kernel
theorem dX12_sheet_135 : decode cX12_sheet 135 = .ok (.aload_n 0, 1) := by decide +kernel
theorem dX12_sheet_136 : decode cX12_sheet 136 = .ok (.iload_n 1, 1) := by decide +kernel
theorem dX12_sheet_137 : decode cX12_sheet 137 = .ok (.putfield 259, 3) := by decide +kernel
theorem dX12_sheet_140 : decode cX12_sheet 140 = .ok (.aload_n 0, 1) := by decide +kernel
theorem dX12_sheet_141 : decode cX12_sheet 141 = .ok (.iconst 1, 1) := by decide +kernel
theorem dX12_sheet_142 : decode cX12_sheet 142 = .ok (.putfield 262, 3) := by decide +kernel
theorem dX12_sheet_145 : decode cX12_sheet 145 = .ok (.iconst 1, 1) := by decide +kernel
theorem dX12_sheet_146 : decode cX12_sheet 146 = .ok (.ireturn, 1) := by decide +kernel
theorem dX12_ship_0 : decode cX12_ship 0 = .ok (.aload_n 0, 1) := by decide +kernel
theorem dX12_ship_1 : decode cX12_ship 1 = .ok (.getfield 266, 3) := by decide +kernel
theorem dX12_ship_4 : decode cX12_ship 4 = .ok (.bipush 8, 2) := by decide +kernel
theorem dX12_ship_6 : decode cX12_ship 6 = .ok (.if_icmp .ge 82, 3) := by decide +kernel
theorem dX12_ship_9 : decode cX12_ship 9 = .ok (.aload_n 0, 1) := by decide +kernel
theorem dX12_ship_10 : decode cX12_ship 10 = .ok (.getfield 262, 3) := by decide +kernel
theorem dX12_ship_13 : decode cX12_ship 13 = .ok (.ifCond .eq 75, 3) := by decide +kernel
theorem dX12_ship_16 : decode cX12_ship 16 = .ok (.iload_n 1, 1) := by decide +kernel
theorem dX12_ship_17 : decode cX12_ship 17 = .ok (.iconst 1, 1) := by decide +kernel
theorem dX12_ship_18 : decode cX12_ship 18 = .ok (.sipush 5000, 3) := by decide +kernel
theorem dX12_ship_21 : decode cX12_ship 21 = .ok (.invokestatic 131, 3) := by decide +kernel
theorem dX12_ship_24 : decode cX12_ship 24 = .ok (.ifCond .eq 64, 3) := by decide +kernel
theorem dX12_ship_27 : decode cX12_ship 27 = .ok (.iload_n 2, 1) := by decide +kernel
theorem dX12_ship_28 : decode cX12_ship 28 = .ok (.iconst 0, 1) := by decide +kernel
theorem dX12_ship_29 : decode cX12_ship 29 = .ok (.bipush 15, 2) := by decide +kernel
theorem dX12_ship_31 : decode cX12_ship 31 = .ok (.invokestatic 131, 3) := by decide +kernel
theorem dX12_ship_34 : decode cX12_ship 34 = .ok (.ifCond .eq 54, 3) := by decide +kernel
theorem dX12_ship_37 : decode cX12_ship 37 = .ok (.iload_n 3, 1) := by decide +kernel
theorem dX12_ship_38 : decode cX12_ship 38 = .ok (.iconst 0, 1) := by decide +kernel
theorem dX12_ship_39 : decode cX12_ship 39 = .ok (.bipush 15, 2) := by decide +kernel
theorem dX12_ship_41 : decode cX12_ship 41 = .ok (.invokestatic 131, 3) := by decide +kernel
theorem dX12_ship_44 : decode cX12_ship 44 = .ok (.ifCond .eq 44, 3) := by decide +kernel
theorem dX12_ship_47 : decode cX12_ship 47 = .ok (.iload 4, 2) := by decide +kernel
theorem dX12_ship_49 : decode cX12_ship 49 = .ok (.iconst 0, 1) := by decide +kernel
theorem dX12_ship_50 : decode cX12_ship 50 = .ok (.sipush 5000, 3) := by decide +kernel
theorem dX12_ship_53 : decode cX12_ship 53 = .ok (.invokestatic 131, 3) := by decide +kernel
theorem dX12_ship_56 : decode cX12_ship 56 = .ok (.ifCond .eq 32, 3) := by decide +kernel
theorem dX12_ship_59 : decode cX12_ship 59 = .ok (.iload 5, 2) := by decide +kernel
theorem dX12_ship_61 : decode cX12_ship 61 = .ok (.iconst 0, 1) := by decide +kernel
theorem dX12_ship_62 : decode cX12_ship 62 = .ok (.bipush 100, 2) := by decide +kernel
theorem dX12_ship_64 : decode cX12_ship 64 = .ok (.invokestatic 131, 3) := by decide +kernel
theorem dX12_ship_67 : decode cX12_ship 67 = .ok (.ifCond .eq 21, 3) := by decide +kernel
theorem dX12_ship_70 : decode cX12_ship 70 = .ok (.iload 6, 2) := by decide +kernel
theorem dX12_ship_72 : decode cX12_ship 72 = .ok (.iconst 0, 1) := by decide +kernel
theorem dX12_ship_73 : decode cX12_ship 73 = .ok (.bipush 100, 2) := by decide +kernel
theorem dX12_ship_75 : decode cX12_ship 75 = .ok (.iload 5, 2) := by decide +kernel
theorem dX12_ship_77 : decode cX12_ship 77 = .ok (.isub, 1) := by decide +kernel
theorem dX12_ship_78 : decode cX12_ship 78 = .ok (.invokestatic 131, 3) := by decide +kernel
theorem dX12_ship_81 : decode cX12_ship 81 = .ok (.ifCond .eq 7, 3) := by decide +kernel
theorem dX12_ship_84 : decode cX12_ship 84 = .ok (.iconst 1, 1) := by decide +kernel
theorem dX12_ship_85 : decode cX12_ship 85 = .ok (.goto 4, 3) := by decide +kernel
theorem dX12_ship_88 : decode cX12_ship 88 = .ok (.iconst 0, 1) := by decide +kernel
theorem dX12_ship_89 : decode cX12_ship 89 = .ok (.istore 7, 2) := by decide +kernel
theorem dX12_ship_91 : decode cX12_ship 91 = .ok (.iload 7, 2) := by decide +kernel
theorem dX12_ship_93 : decode cX12_ship 93 = .ok (.ifCond .ne 5, 3) := by decide +kernel
theorem dX12_ship_96 : decode cX12_ship 96 = .ok (.iconst (-1), 1) := by decide +kernel
theorem dX12_ship_97 : decode cX12_ship 97 = .ok (.ireturn, 1) := by decide +kernel
theorem dX12_ship_98 : decode cX12_ship 98 = .ok (.aload_n 0, 1) := by decide +kernel
theorem dX12_ship_99 : decode cX12_ship 99 = .ok (.getfield 88, 3) := by decide +kernel
theorem dX12_ship_102 : decode cX12_ship 102 = .ok (.aload_n 0, 1) := by decide +kernel
theorem dX12_ship_103 : decode cX12_ship 103 = .ok (.getfield 266, 3) := by decide +kernel
theorem dX12_ship_106 : decode cX12_ship 106 = .ok (.iload_n 1, 1) := by decide +kernel
theorem dX12_ship_107 : decode cX12_ship 107 = .ok (.iastore, 1) := by decide +kernel
theorem dX12_ship_108 : decode cX12_ship 108 = .ok (.aload_n 0, 1) := by decide +kernel
theorem dX12_ship_109 : decode cX12_ship 109 = .ok (.getfield 91, 3) := by decide +kernel
theorem dX12_ship_112 : decode cX12_ship 112 = .ok (.aload_n 0, 1) := by decide +kernel
theorem dX12_ship_113 : decode cX12_ship 113 = .ok (.getfield 266, 3) := by decide +kernel
theorem dX12_ship_116 : decode cX12_ship 116 = .ok (.iload_n 2, 1) := by decide +kernel
theorem dX12_ship_117 : decode cX12_ship 117 = .ok (.iastore, 1) := by decide +kernel
theorem dX12_ship_118 : decode cX12_ship 118 = .ok (.aload_n 0, 1) := by decide +kernel
theorem dX12_ship_119 : decode cX12_ship 119 = .ok (.getfield 94, 3) := by decide +kernel
theorem dX12_ship_122 : decode cX12_ship 122 = .ok (.aload_n 0, 1) := by decide +kernel
theorem dX12_ship_123 : decode cX12_ship 123 = .ok (.getfield 266, 3) := by decide +kernel
theorem dX12_ship_126 : decode cX12_ship 126 = .ok (.iload_n 3, 1) := by decide +kernel
theorem dX12_ship_127 : decode cX12_ship 127 = .ok (.iastore, 1) := by decide +kernel
theorem dX12_ship_128 : decode cX12_ship 128 = .ok (.aload_n 0, 1) := by decide +kernel
theorem dX12_ship_129 : decode cX12_ship 129 = .ok (.getfield 97, 3) := by decide +kernel
theorem dX12_ship_132 : decode cX12_ship 132 = .ok (.aload_n 0, 1) := by decide +kernel
theorem dX12_ship_133 : decode cX12_ship 133 = .ok (.getfield 266, 3) := by decide +kernel
theorem dX12_ship_136 : decode cX12_ship 136 = .ok (.iload 4, 2) := by decide +kernel
theorem dX12_ship_138 : decode cX12_ship 138 = .ok (.iastore, 1) := by decide +kernel
theorem dX12_ship_139 : decode cX12_ship 139 = .ok (.aload_n 0, 1) := by decide +kernel
theorem dX12_ship_140 : decode cX12_ship 140 = .ok (.getfield 100, 3) := by decide +kernel
theorem dX12_ship_143 : decode cX12_ship 143 = .ok (.aload_n 0, 1) := by decide +kernel
theorem dX12_ship_144 : decode cX12_ship 144 = .ok (.getfield 266, 3) := by decide +kernel
theorem dX12_ship_147 : decode cX12_ship 147 = .ok (.iload 5, 2) := by decide +kernel
theorem dX12_ship_149 : decode cX12_ship 149 = .ok (.iastore, 1) := by decide +kernel
theorem dX12_ship_150 : decode cX12_ship 150 = .ok (.aload_n 0, 1) := by decide +kernel
theorem dX12_ship_151 : decode cX12_ship 151 = .ok (.getfield 103, 3) := by decide +kernel
theorem dX12_ship_154 : decode cX12_ship 154 = .ok (.aload_n 0, 1) := by decide +kernel
theorem dX12_ship_155 : decode cX12_ship 155 = .ok (.getfield 266, 3) := by decide +kernel
theorem dX12_ship_158 : decode cX12_ship 158 = .ok (.iload 6, 2) := by decide +kernel
theorem dX12_ship_160 : decode cX12_ship 160 = .ok (.iastore, 1) := by decide +kernel
theorem dX12_ship_161 : decode cX12_ship 161 = .ok (.aload_n 0, 1) := by decide +kernel
theorem dX12_ship_162 : decode cX12_ship 162 = .ok (.getfield 106, 3) := by decide +kernel
theorem dX12_ship_165 : decode cX12_ship 165 = .ok (.aload_n 0, 1) := by decide +kernel
theorem dX12_ship_166 : decode cX12_ship 166 = .ok (.getfield 266, 3) := by decide +kernel
theorem dX12_ship_169 : decode cX12_ship 169 = .ok (.aload_n 0, 1) := by decide +kernel
theorem dX12_ship_170 : decode cX12_ship 170 = .ok (.getfield 259, 3) := by decide +kernel
theorem dX12_ship_173 : decode cX12_ship 173 = .ok (.iastore, 1) := by decide +kernel
theorem dX12_ship_174 : decode cX12_ship 174 = .ok (.iconst 0, 1) := by decide +kernel
theorem dX12_ship_175 : decode cX12_ship 175 = .ok (.istore 8, 2) := by decide +kernel
theorem dX12_ship_177 : decode cX12_ship 177 = .ok (.iload 8, 2) := by decide +kernel
theorem dX12_ship_179 : decode cX12_ship 179 = .ok (.aload_n 0, 1) := by decide +kernel
theorem dX12_ship_180 : decode cX12_ship 180 = .ok (.getfield 259, 3) := by decide +kernel
theorem dX12_ship_183 : decode cX12_ship 183 = .ok (.if_icmp .ge 28, 3) := by decide +kernel
theorem dX12_ship_186 : decode cX12_ship 186 = .ok (.aload_n 0, 1) := by decide +kernel
theorem dX12_ship_187 : decode cX12_ship 187 = .ok (.getfield 109, 3) := by decide +kernel
theorem dX12_ship_190 : decode cX12_ship 190 = .ok (.aload_n 0, 1) := by decide +kernel
theorem dX12_ship_191 : decode cX12_ship 191 = .ok (.getfield 266, 3) := by decide +kernel
theorem dX12_ship_194 : decode cX12_ship 194 = .ok (.aaload, 1) := by decide +kernel
theorem dX12_ship_195 : decode cX12_ship 195 = .ok (.iload 8, 2) := by decide +kernel
theorem dX12_ship_197 : decode cX12_ship 197 = .ok (.aload_n 0, 1) := by decide +kernel
theorem dX12_ship_198 : decode cX12_ship 198 = .ok (.getfield 85, 3) := by decide +kernel
theorem dX12_ship_201 : decode cX12_ship 201 = .ok (.iload 8, 2) := by decide +kernel
theorem dX12_ship_203 : decode cX12_ship 203 = .ok (.iaload, 1) := by decide +kernel
theorem dX12_ship_204 : decode cX12_ship 204 = .ok (.iastore, 1) := by decide +kernel
theorem dX12_ship_205 : decode cX12_ship 205 = .ok (.iinc 8 1, 3) := by decide +kernel
theorem dX12_ship_208 : decode cX12_ship 208 = .ok (.goto (-31), 3) := by decide +kernel
theorem dX12_ship_211 : decode cX12_ship 211 = .ok (.aload_n 0, 1) := by decide +kernel
theorem dX12_ship_212 : decode cX12_ship 212 = .ok (.dup, 1) := by decide +kernel
theorem dX12_ship_213 : decode cX12_ship 213 = .ok (.getfield 266, 3) := by decide +kernel
theorem dX12_ship_216 : decode cX12_ship 216 = .ok (.iconst 1, 1) := by decide +kernel
theorem dX12_ship_217 : decode cX12_ship 217 = .ok (.iadd, 1) := by decide +kernel
theorem dX12_ship_218 : decode cX12_ship 218 = .ok (.putfield 266, 3) := by decide +kernel
theorem dX12_ship_221 : decode cX12_ship 221 = .ok (.aload_n 0, 1) := by decide +kernel
theorem dX12_ship_222 : decode cX12_ship 222 = .ok (.getfield 266, 3) := by decide +kernel
theorem dX12_ship_225 : decode cX12_ship 225 = .ok (.iconst 1, 1) := by decide +kernel
theorem dX12_ship_226 : decode cX12_ship 226 = .ok (.isub, 1) := by decide +kernel
theorem dX12_ship_227 : decode cX12_ship 227 = .ok (.ireturn, 1) := by decide +kernel
theorem dX12_distance_0 : decode cX12_distance 0 = .ok (.iconst 0, 1) := by decide +kernel
theorem dX12_distance_1 : decode cX12_distance 1 = .ok (.istore_n 3, 1) := by decide +kernel
theorem dX12_distance_2 : decode cX12_distance 2 = .ok (.sipush 10000, 3) := by decide +kernel
theorem dX12_distance_5 : decode cX12_distance 5 = .ok (.istore 4, 2) := by decide +kernel
theorem dX12_distance_7 : decode cX12_distance 7 = .ok (.iconst 0, 1) := by decide +kernel
theorem dX12_distance_8 : decode cX12_distance 8 = .ok (.istore 5, 2) := by decide +kernel
theorem dX12_distance_10 : decode cX12_distance 10 = .ok (.iload 5, 2) := by decide +kernel
theorem dX12_distance_12 : decode cX12_distance 12 = .ok (.iconst 5, 1) := by decide +kernel
theorem dX12_distance_13 : decode cX12_distance 13 = .ok (.if_icmp .ge 62, 3) := by decide +kernel
theorem dX12_distance_16 : decode cX12_distance 16 = .ok (.aload_n 0, 1) := by decide +kernel
theorem dX12_distance_17 : decode cX12_distance 17 = .ok (.getfield 52, 3) := by decide +kernel
theorem dX12_distance_20 : decode cX12_distance 20 = .ok (.iload_n 1, 1) := by decide +kernel
theorem dX12_distance_21 : decode cX12_distance 21 = .ok (.iaload, 1) := by decide +kernel
theorem dX12_distance_22 : decode cX12_distance 22 = .ok (.iload 4, 2) := by decide +kernel
theorem dX12_distance_24 : decode cX12_distance 24 = .ok (.idiv, 1) := by decide +kernel
theorem dX12_distance_25 : decode cX12_distance 25 = .ok (.bipush 10, 2) := by decide +kernel
theorem dX12_distance_27 : decode cX12_distance 27 = .ok (.irem, 1) := by decide +kernel
theorem dX12_distance_28 : decode cX12_distance 28 = .ok (.aload_n 0, 1) := by decide +kernel
theorem dX12_distance_29 : decode cX12_distance 29 = .ok (.getfield 160, 3) := by decide +kernel
theorem dX12_distance_32 : decode cX12_distance 32 = .ok (.iload 4, 2) := by decide +kernel
theorem dX12_distance_34 : decode cX12_distance 34 = .ok (.idiv, 1) := by decide +kernel
theorem dX12_distance_35 : decode cX12_distance 35 = .ok (.bipush 10, 2) := by decide +kernel
theorem dX12_distance_37 : decode cX12_distance 37 = .ok (.irem, 1) := by decide +kernel
theorem dX12_distance_38 : decode cX12_distance 38 = .ok (.isub, 1) := by decide +kernel
theorem dX12_distance_39 : decode cX12_distance 39 = .ok (.istore 6, 2) := by decide +kernel
theorem dX12_distance_41 : decode cX12_distance 41 = .ok (.iload_n 3, 1) := by decide +kernel
theorem dX12_distance_42 : decode cX12_distance 42 = .ok (.aload_n 2, 1) := by decide +kernel
theorem dX12_distance_43 : decode cX12_distance 43 = .ok (.iload 5, 2) := by decide +kernel
theorem dX12_distance_45 : decode cX12_distance 45 = .ok (.iaload, 1) := by decide +kernel
theorem dX12_distance_46 : decode cX12_distance 46 = .ok (.iload 6, 2) := by decide +kernel
theorem dX12_distance_48 : decode cX12_distance 48 = .ok (.ifCond .ge 9, 3) := by decide +kernel
theorem dX12_distance_51 : decode cX12_distance 51 = .ok (.iload 6, 2) := by decide +kernel
theorem dX12_distance_53 : decode cX12_distance 53 = .ok (.ineg, 1) := by decide +kernel
theorem dX12_distance_54 : decode cX12_distance 54 = .ok (.goto 5, 3) := by decide +kernel
theorem dX12_distance_57 : decode cX12_distance 57 = .ok (.iload 6, 2) := by decide +kernel
theorem dX12_distance_59 : decode cX12_distance 59 = .ok (.imul, 1) := by decide +kernel
theorem dX12_distance_60 : decode cX12_distance 60 = .ok (.iadd, 1) := by decide +kernel
theorem dX12_distance_61 : decode cX12_distance 61 = .ok (.istore_n 3, 1) := by decide +kernel
theorem dX12_distance_62 : decode cX12_distance 62 = .ok (.iload 4, 2) := by decide +kernel
theorem dX12_distance_64 : decode cX12_distance 64 = .ok (.bipush 10, 2) := by decide +kernel
theorem dX12_distance_66 : decode cX12_distance 66 = .ok (.idiv, 1) := by decide +kernel
theorem dX12_distance_67 : decode cX12_distance 67 = .ok (.istore 4, 2) := by decide +kernel
theorem dX12_distance_69 : decode cX12_distance 69 = .ok (.iinc 5 1, 3) := by decide +kernel
theorem dX12_distance_72 : decode cX12_distance 72 = .ok (.goto (-62), 3) := by decide +kernel
theorem dX12_distance_75 : decode cX12_distance 75 = .ok (.iload_n 3, 1) := by decide +kernel
theorem dX12_distance_76 : decode cX12_distance 76 = .ok (.ireturn, 1) := by decide +kernel
theorem dX12_rated_0 : decode cX12_rated 0 = .ok (.aload_n 0, 1) := by decide +kernel
theorem dX12_rated_1 : decode cX12_rated 1 = .ok (.getfield 269, 3) := by decide +kernel
theorem dX12_rated_4 : decode cX12_rated 4 = .ok (.ifCond .ne 8, 3) := by decide +kernel
theorem dX12_rated_7 : decode cX12_rated 7 = .ok (.aload_n 1, 1) := by decide +kernel
theorem dX12_rated_8 : decode cX12_rated 8 = .ok (.bipush 7, 2) := by decide +kernel
theorem dX12_rated_10 : decode cX12_rated 10 = .ok (.iaload, 1) := by decide +kernel
theorem dX12_rated_11 : decode cX12_rated 11 = .ok (.ireturn, 1) := by decide +kernel
theorem dX12_rated_12 : decode cX12_rated 12 = .ok (.bipush 40, 2) := by decide +kernel
theorem dX12_rated_14 : decode cX12_rated 14 = .ok (.newarray .int, 2) := by decide +kernel
theorem dX12_rated_16 : decode cX12_rated 16 = .ok (.astore_n 2, 1) := by decide +kernel
theorem dX12_rated_17 : decode cX12_rated 17 = .ok (.iconst 0, 1) := by decide +kernel
theorem dX12_rated_18 : decode cX12_rated 18 = .ok (.istore_n 3, 1) := by decide +kernel
theorem dX12_rated_19 : decode cX12_rated 19 = .ok (.iconst 0, 1) := by decide +kernel
theorem dX12_rated_20 : decode cX12_rated 20 = .ok (.istore 4, 2) := by decide +kernel
theorem dX12_rated_22 : decode cX12_rated 22 = .ok (.iload 4, 2) := by decide +kernel
theorem dX12_rated_24 : decode cX12_rated 24 = .ok (.aload_n 0, 1) := by decide +kernel
theorem dX12_rated_25 : decode cX12_rated 25 = .ok (.getfield 269, 3) := by decide +kernel
theorem dX12_rated_28 : decode cX12_rated 28 = .ok (.if_icmp .ge 70, 3) := by decide +kernel
theorem dX12_rated_31 : decode cX12_rated 31 = .ok (.aload_n 0, 1) := by decide +kernel
theorem dX12_rated_32 : decode cX12_rated 32 = .ok (.getfield 55, 3) := by decide +kernel
theorem dX12_rated_35 : decode cX12_rated 35 = .ok (.aload_n 0, 1) := by decide +kernel
theorem dX12_rated_36 : decode cX12_rated 36 = .ok (.getfield 112, 3) := by decide +kernel
theorem dX12_rated_39 : decode cX12_rated 39 = .ok (.iload 4, 2) := by decide +kernel
theorem dX12_rated_41 : decode cX12_rated 41 = .ok (.iaload, 1) := by decide +kernel
theorem dX12_rated_42 : decode cX12_rated 42 = .ok (.iaload, 1) := by decide +kernel
theorem dX12_rated_43 : decode cX12_rated 43 = .ok (.istore 5, 2) := by decide +kernel
theorem dX12_rated_45 : decode cX12_rated 45 = .ok (.iload_n 3, 1) := by decide +kernel
theorem dX12_rated_46 : decode cX12_rated 46 = .ok (.iload 5, 2) := by decide +kernel
theorem dX12_rated_48 : decode cX12_rated 48 = .ok (.iadd, 1) := by decide +kernel
theorem dX12_rated_49 : decode cX12_rated 49 = .ok (.istore_n 3, 1) := by decide +kernel
theorem dX12_rated_50 : decode cX12_rated 50 = .ok (.iload 4, 2) := by decide +kernel
theorem dX12_rated_52 : decode cX12_rated 52 = .ok (.istore 6, 2) := by decide +kernel
theorem dX12_rated_54 : decode cX12_rated 54 = .ok (.iload 6, 2) := by decide +kernel
theorem dX12_rated_56 : decode cX12_rated 56 = .ok (.ifCond .le 30, 3) := by decide +kernel
theorem dX12_rated_59 : decode cX12_rated 59 = .ok (.aload_n 2, 1) := by decide +kernel
theorem dX12_rated_60 : decode cX12_rated 60 = .ok (.iload 6, 2) := by decide +kernel
theorem dX12_rated_62 : decode cX12_rated 62 = .ok (.iconst 1, 1) := by decide +kernel
theorem dX12_rated_63 : decode cX12_rated 63 = .ok (.isub, 1) := by decide +kernel
theorem dX12_rated_64 : decode cX12_rated 64 = .ok (.iaload, 1) := by decide +kernel
theorem dX12_rated_65 : decode cX12_rated 65 = .ok (.iload 5, 2) := by decide +kernel
theorem dX12_rated_67 : decode cX12_rated 67 = .ok (.if_icmp .le 19, 3) := by decide +kernel
theorem dX12_rated_70 : decode cX12_rated 70 = .ok (.aload_n 2, 1) := by decide +kernel
theorem dX12_rated_71 : decode cX12_rated 71 = .ok (.iload 6, 2) := by decide +kernel
theorem dX12_rated_73 : decode cX12_rated 73 = .ok (.aload_n 2, 1) := by decide +kernel
theorem dX12_rated_74 : decode cX12_rated 74 = .ok (.iload 6, 2) := by decide +kernel
theorem dX12_rated_76 : decode cX12_rated 76 = .ok (.iconst 1, 1) := by decide +kernel
theorem dX12_rated_77 : decode cX12_rated 77 = .ok (.isub, 1) := by decide +kernel
theorem dX12_rated_78 : decode cX12_rated 78 = .ok (.iaload, 1) := by decide +kernel
theorem dX12_rated_79 : decode cX12_rated 79 = .ok (.iastore, 1) := by decide +kernel
theorem dX12_rated_80 : decode cX12_rated 80 = .ok (.iinc 6 (-1), 3) := by decide +kernel
theorem dX12_rated_83 : decode cX12_rated 83 = .ok (.goto (-29), 3) := by decide +kernel
theorem dX12_rated_86 : decode cX12_rated 86 = .ok (.aload_n 2, 1) := by decide +kernel
theorem dX12_rated_87 : decode cX12_rated 87 = .ok (.iload 6, 2) := by decide +kernel
theorem dX12_rated_89 : decode cX12_rated 89 = .ok (.iload 5, 2) := by decide +kernel
theorem dX12_rated_91 : decode cX12_rated 91 = .ok (.iastore, 1) := by decide +kernel
theorem dX12_rated_92 : decode cX12_rated 92 = .ok (.iinc 4 1, 3) := by decide +kernel
theorem dX12_rated_95 : decode cX12_rated 95 = .ok (.goto (-73), 3) := by decide +kernel
theorem dX12_rated_98 : decode cX12_rated 98 = .ok (.aload_n 1, 1) := by decide +kernel
theorem dX12_rated_99 : decode cX12_rated 99 = .ok (.bipush 6, 2) := by decide +kernel
theorem dX12_rated_101 : decode cX12_rated 101 = .ok (.iaload, 1) := by decide +kernel
theorem dX12_rated_102 : decode cX12_rated 102 = .ok (.ifCond .ne 9, 3) := by decide +kernel
theorem dX12_rated_105 : decode cX12_rated 105 = .ok (.aload_n 2, 1) := by decide +kernel
theorem dX12_rated_106 : decode cX12_rated 106 = .ok (.iconst 0, 1) := by decide +kernel
theorem dX12_rated_107 : decode cX12_rated 107 = .ok (.iaload, 1) := by decide +kernel
theorem dX12_rated_108 : decode cX12_rated 108 = .ok (.goto 49, 3) := by decide +kernel
theorem dX12_rated_111 : decode cX12_rated 111 = .ok (.aload_n 1, 1) := by decide +kernel
theorem dX12_rated_112 : decode cX12_rated 112 = .ok (.bipush 6, 2) := by decide +kernel
theorem dX12_rated_114 : decode cX12_rated 114 = .ok (.iaload, 1) := by decide +kernel
theorem dX12_rated_115 : decode cX12_rated 115 = .ok (.iconst 1, 1) := by decide +kernel
theorem dX12_rated_116 : decode cX12_rated 116 = .ok (.if_icmp .ne 16, 3) := by decide +kernel
theorem dX12_rated_119 : decode cX12_rated 119 = .ok (.aload_n 2, 1) := by decide +kernel
theorem dX12_rated_120 : decode cX12_rated 120 = .ok (.aload_n 0, 1) := by decide +kernel
theorem dX12_rated_121 : decode cX12_rated 121 = .ok (.getfield 269, 3) := by decide +kernel
theorem dX12_rated_124 : decode cX12_rated 124 = .ok (.iconst 1, 1) := by decide +kernel
theorem dX12_rated_125 : decode cX12_rated 125 = .ok (.isub, 1) := by decide +kernel
theorem dX12_rated_126 : decode cX12_rated 126 = .ok (.iconst 2, 1) := by decide +kernel
theorem dX12_rated_127 : decode cX12_rated 127 = .ok (.idiv, 1) := by decide +kernel
theorem dX12_rated_128 : decode cX12_rated 128 = .ok (.iaload, 1) := by decide +kernel
theorem dX12_rated_129 : decode cX12_rated 129 = .ok (.goto 28, 3) := by decide +kernel
theorem dX12_rated_132 : decode cX12_rated 132 = .ok (.aload_n 1, 1) := by decide +kernel
theorem dX12_rated_133 : decode cX12_rated 133 = .ok (.bipush 6, 2) := by decide +kernel
theorem dX12_rated_135 : decode cX12_rated 135 = .ok (.iaload, 1) := by decide +kernel
theorem dX12_rated_136 : decode cX12_rated 136 = .ok (.iconst 2, 1) := by decide +kernel
theorem dX12_rated_137 : decode cX12_rated 137 = .ok (.if_icmp .ne 14, 3) := by decide +kernel
theorem dX12_rated_140 : decode cX12_rated 140 = .ok (.aload_n 2, 1) := by decide +kernel
theorem dX12_rated_141 : decode cX12_rated 141 = .ok (.aload_n 0, 1) := by decide +kernel
theorem dX12_rated_142 : decode cX12_rated 142 = .ok (.getfield 269, 3) := by decide +kernel
theorem dX12_rated_145 : decode cX12_rated 145 = .ok (.iconst 1, 1) := by decide +kernel
theorem dX12_rated_146 : decode cX12_rated 146 = .ok (.isub, 1) := by decide +kernel
theorem dX12_rated_147 : decode cX12_rated 147 = .ok (.iaload, 1) := by decide +kernel
theorem dX12_rated_148 : decode cX12_rated 148 = .ok (.goto 9, 3) := by decide +kernel
theorem dX12_rated_151 : decode cX12_rated 151 = .ok (.iload_n 3, 1) := by decide +kernel
theorem dX12_rated_152 : decode cX12_rated 152 = .ok (.aload_n 0, 1) := by decide +kernel
theorem dX12_rated_153 : decode cX12_rated 153 = .ok (.getfield 269, 3) := by decide +kernel
theorem dX12_rated_156 : decode cX12_rated 156 = .ok (.idiv, 1) := by decide +kernel
theorem dX12_rated_157 : decode cX12_rated 157 = .ok (.ireturn, 1) := by decide +kernel
theorem dX12_judge_0 : decode cX12_judge 0 = .ok (.iload_n 1, 1) := by decide +kernel
theorem dX12_judge_1 : decode cX12_judge 1 = .ok (.iconst 0, 1) := by decide +kernel
theorem dX12_judge_2 : decode cX12_judge 2 = .ok (.sipush 5000, 3) := by decide +kernel
theorem dX12_judge_5 : decode cX12_judge 5 = .ok (.invokestatic 131, 3) := by decide +kernel
theorem dX12_judge_8 : decode cX12_judge 8 = .ok (.ifCond .eq 14, 3) := by decide +kernel
theorem dX12_judge_11 : decode cX12_judge 11 = .ok (.iload_n 2, 1) := by decide +kernel
theorem dX12_judge_12 : decode cX12_judge 12 = .ok (.iconst 0, 1) := by decide +kernel
theorem dX12_judge_13 : decode cX12_judge 13 = .ok (.sipush 5000, 3) := by decide +kernel
theorem dX12_judge_16 : decode cX12_judge 16 = .ok (.invokestatic 131, 3) := by decide +kernel
theorem dX12_judge_19 : decode cX12_judge 19 = .ok (.ifCond .ne 5, 3) := by decide +kernel
theorem dX12_judge_22 : decode cX12_judge 22 = .ok (.iconst (-1), 1) := by decide +kernel
theorem dX12_judge_23 : decode cX12_judge 23 = .ok (.ireturn, 1) := by decide +kernel
theorem dX12_judge_24 : decode cX12_judge 24 = .ok (.iconst (-1), 1) := by decide +kernel
theorem dX12_judge_25 : decode cX12_judge 25 = .ok (.istore_n 3, 1) := by decide +kernel
theorem dX12_judge_26 : decode cX12_judge 26 = .ok (.iconst 0, 1) := by decide +kernel
theorem dX12_judge_27 : decode cX12_judge 27 = .ok (.istore 4, 2) := by decide +kernel
theorem dX12_judge_29 : decode cX12_judge 29 = .ok (.iload 4, 2) := by decide +kernel
theorem dX12_judge_31 : decode cX12_judge 31 = .ok (.aload_n 0, 1) := by decide +kernel
theorem dX12_judge_32 : decode cX12_judge 32 = .ok (.getfield 250, 3) := by decide +kernel
theorem dX12_judge_35 : decode cX12_judge 35 = .ok (.if_icmp .ge 55, 3) := by decide +kernel
theorem dX12_judge_38 : decode cX12_judge 38 = .ok (.aload_n 0, 1) := by decide +kernel
theorem dX12_judge_39 : decode cX12_judge 39 = .ok (.getfield 73, 3) := by decide +kernel
theorem dX12_judge_42 : decode cX12_judge 42 = .ok (.iload 4, 2) := by decide +kernel
theorem dX12_judge_44 : decode cX12_judge 44 = .ok (.iaload, 1) := by decide +kernel
theorem dX12_judge_45 : decode cX12_judge 45 = .ok (.iload_n 1, 1) := by decide +kernel
theorem dX12_judge_46 : decode cX12_judge 46 = .ok (.if_icmp .gt 38, 3) := by decide +kernel
theorem dX12_judge_49 : decode cX12_judge 49 = .ok (.aload_n 0, 1) := by decide +kernel
theorem dX12_judge_50 : decode cX12_judge 50 = .ok (.getfield 70, 3) := by decide +kernel
theorem dX12_judge_53 : decode cX12_judge 53 = .ok (.iload 4, 2) := by decide +kernel
theorem dX12_judge_55 : decode cX12_judge 55 = .ok (.iaload, 1) := by decide +kernel
theorem dX12_judge_56 : decode cX12_judge 56 = .ok (.iload_n 2, 1) := by decide +kernel
theorem dX12_judge_57 : decode cX12_judge 57 = .ok (.if_icmp .gt 27, 3) := by decide +kernel
theorem dX12_judge_60 : decode cX12_judge 60 = .ok (.iload_n 3, 1) := by decide +kernel
theorem dX12_judge_61 : decode cX12_judge 61 = .ok (.iconst (-1), 1) := by decide +kernel
theorem dX12_judge_62 : decode cX12_judge 62 = .ok (.if_icmp .eq 19, 3) := by decide +kernel
theorem dX12_judge_65 : decode cX12_judge 65 = .ok (.aload_n 0, 1) := by decide +kernel
theorem dX12_judge_66 : decode cX12_judge 66 = .ok (.getfield 70, 3) := by decide +kernel
theorem dX12_judge_69 : decode cX12_judge 69 = .ok (.iload 4, 2) := by decide +kernel
theorem dX12_judge_71 : decode cX12_judge 71 = .ok (.iaload, 1) := by decide +kernel
theorem dX12_judge_72 : decode cX12_judge 72 = .ok (.aload_n 0, 1) := by decide +kernel
theorem dX12_judge_73 : decode cX12_judge 73 = .ok (.getfield 70, 3) := by decide +kernel
theorem dX12_judge_76 : decode cX12_judge 76 = .ok (.iload_n 3, 1) := by decide +kernel
theorem dX12_judge_77 : decode cX12_judge 77 = .ok (.iaload, 1) := by decide +kernel
theorem dX12_judge_78 : decode cX12_judge 78 = .ok (.if_icmp .lt 6, 3) := by decide +kernel
theorem dX12_judge_81 : decode cX12_judge 81 = .ok (.iload 4, 2) := by decide +kernel
theorem dX12_judge_83 : decode cX12_judge 83 = .ok (.istore_n 3, 1) := by decide +kernel
theorem dX12_judge_84 : decode cX12_judge 84 = .ok (.iinc 4 1, 3) := by decide +kernel
theorem dX12_judge_87 : decode cX12_judge 87 = .ok (.goto (-58), 3) := by decide +kernel
theorem dX12_judge_90 : decode cX12_judge 90 = .ok (.iload_n 3, 1) := by decide +kernel
theorem dX12_judge_91 : decode cX12_judge 91 = .ok (.iconst (-1), 1) := by decide +kernel
theorem dX12_judge_92 : decode cX12_judge 92 = .ok (.if_icmp .ne 5, 3) := by decide +kernel
theorem dX12_judge_95 : decode cX12_judge 95 = .ok (.iconst 1, 1) := by decide +kernel
theorem dX12_judge_96 : decode cX12_judge 96 = .ok (.ireturn, 1) := by decide +kernel
theorem dX12_judge_97 : decode cX12_judge 97 = .ok (.aload_n 0, 1) := by decide +kernel
theorem dX12_judge_98 : decode cX12_judge 98 = .ok (.iconst 1, 1) := by decide +kernel
theorem dX12_judge_99 : decode cX12_judge 99 = .ok (.putfield 272, 3) := by decide +kernel
theorem dX12_judge_102 : decode cX12_judge 102 = .ok (.aload_n 0, 1) := by decide +kernel
theorem dX12_judge_103 : decode cX12_judge 103 = .ok (.iload_n 3, 1) := by decide +kernel
theorem dX12_judge_104 : decode cX12_judge 104 = .ok (.putfield 275, 3) := by decide +kernel
theorem dX12_judge_107 : decode cX12_judge 107 = .ok (.aload_n 0, 1) := by decide +kernel
theorem dX12_judge_108 : decode cX12_judge 108 = .ok (.getfield 78, 3) := by decide +kernel
theorem dX12_judge_111 : decode cX12_judge 111 = .ok (.iload_n 3, 1) := by decide +kernel
theorem dX12_judge_112 : decode cX12_judge 112 = .ok (.aaload, 1) := by decide +kernel
theorem dX12_judge_113 : decode cX12_judge 113 = .ok (.astore 4, 2) := by decide +kernel
theorem dX12_judge_115 : decode cX12_judge 115 = .ok (.aload_n 0, 1) := by decide +kernel
theorem dX12_judge_116 : decode cX12_judge 116 = .ok (.iconst 0, 1) := by decide +kernel
theorem dX12_judge_117 : decode cX12_judge 117 = .ok (.putfield 269, 3) := by decide +kernel
theorem dX12_judge_120 : decode cX12_judge 120 = .ok (.iconst 0, 1) := by decide +kernel
theorem dX12_judge_121 : decode cX12_judge 121 = .ok (.istore 5, 2) := by decide +kernel
theorem dX12_judge_123 : decode cX12_judge 123 = .ok (.iload 5, 2) := by decide +kernel
theorem dX12_judge_125 : decode cX12_judge 125 = .ok (.aload_n 0, 1) := by decide +kernel
theorem dX12_judge_126 : decode cX12_judge 126 = .ok (.getfield 156, 3) := by decide +kernel
theorem dX12_judge_129 : decode cX12_judge 129 = .ok (.if_icmp .ge 112, 3) := by decide +kernel
theorem dX12_judge_132 : decode cX12_judge 132 = .ok (.aload_n 0, 1) := by decide +kernel
theorem dX12_judge_133 : decode cX12_judge 133 = .ok (.getfield 64, 3) := by decide +kernel
theorem dX12_judge_136 : decode cX12_judge 136 = .ok (.iload 5, 2) := by decide +kernel
theorem dX12_judge_138 : decode cX12_judge 138 = .ok (.iaload, 1) := by decide +kernel
theorem dX12_judge_139 : decode cX12_judge 139 = .ok (.iconst (-1), 1) := by decide +kernel
theorem dX12_judge_140 : decode cX12_judge 140 = .ok (.if_icmp .eq 29, 3) := by decide +kernel
theorem dX12_judge_143 : decode cX12_judge 143 = .ok (.aload_n 0, 1) := by decide +kernel
theorem dX12_judge_144 : decode cX12_judge 144 = .ok (.getfield 64, 3) := by decide +kernel
theorem dX12_judge_147 : decode cX12_judge 147 = .ok (.iload 5, 2) := by decide +kernel
theorem dX12_judge_149 : decode cX12_judge 149 = .ok (.iaload, 1) := by decide +kernel
theorem dX12_judge_150 : decode cX12_judge 150 = .ok (.iload_n 2, 1) := by decide +kernel
theorem dX12_judge_151 : decode cX12_judge 151 = .ok (.if_icmp .gt 18, 3) := by decide +kernel
theorem dX12_judge_154 : decode cX12_judge 154 = .ok (.aload_n 0, 1) := by decide +kernel
theorem dX12_judge_155 : decode cX12_judge 155 = .ok (.getfield 67, 3) := by decide +kernel
theorem dX12_judge_158 : decode cX12_judge 158 = .ok (.iload 5, 2) := by decide +kernel
theorem dX12_judge_160 : decode cX12_judge 160 = .ok (.iaload, 1) := by decide +kernel
theorem dX12_judge_161 : decode cX12_judge 161 = .ok (.iload_n 1, 1) := by decide +kernel
theorem dX12_judge_162 : decode cX12_judge 162 = .ok (.if_icmp .gt 7, 3) := by decide +kernel
theorem dX12_judge_165 : decode cX12_judge 165 = .ok (.iconst 1, 1) := by decide +kernel
theorem dX12_judge_166 : decode cX12_judge 166 = .ok (.goto 4, 3) := by decide +kernel
theorem dX12_judge_169 : decode cX12_judge 169 = .ok (.iconst 0, 1) := by decide +kernel
theorem dX12_judge_170 : decode cX12_judge 170 = .ok (.istore 6, 2) := by decide +kernel
theorem dX12_judge_172 : decode cX12_judge 172 = .ok (.aload_n 0, 1) := by decide +kernel
theorem dX12_judge_173 : decode cX12_judge 173 = .ok (.getfield 58, 3) := by decide +kernel
theorem dX12_judge_176 : decode cX12_judge 176 = .ok (.iload 5, 2) := by decide +kernel
theorem dX12_judge_178 : decode cX12_judge 178 = .ok (.iaload, 1) := by decide +kernel
theorem dX12_judge_179 : decode cX12_judge 179 = .ok (.iload_n 2, 1) := by decide +kernel
theorem dX12_judge_180 : decode cX12_judge 180 = .ok (.if_icmp .gt 55, 3) := by decide +kernel
theorem dX12_judge_183 : decode cX12_judge 183 = .ok (.aload_n 0, 1) := by decide +kernel
theorem dX12_judge_184 : decode cX12_judge 184 = .ok (.getfield 61, 3) := by decide +kernel
theorem dX12_judge_187 : decode cX12_judge 187 = .ok (.iload 5, 2) := by decide +kernel
theorem dX12_judge_189 : decode cX12_judge 189 = .ok (.iaload, 1) := by decide +kernel
theorem dX12_judge_190 : decode cX12_judge 190 = .ok (.iload_n 1, 1) := by decide +kernel
theorem dX12_judge_191 : decode cX12_judge 191 = .ok (.if_icmp .gt 44, 3) := by decide +kernel
theorem dX12_judge_194 : decode cX12_judge 194 = .ok (.iload 6, 2) := by decide +kernel
theorem dX12_judge_196 : decode cX12_judge 196 = .ok (.ifCond .ne 39, 3) := by decide +kernel
theorem dX12_judge_199 : decode cX12_judge 199 = .ok (.aload_n 0, 1) := by decide +kernel
theorem dX12_judge_200 : decode cX12_judge 200 = .ok (.iload 5, 2) := by decide +kernel
theorem dX12_judge_202 : decode cX12_judge 202 = .ok (.aload 4, 2) := by decide +kernel
theorem dX12_judge_204 : decode cX12_judge 204 = .ok (.invokevirtual 278, 3) := by decide +kernel
theorem dX12_judge_207 : decode cX12_judge 207 = .ok (.aload 4, 2) := by decide +kernel
theorem dX12_judge_209 : decode cX12_judge 209 = .ok (.iconst 5, 1) := by decide +kernel
theorem dX12_judge_210 : decode cX12_judge 210 = .ok (.iaload, 1) := by decide +kernel
theorem dX12_judge_211 : decode cX12_judge 211 = .ok (.if_icmp .gt 24, 3) := by decide +kernel
theorem dX12_judge_214 : decode cX12_judge 214 = .ok (.aload_n 0, 1) := by decide +kernel
theorem dX12_judge_215 : decode cX12_judge 215 = .ok (.getfield 112, 3) := by decide +kernel
theorem dX12_judge_218 : decode cX12_judge 218 = .ok (.aload_n 0, 1) := by decide +kernel
theorem dX12_judge_219 : decode cX12_judge 219 = .ok (.getfield 269, 3) := by decide +kernel
theorem dX12_judge_222 : decode cX12_judge 222 = .ok (.iload 5, 2) := by decide +kernel
theorem dX12_judge_224 : decode cX12_judge 224 = .ok (.iastore, 1) := by decide +kernel
theorem dX12_judge_225 : decode cX12_judge 225 = .ok (.aload_n 0, 1) := by decide +kernel
theorem dX12_judge_226 : decode cX12_judge 226 = .ok (.dup, 1) := by decide +kernel
theorem dX12_judge_227 : decode cX12_judge 227 = .ok (.getfield 269, 3) := by decide +kernel
theorem dX12_judge_230 : decode cX12_judge 230 = .ok (.iconst 1, 1) := by decide +kernel
theorem dX12_judge_231 : decode cX12_judge 231 = .ok (.iadd, 1) := by decide +kernel
theorem dX12_judge_232 : decode cX12_judge 232 = .ok (.putfield 269, 3) := by decide +kernel
theorem dX12_judge_235 : decode cX12_judge 235 = .ok (.iinc 5 1, 3) := by decide +kernel
theorem dX12_judge_238 : decode cX12_judge 238 = .ok (.goto (-115), 3) := by decide +kernel
theorem dX12_judge_241 : decode cX12_judge 241 = .ok (.aload_n 0, 1) := by decide +kernel
theorem dX12_judge_242 : decode cX12_judge 242 = .ok (.aload 4, 2) := by decide +kernel
theorem dX12_judge_244 : decode cX12_judge 244 = .ok (.invokevirtual 282, 3) := by decide +kernel
theorem dX12_judge_247 : decode cX12_judge 247 = .ok (.aload 4, 2) := by decide +kernel
theorem dX12_judge_249 : decode cX12_judge 249 = .ok (.bipush 8, 2) := by decide +kernel
theorem dX12_judge_251 : decode cX12_judge 251 = .ok (.iaload, 1) := by decide +kernel
theorem dX12_judge_252 : decode cX12_judge 252 = .ok (.aload_n 0, 1) := by decide +kernel
theorem dX12_judge_253 : decode cX12_judge 253 = .ok (.getfield 163, 3) := by decide +kernel
theorem dX12_judge_256 : decode cX12_judge 256 = .ok (.imul, 1) := by decide +kernel
theorem dX12_judge_257 : decode cX12_judge 257 = .ok (.iadd, 1) := by decide +kernel
theorem dX12_judge_258 : decode cX12_judge 258 = .ok (.istore 5, 2) := by decide +kernel
theorem dX12_judge_260 : decode cX12_judge 260 = .ok (.aload_n 0, 1) := by decide +kernel
theorem dX12_judge_261 : decode cX12_judge 261 = .ok (.iload 5, 2) := by decide +kernel
theorem dX12_judge_263 : decode cX12_judge 263 = .ok (.sipush 1000, 3) := by decide +kernel
theorem dX12_judge_266 : decode cX12_judge 266 = .ok (.if_icmp .le 9, 3) := by decide +kernel
theorem dX12_judge_269 : decode cX12_judge 269 = .ok (.sipush 1000, 3) := by decide +kernel
theorem dX12_judge_272 : decode cX12_judge 272 = .ok (.goto 5, 3) := by decide +kernel
theorem dX12_judge_275 : decode cX12_judge 275 = .ok (.iload 5, 2) := by decide +kernel
theorem dX12_judge_277 : decode cX12_judge 277 = .ok (.putfield 286, 3) := by decide +kernel
theorem dX12_judge_280 : decode cX12_judge 280 = .ok (.aload_n 0, 1) := by decide +kernel
theorem dX12_judge_281 : decode cX12_judge 281 = .ok (.lconst 0, 1) := by decide +kernel
theorem dX12_judge_282 : decode cX12_judge 282 = .ok (.putfield 289, 3) := by decide +kernel
theorem dX12_judge_285 : decode cX12_judge 285 = .ok (.iconst 0, 1) := by decide +kernel
theorem dX12_judge_286 : decode cX12_judge 286 = .ok (.istore 6, 2) := by decide +kernel
theorem dX12_judge_288 : decode cX12_judge 288 = .ok (.iload 6, 2) := by decide +kernel
theorem dX12_judge_290 : decode cX12_judge 290 = .ok (.bipush 10, 2) := by decide +kernel
theorem dX12_judge_292 : decode cX12_judge 292 = .ok (.if_icmp .ge 27, 3) := by decide +kernel
theorem dX12_judge_295 : decode cX12_judge 295 = .ok (.aload_n 0, 1) := by decide +kernel
theorem dX12_judge_296 : decode cX12_judge 296 = .ok (.dup, 1) := by decide +kernel
theorem dX12_judge_297 : decode cX12_judge 297 = .ok (.getfield 289, 3) := by decide +kernel
theorem dX12_judge_300 : decode cX12_judge 300 = .ok (.aload_n 0, 1) := by decide +kernel
theorem dX12_judge_301 : decode cX12_judge 301 = .ok (.iload 6, 2) := by decide +kernel
theorem dX12_judge_303 : decode cX12_judge 303 = .ok (.iload_n 1, 1) := by decide +kernel
theorem dX12_judge_304 : decode cX12_judge 304 = .ok (.iload_n 2, 1) := by decide +kernel
theorem dX12_judge_305 : decode cX12_judge 305 = .ok (.invokevirtual 293, 3) := by decide +kernel
theorem dX12_judge_308 : decode cX12_judge 308 = .ok (.i2l, 1) := by decide +kernel
theorem dX12_judge_309 : decode cX12_judge 309 = .ok (.ladd, 1) := by decide +kernel
theorem dX12_judge_310 : decode cX12_judge 310 = .ok (.putfield 289, 3) := by decide +kernel
theorem dX12_judge_313 : decode cX12_judge 313 = .ok (.iinc 6 1, 3) := by decide +kernel
theorem dX12_judge_316 : decode cX12_judge 316 = .ok (.goto (-28), 3) := by decide +kernel
theorem dX12_judge_319 : decode cX12_judge 319 = .ok (.aload_n 0, 1) := by decide +kernel
theorem dX12_judge_320 : decode cX12_judge 320 = .ok (.aload 4, 2) := by decide +kernel
theorem dX12_judge_322 : decode cX12_judge 322 = .ok (.invokevirtual 297, 3) := by decide +kernel
theorem dX12_judge_325 : decode cX12_judge 325 = .ok (.iconst 0, 1) := by decide +kernel
theorem dX12_judge_326 : decode cX12_judge 326 = .ok (.ireturn, 1) := by decide +kernel
theorem dX12_parts_0 : decode cX12_parts 0 = .ok (.aload_n 0, 1) := by decide +kernel
theorem dX12_parts_1 : decode cX12_parts 1 = .ok (.invokevirtual 144, 3) := by decide +kernel
theorem dX12_parts_4 : decode cX12_parts 4 = .ok (.aload_n 0, 1) := by decide +kernel
theorem dX12_parts_5 : decode cX12_parts 5 = .ok (.aload_n 0, 1) := by decide +kernel
theorem dX12_parts_6 : decode cX12_parts 6 = .ok (.getfield 266, 3) := by decide +kernel
theorem dX12_parts_9 : decode cX12_parts 9 = .ok (.putfield 301, 3) := by decide +kernel
theorem dX12_parts_12 : decode cX12_parts 12 = .ok (.lconst 0, 1) := by decide +kernel
theorem dX12_parts_13 : decode cX12_parts 13 = .ok (.lstore_n 2, 1) := by decide +kernel
theorem dX12_parts_14 : decode cX12_parts 14 = .ok (.iconst 0, 1) := by decide +kernel
theorem dX12_parts_15 : decode cX12_parts 15 = .ok (.istore 4, 2) := by decide +kernel
theorem dX12_parts_17 : decode cX12_parts 17 = .ok (.iload 4, 2) := by decide +kernel
theorem dX12_parts_19 : decode cX12_parts 19 = .ok (.aload_n 0, 1) := by decide +kernel
theorem dX12_parts_20 : decode cX12_parts 20 = .ok (.getfield 266, 3) := by decide +kernel
theorem dX12_parts_23 : decode cX12_parts 23 = .ok (.if_icmp .ge 99, 3) := by decide +kernel
theorem dX12_parts_26 : decode cX12_parts 26 = .ok (.aload_n 0, 1) := by decide +kernel
theorem dX12_parts_27 : decode cX12_parts 27 = .ok (.getfield 30, 3) := by decide +kernel
theorem dX12_parts_30 : decode cX12_parts 30 = .ok (.aload_n 0, 1) := by decide +kernel
theorem dX12_parts_31 : decode cX12_parts 31 = .ok (.getfield 94, 3) := by decide +kernel
theorem dX12_parts_34 : decode cX12_parts 34 = .ok (.iload 4, 2) := by decide +kernel
theorem dX12_parts_36 : decode cX12_parts 36 = .ok (.iaload, 1) := by decide +kernel
theorem dX12_parts_37 : decode cX12_parts 37 = .ok (.aaload, 1) := by decide +kernel
theorem dX12_parts_38 : decode cX12_parts 38 = .ok (.aload_n 0, 1) := by decide +kernel
theorem dX12_parts_39 : decode cX12_parts 39 = .ok (.getfield 91, 3) := by decide +kernel
theorem dX12_parts_42 : decode cX12_parts 42 = .ok (.iload 4, 2) := by decide +kernel
theorem dX12_parts_44 : decode cX12_parts 44 = .ok (.iaload, 1) := by decide +kernel
theorem dX12_parts_45 : decode cX12_parts 45 = .ok (.laload, 1) := by decide +kernel
theorem dX12_parts_46 : decode cX12_parts 46 = .ok (.lstore 5, 2) := by decide +kernel
theorem dX12_parts_48 : decode cX12_parts 48 = .ok (.lload 5, 2) := by decide +kernel
theorem dX12_parts_50 : decode cX12_parts 50 = .ok (.ldc2_w 138, 3) := by decide +kernel
theorem dX12_parts_53 : decode cX12_parts 53 = .ok (.lcmp, 1) := by decide +kernel
theorem dX12_parts_54 : decode cX12_parts 54 = .ok (.ifCond .eq 10, 3) := by decide +kernel
theorem dX12_parts_57 : decode cX12_parts 57 = .ok (.lload 5, 2) := by decide +kernel
theorem dX12_parts_59 : decode cX12_parts 59 = .ok (.lconst 0, 1) := by decide +kernel
theorem dX12_parts_60 : decode cX12_parts 60 = .ok (.lcmp, 1) := by decide +kernel
theorem dX12_parts_61 : decode cX12_parts 61 = .ok (.ifCond .le 7, 3) := by decide +kernel
theorem dX12_parts_64 : decode cX12_parts 64 = .ok (.lconst 0, 1) := by decide +kernel
theorem dX12_parts_65 : decode cX12_parts 65 = .ok (.goto 6, 3) := by decide +kernel
theorem dX12_parts_68 : decode cX12_parts 68 = .ok (.lload 5, 2) := by decide +kernel
theorem dX12_parts_70 : decode cX12_parts 70 = .ok (.lneg, 1) := by decide +kernel
theorem dX12_parts_71 : decode cX12_parts 71 = .ok (.lstore 5, 2) := by decide +kernel
theorem dX12_parts_73 : decode cX12_parts 73 = .ok (.aload_n 0, 1) := by decide +kernel
theorem dX12_parts_74 : decode cX12_parts 74 = .ok (.getfield 115, 3) := by decide +kernel
theorem dX12_parts_77 : decode cX12_parts 77 = .ok (.iload 4, 2) := by decide +kernel
theorem dX12_parts_79 : decode cX12_parts 79 = .ok (.aaload, 1) := by decide +kernel
theorem dX12_parts_80 : decode cX12_parts 80 = .ok (.iconst 0, 1) := by decide +kernel
theorem dX12_parts_81 : decode cX12_parts 81 = .ok (.lload 5, 2) := by decide +kernel
theorem dX12_parts_83 : decode cX12_parts 83 = .ok (.lastore, 1) := by decide +kernel
theorem dX12_parts_84 : decode cX12_parts 84 = .ok (.aload_n 0, 1) := by decide +kernel
theorem dX12_parts_85 : decode cX12_parts 85 = .ok (.getfield 115, 3) := by decide +kernel
theorem dX12_parts_88 : decode cX12_parts 88 = .ok (.iload 4, 2) := by decide +kernel
theorem dX12_parts_90 : decode cX12_parts 90 = .ok (.aaload, 1) := by decide +kernel
theorem dX12_parts_91 : decode cX12_parts 91 = .ok (.iconst 1, 1) := by decide +kernel
theorem dX12_parts_92 : decode cX12_parts 92 = .ok (.aload_n 0, 1) := by decide +kernel
theorem dX12_parts_93 : decode cX12_parts 93 = .ok (.getfield 88, 3) := by decide +kernel
theorem dX12_parts_96 : decode cX12_parts 96 = .ok (.iload 4, 2) := by decide +kernel
theorem dX12_parts_98 : decode cX12_parts 98 = .ok (.iaload, 1) := by decide +kernel
theorem dX12_parts_99 : decode cX12_parts 99 = .ok (.i2l, 1) := by decide +kernel
theorem dX12_parts_100 : decode cX12_parts 100 = .ok (.lload 5, 2) := by decide +kernel
theorem dX12_parts_102 : decode cX12_parts 102 = .ok (.lmul, 1) := by decide +kernel
theorem dX12_parts_103 : decode cX12_parts 103 = .ok (.lastore, 1) := by decide +kernel
theorem dX12_parts_104 : decode cX12_parts 104 = .ok (.lload_n 2, 1) := by decide +kernel
theorem dX12_parts_105 : decode cX12_parts 105 = .ok (.aload_n 0, 1) := by decide +kernel
theorem dX12_parts_106 : decode cX12_parts 106 = .ok (.getfield 115, 3) := by decide +kernel
theorem dX12_parts_109 : decode cX12_parts 109 = .ok (.iload 4, 2) := by decide +kernel
theorem dX12_parts_111 : decode cX12_parts 111 = .ok (.aaload, 1) := by decide +kernel
theorem dX12_parts_112 : decode cX12_parts 112 = .ok (.iconst 1, 1) := by decide +kernel
theorem dX12_parts_113 : decode cX12_parts 113 = .ok (.laload, 1) := by decide +kernel
theorem dX12_parts_114 : decode cX12_parts 114 = .ok (.ladd, 1) := by decide +kernel
theorem dX12_parts_115 : decode cX12_parts 115 = .ok (.lstore_n 2, 1) := by decide +kernel
theorem dX12_parts_116 : decode cX12_parts 116 = .ok (.iinc 4 1, 3) := by decide +kernel
theorem dX12_parts_119 : decode cX12_parts 119 = .ok (.goto (-102), 3) := by decide +kernel
theorem dX12_parts_122 : decode cX12_parts 122 = .ok (.aload_n 0, 1) := by decide +kernel
theorem dX12_parts_123 : decode cX12_parts 123 = .ok (.lload_n 2, 1) := by decide +kernel
theorem dX12_parts_124 : decode cX12_parts 124 = .ok (.lconst 0, 1) := by decide +kernel
theorem dX12_parts_125 : decode cX12_parts 125 = .ok (.lcmp, 1) := by decide +kernel
theorem dX12_parts_126 : decode cX12_parts 126 = .ok (.ifCond .ne 7, 3) := by decide +kernel
theorem dX12_parts_129 : decode cX12_parts 129 = .ok (.lconst 0, 1) := by decide +kernel
theorem dX12_parts_130 : decode cX12_parts 130 = .ok (.goto 17, 3) := by decide +kernel
theorem dX12_parts_133 : decode cX12_parts 133 = .ok (.aload_n 0, 1) := by decide +kernel
theorem dX12_parts_134 : decode cX12_parts 134 = .ok (.getfield 289, 3) := by decide +kernel
theorem dX12_parts_137 : decode cX12_parts 137 = .ok (.aload_n 0, 1) := by decide +kernel
theorem dX12_parts_138 : decode cX12_parts 138 = .ok (.getfield 286, 3) := by decide +kernel
theorem dX12_parts_141 : decode cX12_parts 141 = .ok (.i2l, 1) := by decide +kernel
theorem dX12_parts_142 : decode cX12_parts 142 = .ok (.lmul, 1) := by decide +kernel
theorem dX12_parts_143 : decode cX12_parts 143 = .ok (.ldc2_w 304, 3) := by decide +kernel
theorem dX12_parts_146 : decode cX12_parts 146 = .ok (.ldiv, 1) := by decide +kernel
theorem dX12_parts_147 : decode cX12_parts 147 = .ok (.putfield 306, 3) := by decide +kernel
theorem dX12_parts_150 : decode cX12_parts 150 = .ok (.aload_n 0, 1) := by decide +kernel
theorem dX12_parts_151 : decode cX12_parts 151 = .ok (.getfield 306, 3) := by decide +kernel
theorem dX12_parts_154 : decode cX12_parts 154 = .ok (.lstore 4, 2) := by decide +kernel
theorem dX12_parts_156 : decode cX12_parts 156 = .ok (.iconst 0, 1) := by decide +kernel
theorem dX12_parts_157 : decode cX12_parts 157 = .ok (.istore 6, 2) := by decide +kernel
theorem dX12_parts_159 : decode cX12_parts 159 = .ok (.iload 6, 2) := by decide +kernel
theorem dX12_parts_161 : decode cX12_parts 161 = .ok (.aload_n 0, 1) := by decide +kernel
theorem dX12_parts_162 : decode cX12_parts 162 = .ok (.getfield 266, 3) := by decide +kernel
theorem dX12_parts_165 : decode cX12_parts 165 = .ok (.if_icmp .ge 58, 3) := by decide +kernel
theorem dX12_parts_168 : decode cX12_parts 168 = .ok (.aload_n 0, 1) := by decide +kernel
theorem dX12_parts_169 : decode cX12_parts 169 = .ok (.getfield 115, 3) := by decide +kernel
theorem dX12_parts_172 : decode cX12_parts 172 = .ok (.iload 6, 2) := by decide +kernel
theorem dX12_parts_174 : decode cX12_parts 174 = .ok (.aaload, 1) := by decide +kernel
theorem dX12_parts_175 : decode cX12_parts 175 = .ok (.iconst 2, 1) := by decide +kernel
theorem dX12_parts_176 : decode cX12_parts 176 = .ok (.lload_n 2, 1) := by decide +kernel
theorem dX12_parts_177 : decode cX12_parts 177 = .ok (.lconst 0, 1) := by decide +kernel
theorem dX12_parts_178 : decode cX12_parts 178 = .ok (.lcmp, 1) := by decide +kernel
theorem dX12_parts_179 : decode cX12_parts 179 = .ok (.ifCond .ne 7, 3) := by decide +kernel
theorem dX12_parts_182 : decode cX12_parts 182 = .ok (.lconst 0, 1) := by decide +kernel
theorem dX12_parts_183 : decode cX12_parts 183 = .ok (.goto 19, 3) := by decide +kernel
theorem dX12_parts_186 : decode cX12_parts 186 = .ok (.aload_n 0, 1) := by decide +kernel
theorem dX12_parts_187 : decode cX12_parts 187 = .ok (.getfield 306, 3) := by decide +kernel
theorem dX12_parts_190 : decode cX12_parts 190 = .ok (.aload_n 0, 1) := by decide +kernel
theorem dX12_parts_191 : decode cX12_parts 191 = .ok (.getfield 115, 3) := by decide +kernel
theorem dX12_parts_194 : decode cX12_parts 194 = .ok (.iload 6, 2) := by decide +kernel
theorem dX12_parts_196 : decode cX12_parts 196 = .ok (.aaload, 1) := by decide +kernel
theorem dX12_parts_197 : decode cX12_parts 197 = .ok (.iconst 1, 1) := by decide +kernel
theorem dX12_parts_198 : decode cX12_parts 198 = .ok (.laload, 1) := by decide +kernel
theorem dX12_parts_199 : decode cX12_parts 199 = .ok (.lmul, 1) := by decide +kernel
theorem dX12_parts_200 : decode cX12_parts 200 = .ok (.lload_n 2, 1) := by decide +kernel
theorem dX12_parts_201 : decode cX12_parts 201 = .ok (.ldiv, 1) := by decide +kernel
theorem dX12_parts_202 : decode cX12_parts 202 = .ok (.lastore, 1) := by decide +kernel
theorem dX12_parts_203 : decode cX12_parts 203 = .ok (.lload 4, 2) := by decide +kernel
theorem dX12_parts_205 : decode cX12_parts 205 = .ok (.aload_n 0, 1) := by decide +kernel
theorem dX12_parts_206 : decode cX12_parts 206 = .ok (.getfield 115, 3) := by decide +kernel
theorem dX12_parts_209 : decode cX12_parts 209 = .ok (.iload 6, 2) := by decide +kernel
theorem dX12_parts_211 : decode cX12_parts 211 = .ok (.aaload, 1) := by decide +kernel
theorem dX12_parts_212 : decode cX12_parts 212 = .ok (.iconst 2, 1) := by decide +kernel
theorem dX12_parts_213 : decode cX12_parts 213 = .ok (.laload, 1) := by decide +kernel
theorem dX12_parts_214 : decode cX12_parts 214 = .ok (.lsub, 1) := by decide +kernel
theorem dX12_parts_215 : decode cX12_parts 215 = .ok (.lstore 4, 2) := by decide +kernel
theorem dX12_parts_217 : decode cX12_parts 217 = .ok (.iinc 6 1, 3) := by decide +kernel
theorem dX12_parts_220 : decode cX12_parts 220 = .ok (.goto (-61), 3) := by decide +kernel
theorem dX12_parts_223 : decode cX12_parts 223 = .ok (.bipush 8, 2) := by decide +kernel
theorem dX12_parts_225 : decode cX12_parts 225 = .ok (.newarray .boolean, 2) := by decide +kernel
theorem dX12_parts_227 : decode cX12_parts 227 = .ok (.astore 6, 2) := by decide +kernel
theorem dX12_parts_229 : decode cX12_parts 229 = .ok (.lload 4, 2) := by decide +kernel
theorem dX12_parts_231 : decode cX12_parts 231 = .ok (.lconst 0, 1) := by decide +kernel
theorem dX12_parts_232 : decode cX12_parts 232 = .ok (.lcmp, 1) := by decide +kernel
theorem dX12_parts_233 : decode cX12_parts 233 = .ok (.ifCond .le 106, 3) := by decide +kernel
theorem dX12_parts_236 : decode cX12_parts 236 = .ok (.iconst (-1), 1) := by decide +kernel
theorem dX12_parts_237 : decode cX12_parts 237 = .ok (.istore 7, 2) := by decide +kernel
theorem dX12_parts_239 : decode cX12_parts 239 = .ok (.iconst 0, 1) := by decide +kernel
theorem dX12_parts_240 : decode cX12_parts 240 = .ok (.istore 8, 2) := by decide +kernel
theorem dX12_parts_242 : decode cX12_parts 242 = .ok (.iload 8, 2) := by decide +kernel
theorem dX12_parts_244 : decode cX12_parts 244 = .ok (.aload_n 0, 1) := by decide +kernel
theorem dX12_parts_245 : decode cX12_parts 245 = .ok (.getfield 266, 3) := by decide +kernel
theorem dX12_parts_248 : decode cX12_parts 248 = .ok (.if_icmp .ge 63, 3) := by decide +kernel
theorem dX12_parts_251 : decode cX12_parts 251 = .ok (.aload 6, 2) := by decide +kernel
theorem dX12_parts_253 : decode cX12_parts 253 = .ok (.iload 8, 2) := by decide +kernel
theorem dX12_parts_255 : decode cX12_parts 255 = .ok (.baload, 1) := by decide +kernel
theorem dX12_parts_256 : decode cX12_parts 256 = .ok (.ifCond .ne 49, 3) := by decide +kernel
theorem dX12_parts_259 : decode cX12_parts 259 = .ok (.iload 7, 2) := by decide +kernel
theorem dX12_parts_261 : decode cX12_parts 261 = .ok (.iconst (-1), 1) := by decide +kernel
theorem dX12_parts_262 : decode cX12_parts 262 = .ok (.if_icmp .eq 39, 3) := by decide +kernel
theorem dX12_parts_265 : decode cX12_parts 265 = .ok (.aload_n 0, 1) := by decide +kernel
theorem dX12_parts_266 : decode cX12_parts 266 = .ok (.getfield 306, 3) := by decide +kernel
theorem dX12_parts_269 : decode cX12_parts 269 = .ok (.aload_n 0, 1) := by decide +kernel
theorem dX12_parts_270 : decode cX12_parts 270 = .ok (.getfield 115, 3) := by decide +kernel
theorem dX12_parts_273 : decode cX12_parts 273 = .ok (.iload 8, 2) := by decide +kernel
theorem dX12_parts_275 : decode cX12_parts 275 = .ok (.aaload, 1) := by decide +kernel
theorem dX12_parts_276 : decode cX12_parts 276 = .ok (.iconst 1, 1) := by decide +kernel
theorem dX12_parts_277 : decode cX12_parts 277 = .ok (.laload, 1) := by decide +kernel
theorem dX12_parts_278 : decode cX12_parts 278 = .ok (.lmul, 1) := by decide +kernel
theorem dX12_parts_279 : decode cX12_parts 279 = .ok (.lload_n 2, 1) := by decide +kernel
theorem dX12_parts_280 : decode cX12_parts 280 = .ok (.lrem, 1) := by decide +kernel
theorem dX12_parts_281 : decode cX12_parts 281 = .ok (.aload_n 0, 1) := by decide +kernel
theorem dX12_parts_282 : decode cX12_parts 282 = .ok (.getfield 306, 3) := by decide +kernel
theorem dX12_parts_285 : decode cX12_parts 285 = .ok (.aload_n 0, 1) := by decide +kernel
theorem dX12_parts_286 : decode cX12_parts 286 = .ok (.getfield 115, 3) := by decide +kernel
theorem dX12_parts_289 : decode cX12_parts 289 = .ok (.iload 7, 2) := by decide +kernel
theorem dX12_parts_291 : decode cX12_parts 291 = .ok (.aaload, 1) := by decide +kernel
theorem dX12_parts_292 : decode cX12_parts 292 = .ok (.iconst 1, 1) := by decide +kernel
theorem dX12_parts_293 : decode cX12_parts 293 = .ok (.laload, 1) := by decide +kernel
theorem dX12_parts_294 : decode cX12_parts 294 = .ok (.lmul, 1) := by decide +kernel
theorem dX12_parts_295 : decode cX12_parts 295 = .ok (.lload_n 2, 1) := by decide +kernel
theorem dX12_parts_296 : decode cX12_parts 296 = .ok (.lrem, 1) := by decide +kernel
theorem dX12_parts_297 : decode cX12_parts 297 = .ok (.lcmp, 1) := by decide +kernel
theorem dX12_parts_298 : decode cX12_parts 298 = .ok (.ifCond .le 7, 3) := by decide +kernel
theorem dX12_parts_301 : decode cX12_parts 301 = .ok (.iload 8, 2) := by decide +kernel
theorem dX12_parts_303 : decode cX12_parts 303 = .ok (.istore 7, 2) := by decide +kernel
theorem dX12_parts_305 : decode cX12_parts 305 = .ok (.iinc 8 1, 3) := by decide +kernel
theorem dX12_parts_308 : decode cX12_parts 308 = .ok (.goto (-66), 3) := by decide +kernel
theorem dX12_parts_311 : decode cX12_parts 311 = .ok (.aload 6, 2) := by decide +kernel
theorem dX12_parts_313 : decode cX12_parts 313 = .ok (.iload 7, 2) := by decide +kernel
theorem dX12_parts_315 : decode cX12_parts 315 = .ok (.iconst 1, 1) := by decide +kernel
theorem dX12_parts_316 : decode cX12_parts 316 = .ok (.bastore, 1) := by decide +kernel
theorem dX12_parts_317 : decode cX12_parts 317 = .ok (.aload_n 0, 1) := by decide +kernel
theorem dX12_parts_318 : decode cX12_parts 318 = .ok (.getfield 115, 3) := by decide +kernel
theorem dX12_parts_321 : decode cX12_parts 321 = .ok (.iload 7, 2) := by decide +kernel
theorem dX12_parts_323 : decode cX12_parts 323 = .ok (.aaload, 1) := by decide +kernel
theorem dX12_parts_324 : decode cX12_parts 324 = .ok (.iconst 2, 1) := by decide +kernel
theorem dX12_parts_325 : decode cX12_parts 325 = .ok (.dup2, 1) := by decide +kernel
theorem dX12_parts_326 : decode cX12_parts 326 = .ok (.laload, 1) := by decide +kernel
theorem dX12_parts_327 : decode cX12_parts 327 = .ok (.lconst 1, 1) := by decide +kernel
theorem dX12_parts_328 : decode cX12_parts 328 = .ok (.ladd, 1) := by decide +kernel
theorem dX12_parts_329 : decode cX12_parts 329 = .ok (.lastore, 1) := by decide +kernel
theorem dX12_parts_330 : decode cX12_parts 330 = .ok (.lload 4, 2) := by decide +kernel
theorem dX12_parts_332 : decode cX12_parts 332 = .ok (.lconst 1, 1) := by decide +kernel
theorem dX12_parts_333 : decode cX12_parts 333 = .ok (.lsub, 1) := by decide +kernel
theorem dX12_parts_334 : decode cX12_parts 334 = .ok (.lstore 4, 2) := by decide +kernel
theorem dX12_parts_336 : decode cX12_parts 336 = .ok (.goto (-107), 3) := by decide +kernel
theorem dX12_parts_339 : decode cX12_parts 339 = .ok (.aload_n 0, 1) := by decide +kernel
theorem dX12_parts_340 : decode cX12_parts 340 = .ok (.lconst 0, 1) := by decide +kernel
theorem dX12_parts_341 : decode cX12_parts 341 = .ok (.putfield 309, 3) := by decide +kernel
theorem dX12_parts_344 : decode cX12_parts 344 = .ok (.iconst 0, 1) := by decide +kernel
theorem dX12_parts_345 : decode cX12_parts 345 = .ok (.istore 7, 2) := by decide +kernel
theorem dX12_parts_347 : decode cX12_parts 347 = .ok (.iload 7, 2) := by decide +kernel
theorem dX12_parts_349 : decode cX12_parts 349 = .ok (.aload_n 0, 1) := by decide +kernel
theorem dX12_parts_350 : decode cX12_parts 350 = .ok (.getfield 266, 3) := by decide +kernel
theorem dX12_parts_353 : decode cX12_parts 353 = .ok (.if_icmp .ge 16, 3) := by decide +kernel
theorem dX12_parts_356 : decode cX12_parts 356 = .ok (.aload_n 0, 1) := by decide +kernel
theorem dX12_parts_357 : decode cX12_parts 357 = .ok (.iload 7, 2) := by decide +kernel
theorem dX12_parts_359 : decode cX12_parts 359 = .ok (.aload_n 1, 1) := by decide +kernel
theorem dX12_parts_360 : decode cX12_parts 360 = .ok (.invokevirtual 312, 3) := by decide +kernel
theorem dX12_parts_363 : decode cX12_parts 363 = .ok (.iinc 7 1, 3) := by decide +kernel
theorem dX12_parts_366 : decode cX12_parts 366 = .ok (.goto (-19), 3) := by decide +kernel
theorem dX12_parts_369 : decode cX12_parts 369 = .ok (.return_, 1) := by decide +kernel
theorem dX12_aboard_0 : decode cX12_aboard 0 = .ok (.aload_n 0, 1) := by decide +kernel
theorem dX12_aboard_1 : decode cX12_aboard 1 = .ok (.getfield 97, 3) := by decide +kernel
theorem dX12_aboard_4 : decode cX12_aboard 4 = .ok (.iload_n 1, 1) := by decide +kernel
theorem dX12_aboard_5 : decode cX12_aboard 5 = .ok (.iaload, 1) := by decide +kernel
theorem dX12_aboard_6 : decode cX12_aboard 6 = .ok (.aload_n 2, 1) := by decide +kernel
theorem dX12_aboard_7 : decode cX12_aboard 7 = .ok (.bipush 10, 2) := by decide +kernel
theorem dX12_aboard_9 : decode cX12_aboard 9 = .ok (.iaload, 1) := by decide +kernel
theorem dX12_aboard_10 : decode cX12_aboard 10 = .ok (.if_icmp .le 27, 3) := by decide +kernel
theorem dX12_aboard_13 : decode cX12_aboard 13 = .ok (.aload_n 0, 1) := by decide +kernel
theorem dX12_aboard_14 : decode cX12_aboard 14 = .ok (.getfield 97, 3) := by decide +kernel
theorem dX12_aboard_17 : decode cX12_aboard 17 = .ok (.iload_n 1, 1) := by decide +kernel
theorem dX12_aboard_18 : decode cX12_aboard 18 = .ok (.iaload, 1) := by decide +kernel
theorem dX12_aboard_19 : decode cX12_aboard 19 = .ok (.aload_n 2, 1) := by decide +kernel
theorem dX12_aboard_20 : decode cX12_aboard 20 = .ok (.bipush 10, 2) := by decide +kernel
theorem dX12_aboard_22 : decode cX12_aboard 22 = .ok (.iaload, 1) := by decide +kernel
theorem dX12_aboard_23 : decode cX12_aboard 23 = .ok (.isub, 1) := by decide +kernel
theorem dX12_aboard_24 : decode cX12_aboard 24 = .ok (.bipush 30, 2) := by decide +kernel
theorem dX12_aboard_26 : decode cX12_aboard 26 = .ok (.idiv, 1) := by decide +kernel
theorem dX12_aboard_27 : decode cX12_aboard 27 = .ok (.i2l, 1) := by decide +kernel
theorem dX12_aboard_28 : decode cX12_aboard 28 = .ok (.aload_n 2, 1) := by decide +kernel
theorem dX12_aboard_29 : decode cX12_aboard 29 = .ok (.bipush 9, 2) := by decide +kernel
theorem dX12_aboard_31 : decode cX12_aboard 31 = .ok (.iaload, 1) := by decide +kernel
theorem dX12_aboard_32 : decode cX12_aboard 32 = .ok (.i2l, 1) := by decide +kernel
theorem dX12_aboard_33 : decode cX12_aboard 33 = .ok (.lmul, 1) := by decide +kernel
theorem dX12_aboard_34 : decode cX12_aboard 34 = .ok (.goto 4, 3) := by decide +kernel
theorem dX12_aboard_37 : decode cX12_aboard 37 = .ok (.lconst 0, 1) := by decide +kernel
theorem dX12_aboard_38 : decode cX12_aboard 38 = .ok (.lstore_n 3, 1) := by decide +kernel
theorem dX12_aboard_39 : decode cX12_aboard 39 = .ok (.aload_n 0, 1) := by decide +kernel
theorem dX12_aboard_40 : decode cX12_aboard 40 = .ok (.getfield 115, 3) := by decide +kernel
theorem dX12_aboard_43 : decode cX12_aboard 43 = .ok (.iload_n 1, 1) := by decide +kernel
theorem dX12_aboard_44 : decode cX12_aboard 44 = .ok (.aaload, 1) := by decide +kernel
theorem dX12_aboard_45 : decode cX12_aboard 45 = .ok (.iconst 2, 1) := by decide +kernel
theorem dX12_aboard_46 : decode cX12_aboard 46 = .ok (.laload, 1) := by decide +kernel
theorem dX12_aboard_47 : decode cX12_aboard 47 = .ok (.lload_n 3, 1) := by decide +kernel
theorem dX12_aboard_48 : decode cX12_aboard 48 = .ok (.ldc2_w 304, 3) := by decide +kernel
theorem dX12_aboard_51 : decode cX12_aboard 51 = .ok (.lcmp, 1) := by decide +kernel
theorem dX12_aboard_52 : decode cX12_aboard 52 = .ok (.ifCond .le 9, 3) := by decide +kernel
theorem dX12_aboard_55 : decode cX12_aboard 55 = .ok (.ldc2_w 304, 3) := by decide +kernel
theorem dX12_aboard_58 : decode cX12_aboard 58 = .ok (.goto 4, 3) := by decide +kernel
theorem dX12_aboard_61 : decode cX12_aboard 61 = .ok (.lload_n 3, 1) := by decide +kernel
theorem dX12_aboard_62 : decode cX12_aboard 62 = .ok (.lmul, 1) := by decide +kernel
theorem dX12_aboard_63 : decode cX12_aboard 63 = .ok (.ldc2_w 304, 3) := by decide +kernel
theorem dX12_aboard_66 : decode cX12_aboard 66 = .ok (.ldiv, 1) := by decide +kernel
theorem dX12_aboard_67 : decode cX12_aboard 67 = .ok (.lstore 5, 2) := by decide +kernel
theorem dX12_aboard_69 : decode cX12_aboard 69 = .ok (.aload_n 0, 1) := by decide +kernel
theorem dX12_aboard_70 : decode cX12_aboard 70 = .ok (.getfield 115, 3) := by decide +kernel
theorem dX12_aboard_73 : decode cX12_aboard 73 = .ok (.iload_n 1, 1) := by decide +kernel
theorem dX12_aboard_74 : decode cX12_aboard 74 = .ok (.aaload, 1) := by decide +kernel
theorem dX12_aboard_75 : decode cX12_aboard 75 = .ok (.iconst 2, 1) := by decide +kernel
theorem dX12_aboard_76 : decode cX12_aboard 76 = .ok (.laload, 1) := by decide +kernel
theorem dX12_aboard_77 : decode cX12_aboard 77 = .ok (.lload 5, 2) := by decide +kernel
theorem dX12_aboard_79 : decode cX12_aboard 79 = .ok (.lsub, 1) := by decide +kernel
theorem dX12_aboard_80 : decode cX12_aboard 80 = .ok (.lstore 7, 2) := by decide +kernel
theorem dX12_aboard_82 : decode cX12_aboard 82 = .ok (.aload_n 0, 1) := by decide +kernel
theorem dX12_aboard_83 : decode cX12_aboard 83 = .ok (.dup, 1) := by decide +kernel
theorem dX12_aboard_84 : decode cX12_aboard 84 = .ok (.getfield 309, 3) := by decide +kernel
theorem dX12_aboard_87 : decode cX12_aboard 87 = .ok (.lload 5, 2) := by decide +kernel
theorem dX12_aboard_89 : decode cX12_aboard 89 = .ok (.ladd, 1) := by decide +kernel
theorem dX12_aboard_90 : decode cX12_aboard 90 = .ok (.putfield 309, 3) := by decide +kernel
theorem dX12_aboard_93 : decode cX12_aboard 93 = .ok (.aload_n 0, 1) := by decide +kernel
theorem dX12_aboard_94 : decode cX12_aboard 94 = .ok (.getfield 115, 3) := by decide +kernel
theorem dX12_aboard_97 : decode cX12_aboard 97 = .ok (.iload_n 1, 1) := by decide +kernel
theorem dX12_aboard_98 : decode cX12_aboard 98 = .ok (.aaload, 1) := by decide +kernel
theorem dX12_aboard_99 : decode cX12_aboard 99 = .ok (.bipush 6, 2) := by decide +kernel
theorem dX12_aboard_101 : decode cX12_aboard 101 = .ok (.lload 5, 2) := by decide +kernel
theorem dX12_aboard_103 : decode cX12_aboard 103 = .ok (.lastore, 1) := by decide +kernel
theorem dX12_aboard_104 : decode cX12_aboard 104 = .ok (.aload_n 0, 1) := by decide +kernel
theorem dX12_aboard_105 : decode cX12_aboard 105 = .ok (.getfield 115, 3) := by decide +kernel
theorem dX12_aboard_108 : decode cX12_aboard 108 = .ok (.iload_n 1, 1) := by decide +kernel
theorem dX12_aboard_109 : decode cX12_aboard 109 = .ok (.aaload, 1) := by decide +kernel
theorem dX12_aboard_110 : decode cX12_aboard 110 = .ok (.iconst 2, 1) := by decide +kernel
theorem dX12_aboard_111 : decode cX12_aboard 111 = .ok (.lload 7, 2) := by decide +kernel
theorem dX12_aboard_113 : decode cX12_aboard 113 = .ok (.lastore, 1) := by decide +kernel
theorem dX12_aboard_114 : decode cX12_aboard 114 = .ok (.aload_n 0, 1) := by decide +kernel
theorem dX12_aboard_115 : decode cX12_aboard 115 = .ok (.getfield 115, 3) := by decide +kernel
theorem dX12_aboard_118 : decode cX12_aboard 118 = .ok (.iload_n 1, 1) := by decide +kernel
theorem dX12_aboard_119 : decode cX12_aboard 119 = .ok (.aaload, 1) := by decide +kernel
theorem dX12_aboard_120 : decode cX12_aboard 120 = .ok (.iconst 3, 1) := by decide +kernel
theorem dX12_aboard_121 : decode cX12_aboard 121 = .ok (.lload 7, 2) := by decide +kernel
theorem dX12_aboard_123 : decode cX12_aboard 123 = .ok (.aload_n 0, 1) := by decide +kernel
theorem dX12_aboard_124 : decode cX12_aboard 124 = .ok (.getfield 100, 3) := by decide +kernel
theorem dX12_aboard_127 : decode cX12_aboard 127 = .ok (.iload_n 1, 1) := by decide +kernel
theorem dX12_aboard_128 : decode cX12_aboard 128 = .ok (.iaload, 1) := by decide +kernel
theorem dX12_aboard_129 : decode cX12_aboard 129 = .ok (.i2l, 1) := by decide +kernel
theorem dX12_aboard_130 : decode cX12_aboard 130 = .ok (.lmul, 1) := by decide +kernel
theorem dX12_aboard_131 : decode cX12_aboard 131 = .ok (.ldc2_w 316, 3) := by decide +kernel
theorem dX12_aboard_134 : decode cX12_aboard 134 = .ok (.ldiv, 1) := by decide +kernel
theorem dX12_aboard_135 : decode cX12_aboard 135 = .ok (.lastore, 1) := by decide +kernel
theorem dX12_aboard_136 : decode cX12_aboard 136 = .ok (.aload_n 0, 1) := by decide +kernel
theorem dX12_aboard_137 : decode cX12_aboard 137 = .ok (.getfield 115, 3) := by decide +kernel
theorem dX12_aboard_140 : decode cX12_aboard 140 = .ok (.iload_n 1, 1) := by decide +kernel
theorem dX12_aboard_141 : decode cX12_aboard 141 = .ok (.aaload, 1) := by decide +kernel
theorem dX12_aboard_142 : decode cX12_aboard 142 = .ok (.iconst 4, 1) := by decide +kernel
theorem dX12_aboard_143 : decode cX12_aboard 143 = .ok (.lload 7, 2) := by decide +kernel
theorem dX12_aboard_145 : decode cX12_aboard 145 = .ok (.aload_n 0, 1) := by decide +kernel
theorem dX12_aboard_146 : decode cX12_aboard 146 = .ok (.getfield 103, 3) := by decide +kernel
theorem dX12_aboard_149 : decode cX12_aboard 149 = .ok (.iload_n 1, 1) := by decide +kernel
theorem dX12_aboard_150 : decode cX12_aboard 150 = .ok (.iaload, 1) := by decide +kernel
theorem dX12_aboard_151 : decode cX12_aboard 151 = .ok (.i2l, 1) := by decide +kernel
theorem dX12_aboard_152 : decode cX12_aboard 152 = .ok (.lmul, 1) := by decide +kernel
theorem dX12_aboard_153 : decode cX12_aboard 153 = .ok (.ldc2_w 316, 3) := by decide +kernel
theorem dX12_aboard_156 : decode cX12_aboard 156 = .ok (.ldiv, 1) := by decide +kernel
theorem dX12_aboard_157 : decode cX12_aboard 157 = .ok (.lastore, 1) := by decide +kernel
theorem dX12_aboard_158 : decode cX12_aboard 158 = .ok (.aload_n 0, 1) := by decide +kernel
theorem dX12_aboard_159 : decode cX12_aboard 159 = .ok (.getfield 115, 3) := by decide +kernel
theorem dX12_aboard_162 : decode cX12_aboard 162 = .ok (.iload_n 1, 1) := by decide +kernel
theorem dX12_aboard_163 : decode cX12_aboard 163 = .ok (.aaload, 1) := by decide +kernel
theorem dX12_aboard_164 : decode cX12_aboard 164 = .ok (.iconst 5, 1) := by decide +kernel
theorem dX12_aboard_165 : decode cX12_aboard 165 = .ok (.lload 7, 2) := by decide +kernel
theorem dX12_aboard_167 : decode cX12_aboard 167 = .ok (.aload_n 0, 1) := by decide +kernel
theorem dX12_aboard_168 : decode cX12_aboard 168 = .ok (.getfield 115, 3) := by decide +kernel
theorem dX12_aboard_171 : decode cX12_aboard 171 = .ok (.iload_n 1, 1) := by decide +kernel
theorem dX12_aboard_172 : decode cX12_aboard 172 = .ok (.aaload, 1) := by decide +kernel
theorem dX12_aboard_173 : decode cX12_aboard 173 = .ok (.iconst 3, 1) := by decide +kernel
theorem dX12_aboard_174 : decode cX12_aboard 174 = .ok (.laload, 1) := by decide +kernel
theorem dX12_aboard_175 : decode cX12_aboard 175 = .ok (.lsub, 1) := by decide +kernel
theorem dX12_aboard_176 : decode cX12_aboard 176 = .ok (.aload_n 0, 1) := by decide +kernel
theorem dX12_aboard_177 : decode cX12_aboard 177 = .ok (.getfield 115, 3) := by decide +kernel
theorem dX12_aboard_180 : decode cX12_aboard 180 = .ok (.iload_n 1, 1) := by decide +kernel
theorem dX12_aboard_181 : decode cX12_aboard 181 = .ok (.aaload, 1) := by decide +kernel
theorem dX12_aboard_182 : decode cX12_aboard 182 = .ok (.iconst 4, 1) := by decide +kernel
theorem dX12_aboard_183 : decode cX12_aboard 183 = .ok (.laload, 1) := by decide +kernel
theorem dX12_aboard_184 : decode cX12_aboard 184 = .ok (.lsub, 1) := by decide +kernel
theorem dX12_aboard_185 : decode cX12_aboard 185 = .ok (.lastore, 1) := by decide +kernel
theorem dX12_aboard_186 : decode cX12_aboard 186 = .ok (.iconst 0, 1) := by decide +kernel
theorem dX12_aboard_187 : decode cX12_aboard 187 = .ok (.istore 9, 2) := by decide +kernel
theorem dX12_aboard_189 : decode cX12_aboard 189 = .ok (.iconst 0, 1) := by decide +kernel
theorem dX12_aboard_190 : decode cX12_aboard 190 = .ok (.istore 10, 2) := by decide +kernel
theorem dX12_aboard_192 : decode cX12_aboard 192 = .ok (.iload 10, 2) := by decide +kernel
theorem dX12_aboard_194 : decode cX12_aboard 194 = .ok (.aload_n 0, 1) := by decide +kernel
theorem dX12_aboard_195 : decode cX12_aboard 195 = .ok (.getfield 106, 3) := by decide +kernel
theorem dX12_aboard_198 : decode cX12_aboard 198 = .ok (.iload_n 1, 1) := by decide +kernel
theorem dX12_aboard_199 : decode cX12_aboard 199 = .ok (.iaload, 1) := by decide +kernel
theorem dX12_aboard_200 : decode cX12_aboard 200 = .ok (.if_icmp .ge 23, 3) := by decide +kernel
theorem dX12_aboard_203 : decode cX12_aboard 203 = .ok (.iload 9, 2) := by decide +kernel
theorem dX12_aboard_205 : decode cX12_aboard 205 = .ok (.aload_n 0, 1) := by decide +kernel
theorem dX12_aboard_206 : decode cX12_aboard 206 = .ok (.getfield 109, 3) := by decide +kernel
theorem dX12_aboard_209 : decode cX12_aboard 209 = .ok (.iload_n 1, 1) := by decide +kernel
theorem dX12_aboard_210 : decode cX12_aboard 210 = .ok (.aaload, 1) := by decide +kernel
theorem dX12_aboard_211 : decode cX12_aboard 211 = .ok (.iload 10, 2) := by decide +kernel
theorem dX12_aboard_213 : decode cX12_aboard 213 = .ok (.iaload, 1) := by decide +kernel
theorem dX12_aboard_214 : decode cX12_aboard 214 = .ok (.iadd, 1) := by decide +kernel
theorem dX12_aboard_215 : decode cX12_aboard 215 = .ok (.istore 9, 2) := by decide +kernel
theorem dX12_aboard_217 : decode cX12_aboard 217 = .ok (.iinc 10 1, 3) := by decide +kernel
theorem dX12_aboard_220 : decode cX12_aboard 220 = .ok (.goto (-28), 3) := by decide +kernel
theorem dX12_aboard_223 : decode cX12_aboard 223 = .ok (.aload_n 0, 1) := by decide +kernel
theorem dX12_aboard_224 : decode cX12_aboard 224 = .ok (.getfield 115, 3) := by decide +kernel
theorem dX12_aboard_227 : decode cX12_aboard 227 = .ok (.iload_n 1, 1) := by decide +kernel
theorem dX12_aboard_228 : decode cX12_aboard 228 = .ok (.aaload, 1) := by decide +kernel
theorem dX12_aboard_229 : decode cX12_aboard 229 = .ok (.iconst 5, 1) := by decide +kernel
theorem dX12_aboard_230 : decode cX12_aboard 230 = .ok (.laload, 1) := by decide +kernel
theorem dX12_aboard_231 : decode cX12_aboard 231 = .ok (.lstore 10, 2) := by decide +kernel
theorem dX12_aboard_233 : decode cX12_aboard 233 = .ok (.iconst 0, 1) := by decide +kernel
theorem dX12_aboard_234 : decode cX12_aboard 234 = .ok (.istore 12, 2) := by decide +kernel
theorem dX12_aboard_236 : decode cX12_aboard 236 = .ok (.iload 12, 2) := by decide +kernel
theorem dX12_aboard_238 : decode cX12_aboard 238 = .ok (.aload_n 0, 1) := by decide +kernel
theorem dX12_aboard_239 : decode cX12_aboard 239 = .ok (.getfield 106, 3) := by decide +kernel
theorem dX12_aboard_242 : decode cX12_aboard 242 = .ok (.iload_n 1, 1) := by decide +kernel
theorem dX12_aboard_243 : decode cX12_aboard 243 = .ok (.iaload, 1) := by decide +kernel
theorem dX12_aboard_244 : decode cX12_aboard 244 = .ok (.if_icmp .ge 55, 3) := by decide +kernel
theorem dX12_aboard_247 : decode cX12_aboard 247 = .ok (.aload_n 0, 1) := by decide +kernel
theorem dX12_aboard_248 : decode cX12_aboard 248 = .ok (.getfield 118, 3) := by decide +kernel
theorem dX12_aboard_251 : decode cX12_aboard 251 = .ok (.iload_n 1, 1) := by decide +kernel
theorem dX12_aboard_252 : decode cX12_aboard 252 = .ok (.aaload, 1) := by decide +kernel
theorem dX12_aboard_253 : decode cX12_aboard 253 = .ok (.iload 12, 2) := by decide +kernel
theorem dX12_aboard_255 : decode cX12_aboard 255 = .ok (.aload_n 0, 1) := by decide +kernel
theorem dX12_aboard_256 : decode cX12_aboard 256 = .ok (.getfield 115, 3) := by decide +kernel
theorem dX12_aboard_259 : decode cX12_aboard 259 = .ok (.iload_n 1, 1) := by decide +kernel
theorem dX12_aboard_260 : decode cX12_aboard 260 = .ok (.aaload, 1) := by decide +kernel
theorem dX12_aboard_261 : decode cX12_aboard 261 = .ok (.iconst 5, 1) := by decide +kernel
theorem dX12_aboard_262 : decode cX12_aboard 262 = .ok (.laload, 1) := by decide +kernel
theorem dX12_aboard_263 : decode cX12_aboard 263 = .ok (.aload_n 0, 1) := by decide +kernel
theorem dX12_aboard_264 : decode cX12_aboard 264 = .ok (.getfield 109, 3) := by decide +kernel
theorem dX12_aboard_267 : decode cX12_aboard 267 = .ok (.iload_n 1, 1) := by decide +kernel
theorem dX12_aboard_268 : decode cX12_aboard 268 = .ok (.aaload, 1) := by decide +kernel
theorem dX12_aboard_269 : decode cX12_aboard 269 = .ok (.iload 12, 2) := by decide +kernel
theorem dX12_aboard_271 : decode cX12_aboard 271 = .ok (.iaload, 1) := by decide +kernel
theorem dX12_aboard_272 : decode cX12_aboard 272 = .ok (.i2l, 1) := by decide +kernel
theorem dX12_aboard_273 : decode cX12_aboard 273 = .ok (.lmul, 1) := by decide +kernel
theorem dX12_aboard_274 : decode cX12_aboard 274 = .ok (.iload 9, 2) := by decide +kernel
theorem dX12_aboard_276 : decode cX12_aboard 276 = .ok (.i2l, 1) := by decide +kernel
theorem dX12_aboard_277 : decode cX12_aboard 277 = .ok (.ldiv, 1) := by decide +kernel
theorem dX12_aboard_278 : decode cX12_aboard 278 = .ok (.lastore, 1) := by decide +kernel
theorem dX12_aboard_279 : decode cX12_aboard 279 = .ok (.lload 10, 2) := by decide +kernel
theorem dX12_aboard_281 : decode cX12_aboard 281 = .ok (.aload_n 0, 1) := by decide +kernel
theorem dX12_aboard_282 : decode cX12_aboard 282 = .ok (.getfield 118, 3) := by decide +kernel
theorem dX12_aboard_285 : decode cX12_aboard 285 = .ok (.iload_n 1, 1) := by decide +kernel
theorem dX12_aboard_286 : decode cX12_aboard 286 = .ok (.aaload, 1) := by decide +kernel
theorem dX12_aboard_287 : decode cX12_aboard 287 = .ok (.iload 12, 2) := by decide +kernel
theorem dX12_aboard_289 : decode cX12_aboard 289 = .ok (.laload, 1) := by decide +kernel
theorem dX12_aboard_290 : decode cX12_aboard 290 = .ok (.lsub, 1) := by decide +kernel
theorem dX12_aboard_291 : decode cX12_aboard 291 = .ok (.lstore 10, 2) := by decide +kernel
theorem dX12_aboard_293 : decode cX12_aboard 293 = .ok (.iinc 12 1, 3) := by decide +kernel
theorem dX12_aboard_296 : decode cX12_aboard 296 = .ok (.goto (-60), 3) := by decide +kernel
theorem dX12_aboard_299 : decode cX12_aboard 299 = .ok (.iconst 0, 1) := by decide +kernel
theorem dX12_aboard_300 : decode cX12_aboard 300 = .ok (.istore 12, 2) := by decide +kernel
theorem dX12_aboard_302 : decode cX12_aboard 302 = .ok (.lload 10, 2) := by decide +kernel
theorem dX12_aboard_304 : decode cX12_aboard 304 = .ok (.lconst 0, 1) := by decide +kernel
theorem dX12_aboard_305 : decode cX12_aboard 305 = .ok (.lcmp, 1) := by decide +kernel
theorem dX12_aboard_306 : decode cX12_aboard 306 = .ok (.ifCond .le 28, 3) := by decide +kernel
theorem dX12_aboard_309 : decode cX12_aboard 309 = .ok (.aload_n 0, 1) := by decide +kernel
theorem dX12_aboard_310 : decode cX12_aboard 310 = .ok (.getfield 118, 3) := by decide +kernel
theorem dX12_aboard_313 : decode cX12_aboard 313 = .ok (.iload_n 1, 1) := by decide +kernel
theorem dX12_aboard_314 : decode cX12_aboard 314 = .ok (.aaload, 1) := by decide +kernel
theorem dX12_aboard_315 : decode cX12_aboard 315 = .ok (.iload 12, 2) := by decide +kernel
theorem dX12_aboard_317 : decode cX12_aboard 317 = .ok (.dup2, 1) := by decide +kernel
theorem dX12_aboard_318 : decode cX12_aboard 318 = .ok (.laload, 1) := by decide +kernel
theorem dX12_aboard_319 : decode cX12_aboard 319 = .ok (.lconst 1, 1) := by decide +kernel
theorem dX12_aboard_320 : decode cX12_aboard 320 = .ok (.ladd, 1) := by decide +kernel
theorem dX12_aboard_321 : decode cX12_aboard 321 = .ok (.lastore, 1) := by decide +kernel
theorem dX12_aboard_322 : decode cX12_aboard 322 = .ok (.lload 10, 2) := by decide +kernel
theorem dX12_aboard_324 : decode cX12_aboard 324 = .ok (.lconst 1, 1) := by decide +kernel
theorem dX12_aboard_325 : decode cX12_aboard 325 = .ok (.lsub, 1) := by decide +kernel
theorem dX12_aboard_326 : decode cX12_aboard 326 = .ok (.lstore 10, 2) := by decide +kernel
theorem dX12_aboard_328 : decode cX12_aboard 328 = .ok (.iinc 12 1, 3) := by decide +kernel
theorem dX12_aboard_331 : decode cX12_aboard 331 = .ok (.goto (-29), 3) := by decide +kernel
theorem dX12_aboard_334 : decode cX12_aboard 334 = .ok (.aload_n 0, 1) := by decide +kernel
theorem dX12_aboard_335 : decode cX12_aboard 335 = .ok (.getfield 121, 3) := by decide +kernel
theorem dX12_aboard_338 : decode cX12_aboard 338 = .ok (.iload_n 1, 1) := by decide +kernel
theorem dX12_aboard_339 : decode cX12_aboard 339 = .ok (.aload_n 0, 1) := by decide +kernel
theorem dX12_aboard_340 : decode cX12_aboard 340 = .ok (.getfield 106, 3) := by decide +kernel
theorem dX12_aboard_343 : decode cX12_aboard 343 = .ok (.iload_n 1, 1) := by decide +kernel
theorem dX12_aboard_344 : decode cX12_aboard 344 = .ok (.iaload, 1) := by decide +kernel
theorem dX12_aboard_345 : decode cX12_aboard 345 = .ok (.iastore, 1) := by decide +kernel
theorem dX12_aboard_346 : decode cX12_aboard 346 = .ok (.return_, 1) := by decide +kernel
theorem dX12_judged_0 : decode cX12_judged 0 = .ok (.aload_n 0, 1) := by decide +kernel
theorem dX12_judged_1 : decode cX12_judged 1 = .ok (.getfield 272, 3) := by decide +kernel
theorem dX12_judged_4 : decode cX12_judged 4 = .ok (.ifCond .ne 7, 3) := by decide +kernel
theorem dX12_judged_7 : decode cX12_judged 7 = .ok (.ldc2_w 318, 3) := by decide +kernel
theorem dX12_judged_10 : decode cX12_judged 10 = .ok (.lreturn, 1) := by decide +kernel
theorem dX12_judged_11 : decode cX12_judged 11 = .ok (.iload_n 1, 1) := by decide +kernel
theorem dX12_judged_12 : decode cX12_judged 12 = .ok (.tableswitch 73 0 5 #[40, 46, 52, 58, 63, 68], 40) := by decide +kernel
theorem dX12_judged_52 : decode cX12_judged 52 = .ok (.aload_n 0, 1) := by decide +kernel
theorem dX12_judged_53 : decode cX12_judged 53 = .ok (.getfield 275, 3) := by decide +kernel
theorem dX12_judged_56 : decode cX12_judged 56 = .ok (.i2l, 1) := by decide +kernel
theorem dX12_judged_57 : decode cX12_judged 57 = .ok (.lreturn, 1) := by decide +kernel
theorem dX12_judged_58 : decode cX12_judged 58 = .ok (.aload_n 0, 1) := by decide +kernel
theorem dX12_judged_59 : decode cX12_judged 59 = .ok (.getfield 269, 3) := by decide +kernel
theorem dX12_judged_62 : decode cX12_judged 62 = .ok (.i2l, 1) := by decide +kernel
theorem dX12_judged_63 : decode cX12_judged 63 = .ok (.lreturn, 1) := by decide +kernel
theorem dX12_judged_64 : decode cX12_judged 64 = .ok (.aload_n 0, 1) := by decide +kernel
theorem dX12_judged_65 : decode cX12_judged 65 = .ok (.getfield 286, 3) := by decide +kernel
theorem dX12_judged_68 : decode cX12_judged 68 = .ok (.i2l, 1) := by decide +kernel
theorem dX12_judged_69 : decode cX12_judged 69 = .ok (.lreturn, 1) := by decide +kernel
theorem dX12_judged_70 : decode cX12_judged 70 = .ok (.aload_n 0, 1) := by decide +kernel
theorem dX12_judged_71 : decode cX12_judged 71 = .ok (.getfield 289, 3) := by decide +kernel
theorem dX12_judged_74 : decode cX12_judged 74 = .ok (.lreturn, 1) := by decide +kernel
theorem dX12_judged_75 : decode cX12_judged 75 = .ok (.aload_n 0, 1) := by decide +kernel
theorem dX12_judged_76 : decode cX12_judged 76 = .ok (.getfield 306, 3) := by decide +kernel
theorem dX12_judged_79 : decode cX12_judged 79 = .ok (.lreturn, 1) := by decide +kernel
theorem dX12_judged_80 : decode cX12_judged 80 = .ok (.aload_n 0, 1) := by decide +kernel
theorem dX12_judged_81 : decode cX12_judged 81 = .ok (.getfield 309, 3) := by decide +kernel
theorem dX12_judged_84 : decode cX12_judged 84 = .ok (.lreturn, 1) := by decide +kernel
theorem dX12_judged_85 : decode cX12_judged 85 = .ok (.ldc2_w 318, 3) := by decide +kernel
theorem dX12_judged_88 : decode cX12_judged 88 = .ok (.lreturn, 1) := by decide +kernel
theorem dX12_like_0 : decode cX12_like 0 = .ok (.aload_n 0, 1) := by decide +kernel
theorem dX12_like_1 : decode cX12_like 1 = .ok (.getfield 272, 3) := by decide +kernel
theorem dX12_like_4 : decode cX12_like 4 = .ok (.ifCond .eq 26, 3) := by decide +kernel
theorem dX12_like_7 : decode cX12_like 7 = .ok (.iload_n 1, 1) := by decide +kernel
theorem dX12_like_8 : decode cX12_like 8 = .ok (.iconst 0, 1) := by decide +kernel
theorem dX12_like_9 : decode cX12_like 9 = .ok (.aload_n 0, 1) := by decide +kernel
theorem dX12_like_10 : decode cX12_like 10 = .ok (.getfield 269, 3) := by decide +kernel
theorem dX12_like_13 : decode cX12_like 13 = .ok (.iconst 1, 1) := by decide +kernel
theorem dX12_like_14 : decode cX12_like 14 = .ok (.isub, 1) := by decide +kernel
theorem dX12_like_15 : decode cX12_like 15 = .ok (.invokestatic 131, 3) := by decide +kernel
theorem dX12_like_18 : decode cX12_like 18 = .ok (.ifCond .eq 12, 3) := by decide +kernel
theorem dX12_like_21 : decode cX12_like 21 = .ok (.aload_n 0, 1) := by decide +kernel
theorem dX12_like_22 : decode cX12_like 22 = .ok (.getfield 112, 3) := by decide +kernel
theorem dX12_like_25 : decode cX12_like 25 = .ok (.iload_n 1, 1) := by decide +kernel
theorem dX12_like_26 : decode cX12_like 26 = .ok (.iaload, 1) := by decide +kernel
theorem dX12_like_27 : decode cX12_like 27 = .ok (.goto 4, 3) := by decide +kernel
theorem dX12_like_30 : decode cX12_like 30 = .ok (.iconst (-1), 1) := by decide +kernel
theorem dX12_like_31 : decode cX12_like 31 = .ok (.ireturn, 1) := by decide +kernel
theorem dX12_share_0 : decode cX12_share 0 = .ok (.aload_n 0, 1) := by decide +kernel
theorem dX12_share_1 : decode cX12_share 1 = .ok (.getfield 272, 3) := by decide +kernel
theorem dX12_share_4 : decode cX12_share 4 = .ok (.ifCond .eq 38, 3) := by decide +kernel
theorem dX12_share_7 : decode cX12_share 7 = .ok (.iload_n 1, 1) := by decide +kernel
theorem dX12_share_8 : decode cX12_share 8 = .ok (.iconst 0, 1) := by decide +kernel
theorem dX12_share_9 : decode cX12_share 9 = .ok (.aload_n 0, 1) := by decide +kernel
theorem dX12_share_10 : decode cX12_share 10 = .ok (.getfield 301, 3) := by decide +kernel
theorem dX12_share_13 : decode cX12_share 13 = .ok (.iconst 1, 1) := by decide +kernel
theorem dX12_share_14 : decode cX12_share 14 = .ok (.isub, 1) := by decide +kernel
theorem dX12_share_15 : decode cX12_share 15 = .ok (.invokestatic 131, 3) := by decide +kernel
theorem dX12_share_18 : decode cX12_share 18 = .ok (.ifCond .eq 24, 3) := by decide +kernel
theorem dX12_share_21 : decode cX12_share 21 = .ok (.iload_n 2, 1) := by decide +kernel
theorem dX12_share_22 : decode cX12_share 22 = .ok (.iconst 0, 1) := by decide +kernel
theorem dX12_share_23 : decode cX12_share 23 = .ok (.bipush 6, 2) := by decide +kernel
theorem dX12_share_25 : decode cX12_share 25 = .ok (.invokestatic 131, 3) := by decide +kernel
theorem dX12_share_28 : decode cX12_share 28 = .ok (.ifCond .eq 14, 3) := by decide +kernel
theorem dX12_share_31 : decode cX12_share 31 = .ok (.aload_n 0, 1) := by decide +kernel
theorem dX12_share_32 : decode cX12_share 32 = .ok (.getfield 115, 3) := by decide +kernel
theorem dX12_share_35 : decode cX12_share 35 = .ok (.iload_n 1, 1) := by decide +kernel
theorem dX12_share_36 : decode cX12_share 36 = .ok (.aaload, 1) := by decide +kernel
theorem dX12_share_37 : decode cX12_share 37 = .ok (.iload_n 2, 1) := by decide +kernel
theorem dX12_share_38 : decode cX12_share 38 = .ok (.laload, 1) := by decide +kernel
theorem dX12_share_39 : decode cX12_share 39 = .ok (.goto 6, 3) := by decide +kernel
theorem dX12_share_42 : decode cX12_share 42 = .ok (.ldc2_w 318, 3) := by decide +kernel
theorem dX12_share_45 : decode cX12_share 45 = .ok (.lreturn, 1) := by decide +kernel
theorem dX12_hand_0 : decode cX12_hand 0 = .ok (.aload_n 0, 1) := by decide +kernel
theorem dX12_hand_1 : decode cX12_hand 1 = .ok (.getfield 272, 3) := by decide +kernel
theorem dX12_hand_4 : decode cX12_hand 4 = .ok (.ifCond .eq 44, 3) := by decide +kernel
theorem dX12_hand_7 : decode cX12_hand 7 = .ok (.iload_n 1, 1) := by decide +kernel
theorem dX12_hand_8 : decode cX12_hand 8 = .ok (.iconst 0, 1) := by decide +kernel
theorem dX12_hand_9 : decode cX12_hand 9 = .ok (.aload_n 0, 1) := by decide +kernel
theorem dX12_hand_10 : decode cX12_hand 10 = .ok (.getfield 301, 3) := by decide +kernel
theorem dX12_hand_13 : decode cX12_hand 13 = .ok (.iconst 1, 1) := by decide +kernel
theorem dX12_hand_14 : decode cX12_hand 14 = .ok (.isub, 1) := by decide +kernel
theorem dX12_hand_15 : decode cX12_hand 15 = .ok (.invokestatic 131, 3) := by decide +kernel
theorem dX12_hand_18 : decode cX12_hand 18 = .ok (.ifCond .eq 30, 3) := by decide +kernel
theorem dX12_hand_21 : decode cX12_hand 21 = .ok (.iload_n 2, 1) := by decide +kernel
theorem dX12_hand_22 : decode cX12_hand 22 = .ok (.iconst 0, 1) := by decide +kernel
theorem dX12_hand_23 : decode cX12_hand 23 = .ok (.aload_n 0, 1) := by decide +kernel
theorem dX12_hand_24 : decode cX12_hand 24 = .ok (.getfield 121, 3) := by decide +kernel
theorem dX12_hand_27 : decode cX12_hand 27 = .ok (.iload_n 1, 1) := by decide +kernel
theorem dX12_hand_28 : decode cX12_hand 28 = .ok (.iaload, 1) := by decide +kernel
theorem dX12_hand_29 : decode cX12_hand 29 = .ok (.iconst 1, 1) := by decide +kernel
theorem dX12_hand_30 : decode cX12_hand 30 = .ok (.isub, 1) := by decide +kernel
theorem dX12_hand_31 : decode cX12_hand 31 = .ok (.invokestatic 131, 3) := by decide +kernel
theorem dX12_hand_34 : decode cX12_hand 34 = .ok (.ifCond .eq 14, 3) := by decide +kernel
theorem dX12_hand_37 : decode cX12_hand 37 = .ok (.aload_n 0, 1) := by decide +kernel
theorem dX12_hand_38 : decode cX12_hand 38 = .ok (.getfield 118, 3) := by decide +kernel
theorem dX12_hand_41 : decode cX12_hand 41 = .ok (.iload_n 1, 1) := by decide +kernel
theorem dX12_hand_42 : decode cX12_hand 42 = .ok (.aaload, 1) := by decide +kernel
theorem dX12_hand_43 : decode cX12_hand 43 = .ok (.iload_n 2, 1) := by decide +kernel
theorem dX12_hand_44 : decode cX12_hand 44 = .ok (.laload, 1) := by decide +kernel
theorem dX12_hand_45 : decode cX12_hand 45 = .ok (.goto 6, 3) := by decide +kernel
theorem dX12_hand_48 : decode cX12_hand 48 = .ok (.ldc2_w 318, 3) := by decide +kernel
theorem dX12_hand_51 : decode cX12_hand 51 = .ok (.lreturn, 1) := by decide +kernel
theorem dX12_count_0 : decode cX12_count 0 = .ok (.iload_n 1, 1) := by decide +kernel
theorem dX12_count_1 : decode cX12_count 1 = .ok (.tableswitch 123 0 7 #[47, 52, 57, 98, 103, 108, 113, 118], 47) := by decide +kernel
theorem dX12_count_48 : decode cX12_count 48 = .ok (.aload_n 0, 1) := by decide +kernel
theorem dX12_count_49 : decode cX12_count 49 = .ok (.getfield 128, 3) := by decide +kernel
theorem dX12_count_52 : decode cX12_count 52 = .ok (.ireturn, 1) := by decide +kernel
theorem dX12_count_53 : decode cX12_count 53 = .ok (.aload_n 0, 1) := by decide +kernel
theorem dX12_count_54 : decode cX12_count 54 = .ok (.getfield 135, 3) := by decide +kernel
theorem dX12_count_57 : decode cX12_count 57 = .ok (.ireturn, 1) := by decide +kernel
theorem dX12_count_58 : decode cX12_count 58 = .ok (.aload_n 0, 1) := by decide +kernel
theorem dX12_count_59 : decode cX12_count 59 = .ok (.invokevirtual 144, 3) := by decide +kernel
theorem dX12_count_62 : decode cX12_count 62 = .ok (.iconst 0, 1) := by decide +kernel
theorem dX12_count_63 : decode cX12_count 63 = .ok (.istore_n 2, 1) := by decide +kernel
theorem dX12_count_64 : decode cX12_count 64 = .ok (.iconst 0, 1) := by decide +kernel
theorem dX12_count_65 : decode cX12_count 65 = .ok (.istore_n 3, 1) := by decide +kernel
theorem dX12_count_66 : decode cX12_count 66 = .ok (.iload_n 3, 1) := by decide +kernel
theorem dX12_count_67 : decode cX12_count 67 = .ok (.aload_n 0, 1) := by decide +kernel
theorem dX12_count_68 : decode cX12_count 68 = .ok (.getfield 135, 3) := by decide +kernel
theorem dX12_count_71 : decode cX12_count 71 = .ok (.if_icmp .ge 26, 3) := by decide +kernel
theorem dX12_count_74 : decode cX12_count 74 = .ok (.iload_n 2, 1) := by decide +kernel
theorem dX12_count_75 : decode cX12_count 75 = .ok (.aload_n 0, 1) := by decide +kernel
theorem dX12_count_76 : decode cX12_count 76 = .ok (.getfield 33, 3) := by decide +kernel
theorem dX12_count_79 : decode cX12_count 79 = .ok (.iload_n 3, 1) := by decide +kernel
theorem dX12_count_80 : decode cX12_count 80 = .ok (.baload, 1) := by decide +kernel
theorem dX12_count_81 : decode cX12_count 81 = .ok (.ifCond .eq 7, 3) := by decide +kernel
theorem dX12_count_84 : decode cX12_count 84 = .ok (.iconst 1, 1) := by decide +kernel
theorem dX12_count_85 : decode cX12_count 85 = .ok (.goto 4, 3) := by decide +kernel
theorem dX12_count_88 : decode cX12_count 88 = .ok (.iconst 0, 1) := by decide +kernel
theorem dX12_count_89 : decode cX12_count 89 = .ok (.iadd, 1) := by decide +kernel
theorem dX12_count_90 : decode cX12_count 90 = .ok (.istore_n 2, 1) := by decide +kernel
theorem dX12_count_91 : decode cX12_count 91 = .ok (.iinc 3 1, 3) := by decide +kernel
theorem dX12_count_94 : decode cX12_count 94 = .ok (.goto (-28), 3) := by decide +kernel
theorem dX12_count_97 : decode cX12_count 97 = .ok (.iload_n 2, 1) := by decide +kernel
theorem dX12_count_98 : decode cX12_count 98 = .ok (.ireturn, 1) := by decide +kernel
theorem dX12_count_99 : decode cX12_count 99 = .ok (.aload_n 0, 1) := by decide +kernel
theorem dX12_count_100 : decode cX12_count 100 = .ok (.getfield 152, 3) := by decide +kernel
theorem dX12_count_103 : decode cX12_count 103 = .ok (.ireturn, 1) := by decide +kernel
theorem dX12_count_104 : decode cX12_count 104 = .ok (.aload_n 0, 1) := by decide +kernel
theorem dX12_count_105 : decode cX12_count 105 = .ok (.getfield 156, 3) := by decide +kernel
theorem dX12_count_108 : decode cX12_count 108 = .ok (.ireturn, 1) := by decide +kernel
theorem dX12_count_109 : decode cX12_count 109 = .ok (.aload_n 0, 1) := by decide +kernel
theorem dX12_count_110 : decode cX12_count 110 = .ok (.getfield 250, 3) := by decide +kernel
theorem dX12_count_113 : decode cX12_count 113 = .ok (.ireturn, 1) := by decide +kernel
theorem dX12_count_114 : decode cX12_count 114 = .ok (.aload_n 0, 1) := by decide +kernel
theorem dX12_count_115 : decode cX12_count 115 = .ok (.getfield 266, 3) := by decide +kernel
theorem dX12_count_118 : decode cX12_count 118 = .ok (.ireturn, 1) := by decide +kernel
theorem dX12_count_119 : decode cX12_count 119 = .ok (.aload_n 0, 1) := by decide +kernel
theorem dX12_count_120 : decode cX12_count 120 = .ok (.getfield 166, 3) := by decide +kernel
theorem dX12_count_123 : decode cX12_count 123 = .ok (.ireturn, 1) := by decide +kernel
theorem dX12_count_124 : decode cX12_count 124 = .ok (.iconst (-1), 1) := by decide +kernel
theorem dX12_count_125 : decode cX12_count 125 = .ok (.ireturn, 1) := by decide +kernel
end
section
def hFl (own : String) (idx : Nat) (t : String × String × String × Bool) : Prop := Cond.fieldLink own idx t.1 t.2.1 t.2.2.1 ∈ lw_tbl ∨ ∃ host, Cond.fieldLinkNest own idx t.1 t.2.1 t.2.2.1 host ∈ lw_tbl
def hCl (y : MethodName) (bytes : ByteArray) (maxL : Nat) (ret : Option FieldType) (n : Nat) : Prop := Cond.code y bytes maxL ret ∈ lw_tbl ∧ Cond.initialized y.cls ∈ lw_tbl ∧ (y.cls ≠ "java/lang/invoke/MethodHandle" ∧ y.cls ≠ "java/lang/invoke/VarHandle") ∧ (parseMethodDescriptor y.desc).map (fun d => d.parameters.length) = some n
def hLk (own : String) (idx : Nat) (y : MethodName) : Prop := Cond.methodLink own idx y ∈ lw_tbl ∨ ∃ host, Cond.methodLinkNest own idx y host ∈ lw_tbl
def hIv (y : MethodName) : Prop := Cond.instanceMethod y ∈ lw_tbl ∧ Cond.selects y.cls y y ∈ lw_tbl
theorem lclaw_7 : Cond.classLink R_law 7 "SalvageCourt" ∈ lw_tbl := List.mem_of_getElem? (i := 53) (by decide +kernel)
theorem in11 : Cond.instantiable RX11 14 ∈ lw_tbl := List.mem_of_getElem? (i := 54) (by decide +kernel)
theorem lklaw_9 : hLk R_law 9 yX11_init := Or.inl (List.mem_of_getElem? (i := 55) (by decide +kernel))
theorem lo11_1 : Cond.methodLink RX11 1 objectInit ∈ lw_tbl := List.mem_of_getElem? (i := 58) (by decide +kernel)
theorem lc11_7 : Cond.classLink RX11 7 "SalvageCourt$Tale" ∈ lw_tbl := List.mem_of_getElem? (i := 61) (by decide +kernel)
theorem in8 : Cond.instantiable RX8 15 ∈ lw_tbl := List.mem_of_getElem? (i := 62) (by decide +kernel)
theorem lk11_9 : hLk RX11 9 yX8_init := Or.inl (List.mem_of_getElem? (i := 63) (by decide +kernel))
theorem lo8_3 : Cond.methodLink RX8 3 objectInit ∈ lw_tbl := List.mem_of_getElem? (i := 66) (by decide +kernel)
theorem lc8_30 : Cond.classLink RX8 30 "SalvageCourt$Bounds" ∈ lw_tbl := List.mem_of_getElem? (i := 67) (by decide +kernel)
theorem in0 : Cond.instantiable RX0 1 ∈ lw_tbl := List.mem_of_getElem? (i := 68) (by decide +kernel)
theorem lk8_32 : hLk RX8 32 yX0_init := Or.inr ⟨"SalvageCourt", List.mem_of_getElem? (i := 69) (by decide +kernel)⟩
theorem lo0_3 : Cond.methodLink RX0 3 objectInit ∈ lw_tbl := List.mem_of_getElem? (i := 72) (by decide +kernel)
theorem fl0_9 : hFl RX0 9 (TX0 0) := Or.inl (List.mem_of_getElem? (i := 73) (by decide +kernel))
theorem ac_int : Cond.arrayClass .int ∈ lw_tbl := List.mem_of_getElem? (i := 77) (by decide +kernel)
theorem lk8_47 : hLk RX8 47 yJ7_fill_53178 := Or.inl (List.mem_of_getElem? (i := 78) (by decide +kernel))
theorem fl8_9 : hFl RX8 9 (TX8 0) := Or.inl (List.mem_of_getElem? (i := 81) (by decide +kernel))
theorem fl8_15 : hFl RX8 15 (TX8 1) := Or.inl (List.mem_of_getElem? (i := 82) (by decide +kernel))
theorem fl8_18 : hFl RX8 18 (TX8 2) := Or.inl (List.mem_of_getElem? (i := 83) (by decide +kernel))
theorem fl8_21 : hFl RX8 21 (TX8 3) := Or.inl (List.mem_of_getElem? (i := 84) (by decide +kernel))
theorem fl8_24 : hFl RX8 24 (TX8 4) := Or.inl (List.mem_of_getElem? (i := 85) (by decide +kernel))
theorem fl8_27 : hFl RX8 27 (TX8 5) := Or.inl (List.mem_of_getElem? (i := 86) (by decide +kernel))
theorem fl8_57 : hFl RX8 57 (TX8 6) := Or.inl (List.mem_of_getElem? (i := 87) (by decide +kernel))
theorem fl11_290 : hFl RX11 290 (TX8 6) := Or.inr ⟨"SalvageCourt", List.mem_of_getElem? (i := 88) (by decide +kernel)⟩
theorem fl8_33 : hFl RX8 33 (TX8 7) := Or.inl (List.mem_of_getElem? (i := 89) (by decide +kernel))
theorem fl8_37 : hFl RX8 37 (TX8 8) := Or.inl (List.mem_of_getElem? (i := 90) (by decide +kernel))
theorem fl8_71 : hFl RX8 71 (TX8 9) := Or.inl (List.mem_of_getElem? (i := 91) (by decide +kernel))
theorem fl8_53 : hFl RX8 53 (TX8 10) := Or.inl (List.mem_of_getElem? (i := 92) (by decide +kernel))
theorem fl8_41 : hFl RX8 41 (TX8 11) := Or.inl (List.mem_of_getElem? (i := 93) (by decide +kernel))
theorem fl8_44 : hFl RX8 44 (TX8 12) := Or.inl (List.mem_of_getElem? (i := 94) (by decide +kernel))
theorem fl8_84 : hFl RX8 84 (TX8 13) := Or.inl (List.mem_of_getElem? (i := 95) (by decide +kernel))
theorem fl8_61 : hFl RX8 61 (TX8 14) := Or.inl (List.mem_of_getElem? (i := 96) (by decide +kernel))
theorem ac_boolean : Cond.arrayClass .boolean ∈ lw_tbl := List.mem_of_getElem? (i := 128) (by decide +kernel)
theorem lc11_16 : Cond.classLink RX11 16 "SalvageCourt$Goods" ∈ lw_tbl := List.mem_of_getElem? (i := 129) (by decide +kernel)
theorem in3 : Cond.instantiable RX3 4 ∈ lw_tbl := List.mem_of_getElem? (i := 130) (by decide +kernel)
theorem lk11_18 : hLk RX11 18 yX3_init := Or.inr ⟨"SalvageCourt", List.mem_of_getElem? (i := 131) (by decide +kernel)⟩
theorem lo3_3 : Cond.methodLink RX3 3 objectInit ∈ lw_tbl := List.mem_of_getElem? (i := 134) (by decide +kernel)
theorem lc3_18 : Cond.classLink RX3 18 "SalvageCourt$Times" ∈ lw_tbl := List.mem_of_getElem? (i := 135) (by decide +kernel)
theorem in10 : Cond.instantiable RX10 2 ∈ lw_tbl := List.mem_of_getElem? (i := 136) (by decide +kernel)
theorem lk3_20 : hLk RX3 20 yX10_init := Or.inl (List.mem_of_getElem? (i := 137) (by decide +kernel))
theorem lo10_3 : Cond.methodLink RX10 3 objectInit ∈ lw_tbl := List.mem_of_getElem? (i := 140) (by decide +kernel)
theorem lk10_18 : hLk RX10 18 yJ7_fill_53178 := Or.inl (List.mem_of_getElem? (i := 141) (by decide +kernel))
theorem fl10_9 : hFl RX10 9 (TX10 0) := Or.inl (List.mem_of_getElem? (i := 142) (by decide +kernel))
theorem fl10_15 : hFl RX10 15 (TX10 1) := Or.inl (List.mem_of_getElem? (i := 143) (by decide +kernel))
theorem fl3_9 : hFl RX3 9 (TX3 0) := Or.inl (List.mem_of_getElem? (i := 149) (by decide +kernel))
theorem fl3_15 : hFl RX3 15 (TX3 1) := Or.inl (List.mem_of_getElem? (i := 150) (by decide +kernel))
theorem fl3_23 : hFl RX3 23 (TX3 2) := Or.inl (List.mem_of_getElem? (i := 151) (by decide +kernel))
theorem fl3_27 : hFl RX3 27 (TX3 3) := Or.inl (List.mem_of_getElem? (i := 152) (by decide +kernel))
theorem fl11_296 : hFl RX11 296 (TX3 3) := Or.inr ⟨"SalvageCourt", List.mem_of_getElem? (i := 153) (by decide +kernel)⟩
theorem lc11_23 : Cond.classLink RX11 23 "SalvageCourt$Cases" ∈ lw_tbl := List.mem_of_getElem? (i := 163) (by decide +kernel)
theorem in1 : Cond.instantiable RX1 5 ∈ lw_tbl := List.mem_of_getElem? (i := 164) (by decide +kernel)
theorem lk11_25 : hLk RX11 25 yX1_init := Or.inr ⟨"SalvageCourt", List.mem_of_getElem? (i := 165) (by decide +kernel)⟩
theorem lo1_3 : Cond.methodLink RX1 3 objectInit ∈ lw_tbl := List.mem_of_getElem? (i := 168) (by decide +kernel)
theorem lc1_18 : Cond.classLink RX1 18 "SalvageCourt$Times" ∈ lw_tbl := List.mem_of_getElem? (i := 169) (by decide +kernel)
theorem lk1_20 : hLk RX1 20 yX10_init := Or.inl (List.mem_of_getElem? (i := 170) (by decide +kernel))
theorem fl1_9 : hFl RX1 9 (TX1 0) := Or.inl (List.mem_of_getElem? (i := 171) (by decide +kernel))
theorem fl1_15 : hFl RX1 15 (TX1 1) := Or.inl (List.mem_of_getElem? (i := 172) (by decide +kernel))
theorem fl1_23 : hFl RX1 23 (TX1 2) := Or.inl (List.mem_of_getElem? (i := 173) (by decide +kernel))
theorem fl1_27 : hFl RX1 27 (TX1 3) := Or.inl (List.mem_of_getElem? (i := 174) (by decide +kernel))
theorem fl1_30 : hFl RX1 30 (TX1 4) := Or.inl (List.mem_of_getElem? (i := 175) (by decide +kernel))
theorem fl11_297 : hFl RX11 297 (TX1 4) := Or.inr ⟨"SalvageCourt", List.mem_of_getElem? (i := 176) (by decide +kernel)⟩
theorem lc11_30 : Cond.classLink RX11 30 "SalvageCourt$Tape" ∈ lw_tbl := List.mem_of_getElem? (i := 188) (by decide +kernel)
theorem in9 : Cond.instantiable RX9 6 ∈ lw_tbl := List.mem_of_getElem? (i := 189) (by decide +kernel)
theorem lk11_32 : hLk RX11 32 yX9_init := Or.inr ⟨"SalvageCourt", List.mem_of_getElem? (i := 190) (by decide +kernel)⟩
theorem lo9_3 : Cond.methodLink RX9 3 objectInit ∈ lw_tbl := List.mem_of_getElem? (i := 193) (by decide +kernel)
theorem fl9_9 : hFl RX9 9 (TX9 0) := Or.inl (List.mem_of_getElem? (i := 194) (by decide +kernel))
theorem fl9_15 : hFl RX9 15 (TX9 1) := Or.inl (List.mem_of_getElem? (i := 195) (by decide +kernel))
theorem fl11_141 : hFl RX11 141 (TX9 1) := Or.inr ⟨"SalvageCourt", List.mem_of_getElem? (i := 196) (by decide +kernel)⟩
theorem fl9_24 : hFl RX9 24 (TX9 2) := Or.inl (List.mem_of_getElem? (i := 197) (by decide +kernel))
theorem fl9_92 : hFl RX9 92 (TX9 3) := Or.inl (List.mem_of_getElem? (i := 198) (by decide +kernel))
theorem fl9_27 : hFl RX9 27 (TX9 4) := Or.inl (List.mem_of_getElem? (i := 199) (by decide +kernel))
theorem fl9_30 : hFl RX9 30 (TX9 5) := Or.inl (List.mem_of_getElem? (i := 200) (by decide +kernel))
theorem ac_byte : Cond.arrayClass .byte ∈ lw_tbl := List.mem_of_getElem? (i := 214) (by decide +kernel)
theorem lc11_37 : Cond.classLink RX11 37 "SalvageCourt$Law" ∈ lw_tbl := List.mem_of_getElem? (i := 215) (by decide +kernel)
theorem lc11_43 : Cond.classLink RX11 43 "SalvageCourt$Times" ∈ lw_tbl := List.mem_of_getElem? (i := 217) (by decide +kernel)
theorem lk11_45 : hLk RX11 45 yX10_init := Or.inl (List.mem_of_getElem? (i := 218) (by decide +kernel))
theorem lc11_52 : Cond.classLink RX11 52 "SalvageCourt$Crew" ∈ lw_tbl := List.mem_of_getElem? (i := 219) (by decide +kernel)
theorem in2 : Cond.instantiable RX2 3 ∈ lw_tbl := List.mem_of_getElem? (i := 220) (by decide +kernel)
theorem lk11_54 : hLk RX11 54 yX2_init := Or.inr ⟨"SalvageCourt", List.mem_of_getElem? (i := 221) (by decide +kernel)⟩
theorem lo2_3 : Cond.methodLink RX2 3 objectInit ∈ lw_tbl := List.mem_of_getElem? (i := 224) (by decide +kernel)
theorem fl2_9 : hFl RX2 9 (TX2 0) := Or.inl (List.mem_of_getElem? (i := 225) (by decide +kernel))
theorem fl6_76 : hFl RX6 76 (TX2 0) := Or.inr ⟨"SalvageCourt", List.mem_of_getElem? (i := 226) (by decide +kernel)⟩
theorem fl2_15 : hFl RX2 15 (TX2 1) := Or.inl (List.mem_of_getElem? (i := 227) (by decide +kernel))
theorem fl6_67 : hFl RX6 67 (TX2 1) := Or.inr ⟨"SalvageCourt", List.mem_of_getElem? (i := 228) (by decide +kernel)⟩
theorem fl11_170 : hFl RX11 170 (TX2 1) := Or.inr ⟨"SalvageCourt", List.mem_of_getElem? (i := 229) (by decide +kernel)⟩
theorem fl2_19 : hFl RX2 19 (TX2 2) := Or.inl (List.mem_of_getElem? (i := 230) (by decide +kernel))
theorem fl6_73 : hFl RX6 73 (TX2 2) := Or.inr ⟨"SalvageCourt", List.mem_of_getElem? (i := 231) (by decide +kernel)⟩
theorem lc11_59 : Cond.classLink RX11 59 "SalvageCourt$Ship" ∈ lw_tbl := List.mem_of_getElem? (i := 239) (by decide +kernel)
theorem lc11_65 : Cond.classLink RX11 65 "SalvageCourt$Judgement" ∈ lw_tbl := List.mem_of_getElem? (i := 241) (by decide +kernel)
theorem in4 : Cond.instantiable RX4 11 ∈ lw_tbl := List.mem_of_getElem? (i := 242) (by decide +kernel)
theorem lk11_67 : hLk RX11 67 yX4_init := Or.inl (List.mem_of_getElem? (i := 243) (by decide +kernel))
theorem lo4_3 : Cond.methodLink RX4 3 objectInit ∈ lw_tbl := List.mem_of_getElem? (i := 246) (by decide +kernel)
theorem lc4_18 : Cond.classLink RX4 18 "SalvageCourt$Part" ∈ lw_tbl := List.mem_of_getElem? (i := 247) (by decide +kernel)
theorem in6 : Cond.instantiable RX6 10 ∈ lw_tbl := List.mem_of_getElem? (i := 249) (by decide +kernel)
theorem lk4_28 : hLk RX4 28 yX6_init := Or.inr ⟨"SalvageCourt", List.mem_of_getElem? (i := 250) (by decide +kernel)⟩
theorem lo6_3 : Cond.methodLink RX6 3 objectInit ∈ lw_tbl := List.mem_of_getElem? (i := 253) (by decide +kernel)
theorem fl6_9 : hFl RX6 9 (TX6 0) := Or.inl (List.mem_of_getElem? (i := 254) (by decide +kernel))
theorem fl11_283 : hFl RX11 283 (TX6 0) := Or.inr ⟨"SalvageCourt", List.mem_of_getElem? (i := 255) (by decide +kernel)⟩
theorem fl4_55 : hFl RX4 55 (TX6 1) := Or.inr ⟨"SalvageCourt", List.mem_of_getElem? (i := 256) (by decide +kernel)⟩
theorem fl11_262 : hFl RX11 262 (TX6 1) := Or.inr ⟨"SalvageCourt", List.mem_of_getElem? (i := 257) (by decide +kernel)⟩
theorem fl4_61 : hFl RX4 61 (TX6 2) := Or.inr ⟨"SalvageCourt", List.mem_of_getElem? (i := 258) (by decide +kernel)⟩
theorem fl11_267 : hFl RX11 267 (TX6 2) := Or.inr ⟨"SalvageCourt", List.mem_of_getElem? (i := 259) (by decide +kernel)⟩
theorem fl4_78 : hFl RX4 78 (TX6 3) := Or.inr ⟨"SalvageCourt", List.mem_of_getElem? (i := 260) (by decide +kernel)⟩
theorem fl6_27 : hFl RX6 27 (TX6 4) := Or.inl (List.mem_of_getElem? (i := 261) (by decide +kernel))
theorem fl4_75 : hFl RX4 75 (TX6 4) := Or.inr ⟨"SalvageCourt", List.mem_of_getElem? (i := 262) (by decide +kernel)⟩
theorem fl11_270 : hFl RX11 270 (TX6 4) := Or.inr ⟨"SalvageCourt", List.mem_of_getElem? (i := 263) (by decide +kernel)⟩
theorem fl6_40 : hFl RX6 40 (TX6 5) := Or.inl (List.mem_of_getElem? (i := 264) (by decide +kernel))
theorem fl4_97 : hFl RX4 97 (TX6 5) := Or.inr ⟨"SalvageCourt", List.mem_of_getElem? (i := 265) (by decide +kernel)⟩
theorem fl11_279 : hFl RX11 279 (TX6 5) := Or.inr ⟨"SalvageCourt", List.mem_of_getElem? (i := 266) (by decide +kernel)⟩
theorem fl6_50 : hFl RX6 50 (TX6 6) := Or.inl (List.mem_of_getElem? (i := 267) (by decide +kernel))
theorem fl11_273 : hFl RX11 273 (TX6 6) := Or.inr ⟨"SalvageCourt", List.mem_of_getElem? (i := 268) (by decide +kernel)⟩
theorem fl6_55 : hFl RX6 55 (TX6 7) := Or.inl (List.mem_of_getElem? (i := 269) (by decide +kernel))
theorem fl11_275 : hFl RX11 275 (TX6 7) := Or.inr ⟨"SalvageCourt", List.mem_of_getElem? (i := 270) (by decide +kernel)⟩
theorem fl6_57 : hFl RX6 57 (TX6 8) := Or.inl (List.mem_of_getElem? (i := 271) (by decide +kernel))
theorem fl11_277 : hFl RX11 277 (TX6 8) := Or.inr ⟨"SalvageCourt", List.mem_of_getElem? (i := 272) (by decide +kernel)⟩
theorem fl6_72 : hFl RX6 72 (TX6 9) := Or.inl (List.mem_of_getElem? (i := 273) (by decide +kernel))
theorem fl11_282 : hFl RX11 282 (TX6 9) := Or.inr ⟨"SalvageCourt", List.mem_of_getElem? (i := 274) (by decide +kernel)⟩
theorem ac_long : Cond.arrayClass .long ∈ lw_tbl := List.mem_of_getElem? (i := 296) (by decide +kernel)
theorem fl4_9 : hFl RX4 9 (TX4 0) := Or.inl (List.mem_of_getElem? (i := 297) (by decide +kernel))
theorem fl11_205 : hFl RX11 205 (TX4 0) := Or.inr ⟨"SalvageCourt", List.mem_of_getElem? (i := 298) (by decide +kernel)⟩
theorem fl4_15 : hFl RX4 15 (TX4 1) := Or.inl (List.mem_of_getElem? (i := 299) (by decide +kernel))
theorem fl11_216 : hFl RX11 216 (TX4 1) := Or.inr ⟨"SalvageCourt", List.mem_of_getElem? (i := 300) (by decide +kernel)⟩
theorem fl4_20 : hFl RX4 20 (TX4 2) := Or.inl (List.mem_of_getElem? (i := 301) (by decide +kernel))
theorem fl11_258 : hFl RX11 258 (TX4 2) := Or.inr ⟨"SalvageCourt", List.mem_of_getElem? (i := 302) (by decide +kernel)⟩
theorem fl4_24 : hFl RX4 24 (TX4 3) := Or.inl (List.mem_of_getElem? (i := 303) (by decide +kernel))
theorem fl11_202 : hFl RX11 202 (TX4 3) := Or.inr ⟨"SalvageCourt", List.mem_of_getElem? (i := 304) (by decide +kernel)⟩
theorem fl11_213 : hFl RX11 213 (TX4 4) := Or.inr ⟨"SalvageCourt", List.mem_of_getElem? (i := 305) (by decide +kernel)⟩
theorem fl4_67 : hFl RX4 67 (TX4 5) := Or.inl (List.mem_of_getElem? (i := 306) (by decide +kernel))
theorem fl11_227 : hFl RX11 227 (TX4 5) := Or.inr ⟨"SalvageCourt", List.mem_of_getElem? (i := 307) (by decide +kernel)⟩
theorem fl4_64 : hFl RX4 64 (TX4 6) := Or.inl (List.mem_of_getElem? (i := 308) (by decide +kernel))
theorem fl11_234 : hFl RX11 234 (TX4 6) := Or.inr ⟨"SalvageCourt", List.mem_of_getElem? (i := 309) (by decide +kernel)⟩
theorem fl4_72 : hFl RX4 72 (TX4 7) := Or.inl (List.mem_of_getElem? (i := 310) (by decide +kernel))
theorem fl11_251 : hFl RX11 251 (TX4 7) := Or.inr ⟨"SalvageCourt", List.mem_of_getElem? (i := 311) (by decide +kernel)⟩
theorem fl4_87 : hFl RX4 87 (TX4 8) := Or.inl (List.mem_of_getElem? (i := 312) (by decide +kernel))
theorem fl11_254 : hFl RX11 254 (TX4 8) := Or.inr ⟨"SalvageCourt", List.mem_of_getElem? (i := 313) (by decide +kernel)⟩
theorem fl4_29 : hFl RX4 29 (TX4 9) := Or.inl (List.mem_of_getElem? (i := 314) (by decide +kernel))
theorem fl11_257 : hFl RX11 257 (TX4 9) := Or.inr ⟨"SalvageCourt", List.mem_of_getElem? (i := 315) (by decide +kernel)⟩
theorem fl4_32 : hFl RX4 32 (TX4 10) := Or.inl (List.mem_of_getElem? (i := 316) (by decide +kernel))
theorem in5 : Cond.instantiable RX5 7 ∈ lw_tbl := List.mem_of_getElem? (i := 340) (by decide +kernel)
theorem lk11_72 : hLk RX11 72 yX5_init := Or.inr ⟨"SalvageCourt", List.mem_of_getElem? (i := 341) (by decide +kernel)⟩
theorem lo5_3 : Cond.methodLink RX5 3 objectInit ∈ lw_tbl := List.mem_of_getElem? (i := 344) (by decide +kernel)
theorem fl5_9 : hFl RX5 9 (TX5 0) := Or.inl (List.mem_of_getElem? (i := 345) (by decide +kernel))
theorem fl9_88 : hFl RX9 88 (TX5 0) := Or.inr ⟨"SalvageCourt", List.mem_of_getElem? (i := 346) (by decide +kernel)⟩
theorem fl5_21 : hFl RX5 21 (TX5 1) := Or.inl (List.mem_of_getElem? (i := 347) (by decide +kernel))
theorem fl9_61 : hFl RX9 61 (TX5 1) := Or.inr ⟨"SalvageCourt", List.mem_of_getElem? (i := 348) (by decide +kernel)⟩
theorem fl1_55 : hFl RX1 55 (TX5 1) := Or.inr ⟨"SalvageCourt", List.mem_of_getElem? (i := 349) (by decide +kernel)⟩
theorem fl5_25 : hFl RX5 25 (TX5 2) := Or.inl (List.mem_of_getElem? (i := 350) (by decide +kernel))
theorem fl9_66 : hFl RX9 66 (TX5 2) := Or.inr ⟨"SalvageCourt", List.mem_of_getElem? (i := 351) (by decide +kernel)⟩
theorem fl5_28 : hFl RX5 28 (TX5 3) := Or.inl (List.mem_of_getElem? (i := 352) (by decide +kernel))
theorem fl9_69 : hFl RX9 69 (TX5 3) := Or.inr ⟨"SalvageCourt", List.mem_of_getElem? (i := 353) (by decide +kernel)⟩
theorem fl5_31 : hFl RX5 31 (TX5 4) := Or.inl (List.mem_of_getElem? (i := 354) (by decide +kernel))
theorem fl9_72 : hFl RX9 72 (TX5 4) := Or.inr ⟨"SalvageCourt", List.mem_of_getElem? (i := 355) (by decide +kernel)⟩
theorem fl6_33 : hFl RX6 33 (TX5 5) := Or.inr ⟨"SalvageCourt", List.mem_of_getElem? (i := 356) (by decide +kernel)⟩
theorem fl5_34 : hFl RX5 34 (TX5 5) := Or.inl (List.mem_of_getElem? (i := 357) (by decide +kernel))
theorem fl9_75 : hFl RX9 75 (TX5 5) := Or.inr ⟨"SalvageCourt", List.mem_of_getElem? (i := 358) (by decide +kernel)⟩
theorem fl6_15 : hFl RX6 15 (TX5 6) := Or.inr ⟨"SalvageCourt", List.mem_of_getElem? (i := 359) (by decide +kernel)⟩
theorem fl5_37 : hFl RX5 37 (TX5 6) := Or.inl (List.mem_of_getElem? (i := 360) (by decide +kernel))
theorem fl9_80 : hFl RX9 80 (TX5 6) := Or.inr ⟨"SalvageCourt", List.mem_of_getElem? (i := 361) (by decide +kernel)⟩
theorem in7 : Cond.instantiable RX7 7 ∈ lw_tbl := List.mem_of_getElem? (i := 377) (by decide +kernel)
theorem lk11_73 : hLk RX11 73 yX7_init := Or.inr ⟨"SalvageCourt", List.mem_of_getElem? (i := 378) (by decide +kernel)⟩
theorem lo7_1 : Cond.methodLink RX7 1 objectInit ∈ lw_tbl := List.mem_of_getElem? (i := 381) (by decide +kernel)
theorem lc7_7 : Cond.classLink RX7 7 "SalvageCourt$Crew" ∈ lw_tbl := List.mem_of_getElem? (i := 382) (by decide +kernel)
theorem lk7_9 : hLk RX7 9 yX2_init := Or.inr ⟨"SalvageCourt", List.mem_of_getElem? (i := 383) (by decide +kernel)⟩
theorem fl7_10 : hFl RX7 10 (TX7 0) := Or.inl (List.mem_of_getElem? (i := 384) (by decide +kernel))
theorem fl6_60 : hFl RX6 60 (TX7 0) := Or.inr ⟨"SalvageCourt", List.mem_of_getElem? (i := 385) (by decide +kernel)⟩
theorem fl11_191 : hFl RX11 191 (TX7 0) := Or.inr ⟨"SalvageCourt", List.mem_of_getElem? (i := 386) (by decide +kernel)⟩
theorem fl4_58 : hFl RX4 58 (TX7 1) := Or.inr ⟨"SalvageCourt", List.mem_of_getElem? (i := 387) (by decide +kernel)⟩
theorem fl11_173 : hFl RX11 173 (TX7 1) := Or.inr ⟨"SalvageCourt", List.mem_of_getElem? (i := 388) (by decide +kernel)⟩
theorem fl4_36 : hFl RX4 36 (TX7 2) := Or.inr ⟨"SalvageCourt", List.mem_of_getElem? (i := 389) (by decide +kernel)⟩
theorem fl11_176 : hFl RX11 176 (TX7 2) := Or.inr ⟨"SalvageCourt", List.mem_of_getElem? (i := 390) (by decide +kernel)⟩
theorem fl4_41 : hFl RX4 41 (TX7 3) := Or.inr ⟨"SalvageCourt", List.mem_of_getElem? (i := 391) (by decide +kernel)⟩
theorem fl11_179 : hFl RX11 179 (TX7 3) := Or.inr ⟨"SalvageCourt", List.mem_of_getElem? (i := 392) (by decide +kernel)⟩
theorem fl4_90 : hFl RX4 90 (TX7 4) := Or.inr ⟨"SalvageCourt", List.mem_of_getElem? (i := 393) (by decide +kernel)⟩
theorem fl11_182 : hFl RX11 182 (TX7 4) := Or.inr ⟨"SalvageCourt", List.mem_of_getElem? (i := 394) (by decide +kernel)⟩
theorem fl6_43 : hFl RX6 43 (TX7 5) := Or.inr ⟨"SalvageCourt", List.mem_of_getElem? (i := 395) (by decide +kernel)⟩
theorem fl11_185 : hFl RX11 185 (TX7 5) := Or.inr ⟨"SalvageCourt", List.mem_of_getElem? (i := 396) (by decide +kernel)⟩
theorem fl6_52 : hFl RX6 52 (TX7 6) := Or.inr ⟨"SalvageCourt", List.mem_of_getElem? (i := 397) (by decide +kernel)⟩
theorem fl11_188 : hFl RX11 188 (TX7 6) := Or.inr ⟨"SalvageCourt", List.mem_of_getElem? (i := 398) (by decide +kernel)⟩
theorem fl11_10 : hFl RX11 10 (TX11 0) := Or.inl (List.mem_of_getElem? (i := 414) (by decide +kernel))
theorem fl11_19 : hFl RX11 19 (TX11 1) := Or.inl (List.mem_of_getElem? (i := 415) (by decide +kernel))
theorem fl11_26 : hFl RX11 26 (TX11 2) := Or.inl (List.mem_of_getElem? (i := 416) (by decide +kernel))
theorem fl11_33 : hFl RX11 33 (TX11 3) := Or.inl (List.mem_of_getElem? (i := 417) (by decide +kernel))
theorem fl11_39 : hFl RX11 39 (TX11 4) := Or.inl (List.mem_of_getElem? (i := 418) (by decide +kernel))
theorem fl11_48 : hFl RX11 48 (TX11 5) := Or.inl (List.mem_of_getElem? (i := 419) (by decide +kernel))
theorem fl11_55 : hFl RX11 55 (TX11 6) := Or.inl (List.mem_of_getElem? (i := 420) (by decide +kernel))
theorem fl11_61 : hFl RX11 61 (TX11 7) := Or.inl (List.mem_of_getElem? (i := 421) (by decide +kernel))
theorem fl11_68 : hFl RX11 68 (TX11 8) := Or.inl (List.mem_of_getElem? (i := 422) (by decide +kernel))
theorem fl11_74 : hFl RX11 74 (TX11 9) := Or.inl (List.mem_of_getElem? (i := 423) (by decide +kernel))
theorem fl11_135 : hFl RX11 135 (TX11 10) := Or.inl (List.mem_of_getElem? (i := 424) (by decide +kernel))
theorem fl11_138 : hFl RX11 138 (TX11 11) := Or.inl (List.mem_of_getElem? (i := 425) (by decide +kernel))
theorem fl11_147 : hFl RX11 147 (TX11 12) := Or.inl (List.mem_of_getElem? (i := 426) (by decide +kernel))
theorem fl11_167 : hFl RX11 167 (TX11 13) := Or.inl (List.mem_of_getElem? (i := 427) (by decide +kernel))
theorem lklaw_13 : hLk R_law 13 yX11_clock := Or.inl (List.mem_of_getElem? (i := 457) (by decide +kernel))
theorem lk11_78 : hLk RX11 78 yX11_isWithin := Or.inl (List.mem_of_getElem? (i := 461) (by decide +kernel))
theorem lklaw_18 : hLk R_law 18 yX11_trust := Or.inl (List.mem_of_getElem? (i := 464) (by decide +kernel))
theorem lk11_82 : hLk RX11 82 yX8_setTrust := Or.inl (List.mem_of_getElem? (i := 468) (by decide +kernel))
theorem lklaw_23 : hLk R_law 23 yX11_says := Or.inl (List.mem_of_getElem? (i := 472) (by decide +kernel))
theorem lk11_86 : hLk RX11 86 yX11_isThing := Or.inl (List.mem_of_getElem? (i := 476) (by decide +kernel))
theorem lk11_90 : hLk RX11 90 yX8_add := Or.inl (List.mem_of_getElem? (i := 479) (by decide +kernel))
theorem lklaw_28 : hLk R_law 28 yX11_believed := Or.inl (List.mem_of_getElem? (i := 483) (by decide +kernel))
theorem lk11_94 : hLk RX11 94 yX8_has := Or.inl (List.mem_of_getElem? (i := 487) (by decide +kernel))
theorem lk8_64 : hLk RX8 64 yX11_isWithin := Or.inr ⟨"SalvageCourt", List.mem_of_getElem? (i := 491) (by decide +kernel)⟩
theorem lk11_97 : hLk RX11 97 yX8_believes := Or.inl (List.mem_of_getElem? (i := 492) (by decide +kernel))
theorem lk8_68 : hLk RX8 68 yX8_settleBelief := Or.inl (List.mem_of_getElem? (i := 496) (by decide +kernel))
theorem lk8_87 : hLk RX8 87 yX0_clear := Or.inl (List.mem_of_getElem? (i := 500) (by decide +kernel))
theorem kc0_15 : Cond.constant RX0 15 (2147483647) ∈ lw_tbl := List.mem_of_getElem? (i := 504) (by decide +kernel)
theorem lk0_16 : hLk RX0 16 yJ7_fill_53178 := Or.inl (List.mem_of_getElem? (i := 505) (by decide +kernel))
theorem lk8_90 : hLk RX8 90 yX8_takes := Or.inl (List.mem_of_getElem? (i := 506) (by decide +kernel))
theorem lk8_98 : hLk RX8 98 yX0_narrow := Or.inl (List.mem_of_getElem? (i := 510) (by decide +kernel))
theorem lk0_23 : hLk RX0 23 yX0_limit := Or.inl (List.mem_of_getElem? (i := 514) (by decide +kernel))
theorem lklaw_33 : hLk R_law 33 yX11_spans := Or.inl (List.mem_of_getElem? (i := 518) (by decide +kernel))
theorem kc11_100 : Cond.constant RX11 100 (-2147483648) ∈ lw_tbl := List.mem_of_getElem? (i := 522) (by decide +kernel)
theorem lk11_101 : hLk RX11 101 yX8_leastSpan := Or.inl (List.mem_of_getElem? (i := 523) (by decide +kernel))
theorem lk8_74 : hLk RX8 74 yX0_least := Or.inl (List.mem_of_getElem? (i := 527) (by decide +kernel))
theorem kc0_22 : Cond.constant RX0 22 (-2147483648) ∈ lw_tbl := List.mem_of_getElem? (i := 531) (by decide +kernel)
theorem lk11_104 : hLk RX11 104 yX8_greatestSpan := Or.inl (List.mem_of_getElem? (i := 532) (by decide +kernel))
theorem lk8_78 : hLk RX8 78 yX0_greatest := Or.inl (List.mem_of_getElem? (i := 536) (by decide +kernel))
theorem lklaw_38 : hLk R_law 38 yX11_quarrel := Or.inl (List.mem_of_getElem? (i := 540) (by decide +kernel))
theorem lk11_107 : hLk RX11 107 yX8_quarrelSize := Or.inl (List.mem_of_getElem? (i := 544) (by decide +kernel))
theorem lk8_81 : hLk RX8 81 yX8_settleQuarrel := Or.inl (List.mem_of_getElem? (i := 548) (by decide +kernel))
theorem lk8_94 : hLk RX8 94 yX8_firstToBreak := Or.inl (List.mem_of_getElem? (i := 552) (by decide +kernel))
theorem lklaw_43 : hLk R_law 43 yX11_quarrels := Or.inl (List.mem_of_getElem? (i := 556) (by decide +kernel))
theorem lk11_111 : hLk RX11 111 yX8_quarrelling := Or.inl (List.mem_of_getElem? (i := 560) (by decide +kernel))
theorem lklaw_47 : hLk R_law 47 yX11_value := Or.inl (List.mem_of_getElem? (i := 564) (by decide +kernel))
theorem kc11_115 : Cond.constant RX11 115 (1000000) ∈ lw_tbl := List.mem_of_getElem? (i := 568) (by decide +kernel)
theorem lk11_116 : hLk RX11 116 yX11_isGood := Or.inl (List.mem_of_getElem? (i := 569) (by decide +kernel))
theorem lk11_119 : hLk RX11 119 yX11_isDay := Or.inl (List.mem_of_getElem? (i := 572) (by decide +kernel))
theorem lk11_122 : hLk RX11 122 yJ9_max_7cf53 := Or.inl (List.mem_of_getElem? (i := 575) (by decide +kernel))
theorem lk11_127 : hLk RX11 127 yX3_add := Or.inl (List.mem_of_getElem? (i := 578) (by decide +kernel))
theorem lk3_31 : hLk RX3 31 yX10_set := Or.inl (List.mem_of_getElem? (i := 582) (by decide +kernel))
theorem lklaw_52 : hLk R_law 52 yX11_earlier := Or.inl (List.mem_of_getElem? (i := 586) (by decide +kernel))
theorem kc11_130 : Cond.constant RX11 130 (99999) ∈ lw_tbl := List.mem_of_getElem? (i := 590) (by decide +kernel)
theorem lk11_131 : hLk RX11 131 yX1_add := Or.inl (List.mem_of_getElem? (i := 591) (by decide +kernel))
theorem lk1_34 : hLk RX1 34 yX10_set := Or.inl (List.mem_of_getElem? (i := 595) (by decide +kernel))
theorem lklaw_56 : hLk R_law 56 yX11_overrule := Or.inl (List.mem_of_getElem? (i := 596) (by decide +kernel))
theorem lk11_132 : hLk RX11 132 yX1_setOverruled := Or.inl (List.mem_of_getElem? (i := 600) (by decide +kernel))
theorem lk1_38 : hLk RX1 38 yX11_isWithin := Or.inr ⟨"SalvageCourt", List.mem_of_getElem? (i := 604) (by decide +kernel)⟩
theorem lk1_42 : hLk RX1 42 yX10_isSet := Or.inl (List.mem_of_getElem? (i := 605) (by decide +kernel))
theorem lklaw_61 : hLk R_law 61 yX11_suit := Or.inl (List.mem_of_getElem? (i := 609) (by decide +kernel))
theorem lklaw_65 : hLk R_law 65 yX11_feed := Or.inl (List.mem_of_getElem? (i := 613) (by decide +kernel))
theorem lk11_144 : hLk RX11 144 yX9_append := Or.inl (List.mem_of_getElem? (i := 617) (by decide +kernel))
theorem lklaw_69 : hLk R_law 69 yX11_end := Or.inl (List.mem_of_getElem? (i := 621) (by decide +kernel))
theorem lklaw_73 : hLk R_law 73 yX11_law := Or.inl (List.mem_of_getElem? (i := 625) (by decide +kernel))
theorem lk11_150 : hLk RX11 150 yX9_readInto := Or.inl (List.mem_of_getElem? (i := 629) (by decide +kernel))
theorem lk9_19 : hLk RX9 19 yX5_clear := Or.inl (List.mem_of_getElem? (i := 633) (by decide +kernel))
theorem lk5_15 : hLk RX5 15 yJ7_fill_53178 := Or.inl (List.mem_of_getElem? (i := 637) (by decide +kernel))
theorem lk9_33 : hLk RX9 33 yX9_skipBlanks := Or.inl (List.mem_of_getElem? (i := 638) (by decide +kernel))
theorem lk9_36 : hLk RX9 36 yX9_readClause := Or.inl (List.mem_of_getElem? (i := 642) (by decide +kernel))
theorem lk9_46 : hLk RX9 46 yX9_readWord := Or.inl (List.mem_of_getElem? (i := 647) (by decide +kernel))
theorem lk9_95 : hLk RX9 95 yX9_isBetween := Or.inl (List.mem_of_getElem? (i := 651) (by decide +kernel))
theorem lk9_99 : hLk RX9 99 yX9_numberOfWord := Or.inl (List.mem_of_getElem? (i := 654) (by decide +kernel))
theorem lk9_102 : hLk RX9 102 yJ0_length_8abf5 := Or.inl (List.mem_of_getElem? (i := 658) (by decide +kernel))
theorem lkJ0_335 : hLk RJ0 335 yJ0_coder_7d493 := Or.inl (List.mem_of_getElem? (i := 662) (by decide +kernel))
theorem kfJ0_38 : Cond.fieldLink RJ0 38 "java/lang/String" "COMPACT_STRINGS" "Z" ∈ lw_tbl := List.mem_of_getElem? (i := 666) (by decide +kernel)
theorem lk9_107 : hLk RX9 107 yJ0_charAt_5068e := Or.inl (List.mem_of_getElem? (i := 668) (by decide +kernel))
theorem lkJ0_492 : hLk RJ0 492 yJ0_isLatin1_aae02 := Or.inl (List.mem_of_getElem? (i := 672) (by decide +kernel))
theorem lkJ0_495 : hLk RJ0 495 yJ1_charAt_3b067 := Or.inl (List.mem_of_getElem? (i := 676) (by decide +kernel))
theorem lkJ1_9 : hLk RJ1 9 yJ0_checkIndex_df160 := Or.inl (List.mem_of_getElem? (i := 679) (by decide +kernel))
theorem kfJ0_1053 : Cond.fieldLink RJ0 1053 "jdk/internal/util/Preconditions" "SIOOBE_FORMATTER" "Ljava/util/function/BiFunction;" ∈ lw_tbl := List.mem_of_getElem? (i := 682) (by decide +kernel)
theorem lkJ0_1059 : hLk RJ0 1059 yJ3_checkIndex_8e157 := Or.inl (List.mem_of_getElem? (i := 684) (by decide +kernel))
theorem lkJ0_498 : hLk RJ0 498 yJ2_charAt_3b067 := Or.inl (List.mem_of_getElem? (i := 687) (by decide +kernel))
theorem lkJ2_67 : hLk RJ2 67 yJ2_checkIndex_2214a := Or.inl (List.mem_of_getElem? (i := 690) (by decide +kernel))
theorem lkJ2_48 : hLk RJ2 48 yJ2_length_9d52b := Or.inl (List.mem_of_getElem? (i := 693) (by decide +kernel))
theorem lkJ2_414 : hLk RJ2 414 yJ0_checkIndex_df160 := Or.inl (List.mem_of_getElem? (i := 696) (by decide +kernel))
theorem lkJ2_71 : hLk RJ2 71 yJ2_getChar_3b067 := Or.inl (List.mem_of_getElem? (i := 697) (by decide +kernel))
theorem kfJ2_44 : Cond.fieldLink RJ2 44 "java/lang/StringUTF16" "$assertionsDisabled" "Z" ∈ lw_tbl := List.mem_of_getElem? (i := 700) (by decide +kernel)
theorem kfJ2_59 : Cond.fieldLink RJ2 59 "java/lang/StringUTF16" "HI_BYTE_SHIFT" "I" ∈ lw_tbl := List.mem_of_getElem? (i := 702) (by decide +kernel)
theorem kfJ2_63 : Cond.fieldLink RJ2 63 "java/lang/StringUTF16" "LO_BYTE_SHIFT" "I" ∈ lw_tbl := List.mem_of_getElem? (i := 704) (by decide +kernel)
theorem lk9_40 : hLk RX9 40 yX9_refuse := Or.inl (List.mem_of_getElem? (i := 706) (by decide +kernel))
theorem lk9_50 : hLk RX9 50 yX9_tellOnce := Or.inl (List.mem_of_getElem? (i := 710) (by decide +kernel))
theorem lk9_54 : hLk RX9 54 yX9_readWeight := Or.inl (List.mem_of_getElem? (i := 714) (by decide +kernel))
theorem lk9_57 : hLk RX9 57 yX9_readNumber := Or.inl (List.mem_of_getElem? (i := 719) (by decide +kernel))
theorem lk9_83 : hLk RX9 83 yX9_readSemicolon := Or.inl (List.mem_of_getElem? (i := 725) (by decide +kernel))
theorem lk11_154 : hLk RX11 154 yX10_set := Or.inl (List.mem_of_getElem? (i := 729) (by decide +kernel))
theorem lklaw_79 : hLk R_law 79 yX11_sheet := Or.inl (List.mem_of_getElem? (i := 730) (by decide +kernel))
theorem lk11_158 : hLk RX11 158 yX11_handWeight := Or.inl (List.mem_of_getElem? (i := 734) (by decide +kernel))
theorem lk11_162 : hLk RX11 162 yX2_clear := Or.inl (List.mem_of_getElem? (i := 737) (by decide +kernel))
theorem lk11_165 : hLk RX11 165 yX2_add := Or.inl (List.mem_of_getElem? (i := 741) (by decide +kernel))
theorem lklaw_84 : hLk R_law 84 yX11_ship := Or.inl (List.mem_of_getElem? (i := 745) (by decide +kernel))
theorem lk11_194 : hLk RX11 194 yX2_copy := Or.inl (List.mem_of_getElem? (i := 749) (by decide +kernel))
theorem lk2_22 : hLk RX2 22 yX2_clear := Or.inl (List.mem_of_getElem? (i := 753) (by decide +kernel))
theorem lk2_25 : hLk RX2 25 yX2_add := Or.inl (List.mem_of_getElem? (i := 754) (by decide +kernel))
theorem lklaw_89 : hLk R_law 89 yX11_judge := Or.inl (List.mem_of_getElem? (i := 755) (by decide +kernel))
theorem lk11_198 : hLk RX11 198 yX10_latestOf := Or.inl (List.mem_of_getElem? (i := 759) (by decide +kernel))
theorem lk10_24 : hLk RX10 24 yX10_holds := Or.inl (List.mem_of_getElem? (i := 763) (by decide +kernel))
theorem lk10_28 : hLk RX10 28 yX10_supersedes := Or.inl (List.mem_of_getElem? (i := 767) (by decide +kernel))
theorem lk11_209 : hLk RX11 209 yX1_findLike := Or.inl (List.mem_of_getElem? (i := 771) (by decide +kernel))
theorem lk1_46 : hLk RX1 46 yX10_holds := Or.inl (List.mem_of_getElem? (i := 775) (by decide +kernel))
theorem lk1_49 : hLk RX1 49 yX5_distance := Or.inl (List.mem_of_getElem? (i := 776) (by decide +kernel))
theorem lk5_40 : hLk RX5 40 yJ9_abs_0f7a4 := Or.inl (List.mem_of_getElem? (i := 780) (by decide +kernel))
theorem lk11_219 : hLk RX11 219 yX1_sortAwards := Or.inl (List.mem_of_getElem? (i := 783) (by decide +kernel))
theorem lk11_223 : hLk RX11 223 yX5_rateOf := Or.inl (List.mem_of_getElem? (i := 787) (by decide +kernel))
theorem lk5_46 : hLk RX5 46 yX5_givenOf := Or.inl (List.mem_of_getElem? (i := 791) (by decide +kernel))
theorem lk5_54 : hLk RX5 54 yX5_mean := Or.inl (List.mem_of_getElem? (i := 795) (by decide +kernel))
theorem lk5_50 : hLk RX5 50 yJ9_min_7cf53 := Or.inl (List.mem_of_getElem? (i := 798) (by decide +kernel))
theorem lk11_230 : hLk RX11 230 yX3_worthOfAll := Or.inl (List.mem_of_getElem? (i := 801) (by decide +kernel))
theorem lk3_43 : hLk RX3 43 yX3_worthOf := Or.inl (List.mem_of_getElem? (i := 805) (by decide +kernel))
theorem lk3_35 : hLk RX3 35 yX10_holds := Or.inl (List.mem_of_getElem? (i := 809) (by decide +kernel))
theorem lk3_39 : hLk RX3 39 yX10_supersedes := Or.inl (List.mem_of_getElem? (i := 810) (by decide +kernel))
theorem lk11_238 : hLk RX11 238 yX4_weighShips := Or.inl (List.mem_of_getElem? (i := 811) (by decide +kernel))
theorem lk4_44 : hLk RX4 44 yX8_leastSpan := Or.inl (List.mem_of_getElem? (i := 815) (by decide +kernel))
theorem lk4_50 : hLk RX4 50 yJ9_max_7cf53 := Or.inl (List.mem_of_getElem? (i := 816) (by decide +kernel))
theorem lk11_242 : hLk RX11 242 yX4_partAmongShips := Or.inl (List.mem_of_getElem? (i := 817) (by decide +kernel))
theorem kc4_70 : Cond.constantLong RX4 70 (1000) ∈ lw_tbl := List.mem_of_getElem? (i := 821) (by decide +kernel)
theorem lk4_81 : hLk RX4 81 yX4_greatestRest := Or.inl (List.mem_of_getElem? (i := 822) (by decide +kernel))
theorem kc4_85 : Cond.constantLong RX4 85 (-1) ∈ lw_tbl := List.mem_of_getElem? (i := 826) (by decide +kernel)
theorem lk11_245 : hLk RX11 245 yX4_settle := Or.inl (List.mem_of_getElem? (i := 827) (by decide +kernel))
theorem lk4_93 : hLk RX4 93 yX6_loseLate := Or.inl (List.mem_of_getElem? (i := 831) (by decide +kernel))
theorem lk6_21 : hLk RX6 21 yJ9_max_7cf53 := Or.inl (List.mem_of_getElem? (i := 835) (by decide +kernel))
theorem kc6_31 : Cond.constantLong RX6 31 (1000) ∈ lw_tbl := List.mem_of_getElem? (i := 836) (by decide +kernel)
theorem lk6_36 : hLk RX6 36 yJ9_min_f86c9 := Or.inl (List.mem_of_getElem? (i := 837) (by decide +kernel))
theorem lk4_100 : hLk RX4 100 yX6_pay := Or.inl (List.mem_of_getElem? (i := 840) (by decide +kernel))
theorem kc6_48 : Cond.constantLong RX6 48 (100) ∈ lw_tbl := List.mem_of_getElem? (i := 844) (by decide +kernel)
theorem lk6_63 : hLk RX6 63 yX6_payHands := Or.inl (List.mem_of_getElem? (i := 845) (by decide +kernel))
theorem lklaw_93 : hLk R_law 93 yX11_judged := Or.inl (List.mem_of_getElem? (i := 849) (by decide +kernel))
theorem kc11_249 : Cond.constantLong RX11 249 (-1) ∈ lw_tbl := List.mem_of_getElem? (i := 853) (by decide +kernel)
theorem lklaw_98 : hLk R_law 98 yX11_like := Or.inl (List.mem_of_getElem? (i := 854) (by decide +kernel))
theorem lklaw_102 : hLk R_law 102 yX11_share := Or.inl (List.mem_of_getElem? (i := 858) (by decide +kernel))
theorem lklaw_107 : hLk R_law 107 yX11_hand := Or.inl (List.mem_of_getElem? (i := 862) (by decide +kernel))
theorem lklaw_111 : hLk R_law 111 yX11_saved := Or.inl (List.mem_of_getElem? (i := 866) (by decide +kernel))
theorem lk11_287 : hLk RX11 287 yX3_worthOf := Or.inl (List.mem_of_getElem? (i := 870) (by decide +kernel))
theorem lklaw_115 : hLk R_law 115 yX11_count := Or.inl (List.mem_of_getElem? (i := 871) (by decide +kernel))
theorem lk11_293 : hLk RX11 293 yX8_howManyBelieved := Or.inl (List.mem_of_getElem? (i := 875) (by decide +kernel))
theorem lclaw_10 : Cond.classLink R_law 10 "SalvageCourtModel" ∈ lw_tbl := List.mem_of_getElem? (i := 879) (by decide +kernel)
theorem in12 : Cond.instantiable RX12 59 ∈ lw_tbl := List.mem_of_getElem? (i := 880) (by decide +kernel)
theorem lklaw_12 : hLk R_law 12 yX12_init := Or.inl (List.mem_of_getElem? (i := 881) (by decide +kernel))
theorem lo12_1 : Cond.methodLink RX12 1 objectInit ∈ lw_tbl := List.mem_of_getElem? (i := 884) (by decide +kernel)
theorem lc12_28 : Cond.classLink RX12 28 "[[J" ∈ lw_tbl := List.mem_of_getElem? (i := 885) (by decide +kernel)
theorem lc12_76 : Cond.classLink RX12 76 "[[I" ∈ lw_tbl := List.mem_of_getElem? (i := 887) (by decide +kernel)
theorem fl12_128 : hFl RX12 128 (TX12 1) := Or.inl (List.mem_of_getElem? (i := 889) (by decide +kernel))
theorem fl12_7 : hFl RX12 7 (TX12 2) := Or.inl (List.mem_of_getElem? (i := 890) (by decide +kernel))
theorem fl12_135 : hFl RX12 135 (TX12 3) := Or.inl (List.mem_of_getElem? (i := 891) (by decide +kernel))
theorem fl12_13 : hFl RX12 13 (TX12 4) := Or.inl (List.mem_of_getElem? (i := 892) (by decide +kernel))
theorem fl12_16 : hFl RX12 16 (TX12 5) := Or.inl (List.mem_of_getElem? (i := 893) (by decide +kernel))
theorem fl12_19 : hFl RX12 19 (TX12 6) := Or.inl (List.mem_of_getElem? (i := 894) (by decide +kernel))
theorem fl12_22 : hFl RX12 22 (TX12 7) := Or.inl (List.mem_of_getElem? (i := 895) (by decide +kernel))
theorem fl12_25 : hFl RX12 25 (TX12 8) := Or.inl (List.mem_of_getElem? (i := 896) (by decide +kernel))
theorem fl12_30 : hFl RX12 30 (TX12 9) := Or.inl (List.mem_of_getElem? (i := 897) (by decide +kernel))
theorem fl12_33 : hFl RX12 33 (TX12 10) := Or.inl (List.mem_of_getElem? (i := 898) (by decide +kernel))
theorem fl12_152 : hFl RX12 152 (TX12 11) := Or.inl (List.mem_of_getElem? (i := 899) (by decide +kernel))
theorem fl12_37 : hFl RX12 37 (TX12 12) := Or.inl (List.mem_of_getElem? (i := 900) (by decide +kernel))
theorem fl12_40 : hFl RX12 40 (TX12 13) := Or.inl (List.mem_of_getElem? (i := 901) (by decide +kernel))
theorem fl12_43 : hFl RX12 43 (TX12 14) := Or.inl (List.mem_of_getElem? (i := 902) (by decide +kernel))
theorem fl12_46 : hFl RX12 46 (TX12 15) := Or.inl (List.mem_of_getElem? (i := 903) (by decide +kernel))
theorem fl12_49 : hFl RX12 49 (TX12 16) := Or.inl (List.mem_of_getElem? (i := 904) (by decide +kernel))
theorem fl12_156 : hFl RX12 156 (TX12 17) := Or.inl (List.mem_of_getElem? (i := 905) (by decide +kernel))
theorem fl12_52 : hFl RX12 52 (TX12 18) := Or.inl (List.mem_of_getElem? (i := 906) (by decide +kernel))
theorem fl12_55 : hFl RX12 55 (TX12 19) := Or.inl (List.mem_of_getElem? (i := 907) (by decide +kernel))
theorem fl12_58 : hFl RX12 58 (TX12 20) := Or.inl (List.mem_of_getElem? (i := 908) (by decide +kernel))
theorem fl12_61 : hFl RX12 61 (TX12 21) := Or.inl (List.mem_of_getElem? (i := 909) (by decide +kernel))
theorem fl12_64 : hFl RX12 64 (TX12 22) := Or.inl (List.mem_of_getElem? (i := 910) (by decide +kernel))
theorem fl12_67 : hFl RX12 67 (TX12 23) := Or.inl (List.mem_of_getElem? (i := 911) (by decide +kernel))
theorem fl12_160 : hFl RX12 160 (TX12 24) := Or.inl (List.mem_of_getElem? (i := 912) (by decide +kernel))
theorem fl12_163 : hFl RX12 163 (TX12 25) := Or.inl (List.mem_of_getElem? (i := 913) (by decide +kernel))
theorem fl12_250 : hFl RX12 250 (TX12 26) := Or.inl (List.mem_of_getElem? (i := 914) (by decide +kernel))
theorem fl12_70 : hFl RX12 70 (TX12 27) := Or.inl (List.mem_of_getElem? (i := 915) (by decide +kernel))
theorem fl12_73 : hFl RX12 73 (TX12 28) := Or.inl (List.mem_of_getElem? (i := 916) (by decide +kernel))
theorem fl12_78 : hFl RX12 78 (TX12 29) := Or.inl (List.mem_of_getElem? (i := 917) (by decide +kernel))
theorem fl12_81 : hFl RX12 81 (TX12 30) := Or.inl (List.mem_of_getElem? (i := 918) (by decide +kernel))
theorem fl12_166 : hFl RX12 166 (TX12 31) := Or.inl (List.mem_of_getElem? (i := 919) (by decide +kernel))
theorem fl12_176 : hFl RX12 176 (TX12 32) := Or.inl (List.mem_of_getElem? (i := 920) (by decide +kernel))
theorem fl12_179 : hFl RX12 179 (TX12 33) := Or.inl (List.mem_of_getElem? (i := 921) (by decide +kernel))
theorem fl12_173 : hFl RX12 173 (TX12 34) := Or.inl (List.mem_of_getElem? (i := 922) (by decide +kernel))
theorem fl12_262 : hFl RX12 262 (TX12 35) := Or.inl (List.mem_of_getElem? (i := 923) (by decide +kernel))
theorem fl12_259 : hFl RX12 259 (TX12 36) := Or.inl (List.mem_of_getElem? (i := 924) (by decide +kernel))
theorem fl12_85 : hFl RX12 85 (TX12 37) := Or.inl (List.mem_of_getElem? (i := 925) (by decide +kernel))
theorem fl12_266 : hFl RX12 266 (TX12 38) := Or.inl (List.mem_of_getElem? (i := 926) (by decide +kernel))
theorem fl12_88 : hFl RX12 88 (TX12 39) := Or.inl (List.mem_of_getElem? (i := 927) (by decide +kernel))
theorem fl12_91 : hFl RX12 91 (TX12 40) := Or.inl (List.mem_of_getElem? (i := 928) (by decide +kernel))
theorem fl12_94 : hFl RX12 94 (TX12 41) := Or.inl (List.mem_of_getElem? (i := 929) (by decide +kernel))
theorem fl12_97 : hFl RX12 97 (TX12 42) := Or.inl (List.mem_of_getElem? (i := 930) (by decide +kernel))
theorem fl12_100 : hFl RX12 100 (TX12 43) := Or.inl (List.mem_of_getElem? (i := 931) (by decide +kernel))
theorem fl12_103 : hFl RX12 103 (TX12 44) := Or.inl (List.mem_of_getElem? (i := 932) (by decide +kernel))
theorem fl12_106 : hFl RX12 106 (TX12 45) := Or.inl (List.mem_of_getElem? (i := 933) (by decide +kernel))
theorem fl12_109 : hFl RX12 109 (TX12 46) := Or.inl (List.mem_of_getElem? (i := 934) (by decide +kernel))
theorem fl12_272 : hFl RX12 272 (TX12 47) := Or.inl (List.mem_of_getElem? (i := 935) (by decide +kernel))
theorem fl12_275 : hFl RX12 275 (TX12 48) := Or.inl (List.mem_of_getElem? (i := 936) (by decide +kernel))
theorem fl12_269 : hFl RX12 269 (TX12 49) := Or.inl (List.mem_of_getElem? (i := 937) (by decide +kernel))
theorem fl12_286 : hFl RX12 286 (TX12 50) := Or.inl (List.mem_of_getElem? (i := 938) (by decide +kernel))
theorem fl12_301 : hFl RX12 301 (TX12 51) := Or.inl (List.mem_of_getElem? (i := 939) (by decide +kernel))
theorem fl12_112 : hFl RX12 112 (TX12 52) := Or.inl (List.mem_of_getElem? (i := 940) (by decide +kernel))
theorem fl12_289 : hFl RX12 289 (TX12 53) := Or.inl (List.mem_of_getElem? (i := 941) (by decide +kernel))
theorem fl12_306 : hFl RX12 306 (TX12 54) := Or.inl (List.mem_of_getElem? (i := 942) (by decide +kernel))
theorem fl12_309 : hFl RX12 309 (TX12 55) := Or.inl (List.mem_of_getElem? (i := 943) (by decide +kernel))
theorem fl12_115 : hFl RX12 115 (TX12 56) := Or.inl (List.mem_of_getElem? (i := 944) (by decide +kernel))
theorem fl12_118 : hFl RX12 118 (TX12 57) := Or.inl (List.mem_of_getElem? (i := 945) (by decide +kernel))
theorem fl12_121 : hFl RX12 121 (TX12 58) := Or.inl (List.mem_of_getElem? (i := 946) (by decide +kernel))
theorem lklaw_17 : hLk R_law 17 yX12_clock := Or.inl (List.mem_of_getElem? (i := 1066) (by decide +kernel))
theorem lk12_131 : hLk RX12 131 yX12_in := Or.inl (List.mem_of_getElem? (i := 1070) (by decide +kernel))
theorem lklaw_22 : hLk R_law 22 yX12_trust := Or.inl (List.mem_of_getElem? (i := 1073) (by decide +kernel))
theorem lklaw_27 : hLk R_law 27 yX12_says := Or.inl (List.mem_of_getElem? (i := 1077) (by decide +kernel))
theorem lklaw_32 : hLk R_law 32 yX12_believed := Or.inl (List.mem_of_getElem? (i := 1081) (by decide +kernel))
theorem lk12_144 : hLk RX12 144 yX12_believe := Or.inl (List.mem_of_getElem? (i := 1085) (by decide +kernel))
theorem lk12_140 : hLk RX12 140 yX12_canBe := Or.inl (List.mem_of_getElem? (i := 1089) (by decide +kernel))
theorem kc12_138 : Cond.constantLong RX12 138 (1099511627776) ∈ lw_tbl := List.mem_of_getElem? (i := 1093) (by decide +kernel)
theorem lklaw_37 : hLk R_law 37 yX12_spans := Or.inl (List.mem_of_getElem? (i := 1094) (by decide +kernel))
theorem kc12_147 : Cond.constant RX12 147 (-2147483648) ∈ lw_tbl := List.mem_of_getElem? (i := 1098) (by decide +kernel)
theorem lklaw_42 : hLk R_law 42 yX12_quarrel := Or.inl (List.mem_of_getElem? (i := 1099) (by decide +kernel))
theorem lklaw_46 : hLk R_law 46 yX12_quarrels := Or.inl (List.mem_of_getElem? (i := 1103) (by decide +kernel))
theorem lk12_148 : hLk RX12 148 yX12_quarrel := Or.inl (List.mem_of_getElem? (i := 1107) (by decide +kernel))
theorem lklaw_51 : hLk R_law 51 yX12_value := Or.inl (List.mem_of_getElem? (i := 1108) (by decide +kernel))
theorem kc12_155 : Cond.constant RX12 155 (1000000) ∈ lw_tbl := List.mem_of_getElem? (i := 1112) (by decide +kernel)
theorem lklaw_114 : hLk R_law 114 yX12_saved := Or.inl (List.mem_of_getElem? (i := 1113) (by decide +kernel))
theorem lklaw_55 : hLk R_law 55 yX12_earlier := Or.inl (List.mem_of_getElem? (i := 1117) (by decide +kernel))
theorem kc12_159 : Cond.constant RX12 159 (99999) ∈ lw_tbl := List.mem_of_getElem? (i := 1121) (by decide +kernel)
theorem lklaw_60 : hLk R_law 60 yX12_overrule := Or.inl (List.mem_of_getElem? (i := 1122) (by decide +kernel))
theorem lklaw_64 : hLk R_law 64 yX12_suit := Or.inl (List.mem_of_getElem? (i := 1126) (by decide +kernel))
theorem lklaw_68 : hLk R_law 68 yX12_feed := Or.inl (List.mem_of_getElem? (i := 1130) (by decide +kernel))
theorem lk12_169 : hLk RX12 169 yX12_put := Or.inl (List.mem_of_getElem? (i := 1134) (by decide +kernel))
theorem lklaw_72 : hLk R_law 72 yX12_end := Or.inl (List.mem_of_getElem? (i := 1138) (by decide +kernel))
theorem lklaw_76 : hLk R_law 76 yX12_law := Or.inl (List.mem_of_getElem? (i := 1142) (by decide +kernel))
theorem lk12_182 : hLk RX12 182 yX12_isEnd := Or.inl (List.mem_of_getElem? (i := 1146) (by decide +kernel))
theorem lk12_253 : hLk RX12 253 yX12_clause := Or.inl (List.mem_of_getElem? (i := 1150) (by decide +kernel))
theorem lk12_229 : hLk RX12 229 yX12_word := Or.inl (List.mem_of_getElem? (i := 1154) (by decide +kernel))
theorem lk12_185 : hLk RX12 185 yX12_fails := Or.inl (List.mem_of_getElem? (i := 1158) (by decide +kernel))
theorem lk12_219 : hLk RX12 219 yX12_is := Or.inl (List.mem_of_getElem? (i := 1163) (by decide +kernel))
theorem lk12_189 : hLk RX12 189 yJ0_length_8abf5 := Or.inl (List.mem_of_getElem? (i := 1167) (by decide +kernel))
theorem lk12_194 : hLk RX12 194 yJ0_charAt_5068e := Or.inl (List.mem_of_getElem? (i := 1168) (by decide +kernel))
theorem lk12_234 : hLk RX12 234 yX12_markOf := Or.inl (List.mem_of_getElem? (i := 1169) (by decide +kernel))
theorem lk12_238 : hLk RX12 238 yX12_number := Or.inl (List.mem_of_getElem? (i := 1178) (by decide +kernel))
theorem lk12_242 : hLk RX12 242 yX12_clauseOf := Or.inl (List.mem_of_getElem? (i := 1182) (by decide +kernel))
theorem lk12_245 : hLk RX12 245 yX12_gives := Or.inl (List.mem_of_getElem? (i := 1191) (by decide +kernel))
theorem lklaw_83 : hLk R_law 83 yX12_sheet := Or.inl (List.mem_of_getElem? (i := 1200) (by decide +kernel))
theorem kc12_257 : Cond.constantLong RX12 257 (15) ∈ lw_tbl := List.mem_of_getElem? (i := 1204) (by decide +kernel)
theorem lklaw_88 : hLk R_law 88 yX12_ship := Or.inl (List.mem_of_getElem? (i := 1205) (by decide +kernel))
theorem lklaw_92 : hLk R_law 92 yX12_judge := Or.inl (List.mem_of_getElem? (i := 1209) (by decide +kernel))
theorem lk12_278 : hLk RX12 278 yX12_distance := Or.inl (List.mem_of_getElem? (i := 1213) (by decide +kernel))
theorem lk12_282 : hLk RX12 282 yX12_rated := Or.inl (List.mem_of_getElem? (i := 1217) (by decide +kernel))
theorem lk12_293 : hLk RX12 293 yX12_saved := Or.inl (List.mem_of_getElem? (i := 1221) (by decide +kernel))
theorem lk12_297 : hLk RX12 297 yX12_parts := Or.inl (List.mem_of_getElem? (i := 1222) (by decide +kernel))
theorem kc12_304 : Cond.constantLong RX12 304 (1000) ∈ lw_tbl := List.mem_of_getElem? (i := 1226) (by decide +kernel)
theorem lk12_312 : hLk RX12 312 yX12_aboard := Or.inl (List.mem_of_getElem? (i := 1227) (by decide +kernel))
theorem kc12_316 : Cond.constantLong RX12 316 (100) ∈ lw_tbl := List.mem_of_getElem? (i := 1231) (by decide +kernel)
theorem lklaw_97 : hLk R_law 97 yX12_judged := Or.inl (List.mem_of_getElem? (i := 1232) (by decide +kernel))
theorem kc12_318 : Cond.constantLong RX12 318 (-1) ∈ lw_tbl := List.mem_of_getElem? (i := 1236) (by decide +kernel)
theorem lklaw_101 : hLk R_law 101 yX12_like := Or.inl (List.mem_of_getElem? (i := 1237) (by decide +kernel))
theorem lklaw_106 : hLk R_law 106 yX12_share := Or.inl (List.mem_of_getElem? (i := 1241) (by decide +kernel))
theorem lklaw_110 : hLk R_law 110 yX12_hand := Or.inl (List.mem_of_getElem? (i := 1245) (by decide +kernel))
theorem lklaw_118 : hLk R_law 118 yX12_count := Or.inl (List.mem_of_getElem? (i := 1249) (by decide +kernel))
theorem kclaw_77 : Cond.constantLong R_law 77 (4294967295) ∈ lw_tbl := List.mem_of_getElem? (i := 1253) (by decide +kernel)
theorem kfJ0_9 : Cond.fieldLink RJ0 9 "java/lang/String" "value" "[B" ∈ lw_tbl := List.mem_of_getElem? (i := 1254) (by decide +kernel)
theorem kfJ0_15 : Cond.fieldLink RJ0 15 "java/lang/String" "coder" "B" ∈ lw_tbl := List.mem_of_getElem? (i := 1255) (by decide +kernel)
theorem inilaw : Cond.initialized R_law ∈ lw_tbl := List.mem_of_getElem? (i := 33) (by decide +kernel)
theorem ini11 : Cond.initialized RX11 ∈ lw_tbl := List.mem_of_getElem? (i := 34) (by decide +kernel)
theorem ini8 : Cond.initialized RX8 ∈ lw_tbl := List.mem_of_getElem? (i := 35) (by decide +kernel)
theorem ini0 : Cond.initialized RX0 ∈ lw_tbl := List.mem_of_getElem? (i := 36) (by decide +kernel)
theorem iniJ7 : Cond.initialized RJ7 ∈ lw_tbl := List.mem_of_getElem? (i := 37) (by decide +kernel)
theorem ini3 : Cond.initialized RX3 ∈ lw_tbl := List.mem_of_getElem? (i := 38) (by decide +kernel)
theorem ini10 : Cond.initialized RX10 ∈ lw_tbl := List.mem_of_getElem? (i := 39) (by decide +kernel)
theorem ini1 : Cond.initialized RX1 ∈ lw_tbl := List.mem_of_getElem? (i := 40) (by decide +kernel)
theorem ini9 : Cond.initialized RX9 ∈ lw_tbl := List.mem_of_getElem? (i := 41) (by decide +kernel)
theorem ini2 : Cond.initialized RX2 ∈ lw_tbl := List.mem_of_getElem? (i := 42) (by decide +kernel)
theorem ini4 : Cond.initialized RX4 ∈ lw_tbl := List.mem_of_getElem? (i := 43) (by decide +kernel)
theorem ini6 : Cond.initialized RX6 ∈ lw_tbl := List.mem_of_getElem? (i := 44) (by decide +kernel)
theorem ini5 : Cond.initialized RX5 ∈ lw_tbl := List.mem_of_getElem? (i := 45) (by decide +kernel)
theorem ini7 : Cond.initialized RX7 ∈ lw_tbl := List.mem_of_getElem? (i := 46) (by decide +kernel)
theorem ini12 : Cond.initialized RX12 ∈ lw_tbl := List.mem_of_getElem? (i := 47) (by decide +kernel)
theorem iniJ9 : Cond.initialized RJ9 ∈ lw_tbl := List.mem_of_getElem? (i := 48) (by decide +kernel)
theorem iniJ0 : Cond.initialized RJ0 ∈ lw_tbl := List.mem_of_getElem? (i := 49) (by decide +kernel)
theorem iniJ1 : Cond.initialized RJ1 ∈ lw_tbl := List.mem_of_getElem? (i := 50) (by decide +kernel)
theorem iniJ3 : Cond.initialized RJ3 ∈ lw_tbl := List.mem_of_getElem? (i := 51) (by decide +kernel)
theorem iniJ2 : Cond.initialized RJ2 ∈ lw_tbl := List.mem_of_getElem? (i := 52) (by decide +kernel)
theorem clX11_init : hCl yX11_init cX11_init 2 none 0 := ⟨List.mem_of_getElem? (i := 57) (by decide +kernel), ini11, by decide +kernel, by decide +kernel⟩
theorem imX11_init : Cond.instanceMethod yX11_init ∈ lw_tbl := List.mem_of_getElem? (i := 56) (by decide +kernel)
theorem clX8_init : hCl yX8_init cX8_init 1 none 0 := ⟨List.mem_of_getElem? (i := 65) (by decide +kernel), ini8, by decide +kernel, by decide +kernel⟩
theorem imX8_init : Cond.instanceMethod yX8_init ∈ lw_tbl := List.mem_of_getElem? (i := 64) (by decide +kernel)
theorem clX0_init : hCl yX0_init cX0_init 1 none 0 := ⟨List.mem_of_getElem? (i := 71) (by decide +kernel), ini0, by decide +kernel, by decide +kernel⟩
theorem imX0_init : Cond.instanceMethod yX0_init ∈ lw_tbl := List.mem_of_getElem? (i := 70) (by decide +kernel)
theorem clJ7_fill_53178 : hCl yJ7_fill_53178 cJ7_fill_53178 4 none 2 := ⟨List.mem_of_getElem? (i := 80) (by decide +kernel), iniJ7, by decide +kernel, by decide +kernel⟩
theorem stJ7_fill_53178 : Cond.static yJ7_fill_53178 ∈ lw_tbl := List.mem_of_getElem? (i := 79) (by decide +kernel)
theorem clX3_init : hCl yX3_init cX3_init 1 none 0 := ⟨List.mem_of_getElem? (i := 133) (by decide +kernel), ini3, by decide +kernel, by decide +kernel⟩
theorem imX3_init : Cond.instanceMethod yX3_init ∈ lw_tbl := List.mem_of_getElem? (i := 132) (by decide +kernel)
theorem clX10_init : hCl yX10_init cX10_init 2 none 1 := ⟨List.mem_of_getElem? (i := 139) (by decide +kernel), ini10, by decide +kernel, by decide +kernel⟩
theorem imX10_init : Cond.instanceMethod yX10_init ∈ lw_tbl := List.mem_of_getElem? (i := 138) (by decide +kernel)
theorem clX1_init : hCl yX1_init cX1_init 1 none 0 := ⟨List.mem_of_getElem? (i := 167) (by decide +kernel), ini1, by decide +kernel, by decide +kernel⟩
theorem imX1_init : Cond.instanceMethod yX1_init ∈ lw_tbl := List.mem_of_getElem? (i := 166) (by decide +kernel)
theorem clX9_init : hCl yX9_init cX9_init 1 none 0 := ⟨List.mem_of_getElem? (i := 192) (by decide +kernel), ini9, by decide +kernel, by decide +kernel⟩
theorem imX9_init : Cond.instanceMethod yX9_init ∈ lw_tbl := List.mem_of_getElem? (i := 191) (by decide +kernel)
theorem clX2_init : hCl yX2_init cX2_init 1 none 0 := ⟨List.mem_of_getElem? (i := 223) (by decide +kernel), ini2, by decide +kernel, by decide +kernel⟩
theorem imX2_init : Cond.instanceMethod yX2_init ∈ lw_tbl := List.mem_of_getElem? (i := 222) (by decide +kernel)
theorem clX4_init : hCl yX4_init cX4_init 2 none 0 := ⟨List.mem_of_getElem? (i := 245) (by decide +kernel), ini4, by decide +kernel, by decide +kernel⟩
theorem imX4_init : Cond.instanceMethod yX4_init ∈ lw_tbl := List.mem_of_getElem? (i := 244) (by decide +kernel)
theorem clX6_init : hCl yX6_init cX6_init 1 none 0 := ⟨List.mem_of_getElem? (i := 252) (by decide +kernel), ini6, by decide +kernel, by decide +kernel⟩
theorem imX6_init : Cond.instanceMethod yX6_init ∈ lw_tbl := List.mem_of_getElem? (i := 251) (by decide +kernel)
theorem clX5_init : hCl yX5_init cX5_init 1 none 0 := ⟨List.mem_of_getElem? (i := 343) (by decide +kernel), ini5, by decide +kernel, by decide +kernel⟩
theorem imX5_init : Cond.instanceMethod yX5_init ∈ lw_tbl := List.mem_of_getElem? (i := 342) (by decide +kernel)
theorem clX7_init : hCl yX7_init cX7_init 1 none 0 := ⟨List.mem_of_getElem? (i := 380) (by decide +kernel), ini7, by decide +kernel, by decide +kernel⟩
theorem imX7_init : Cond.instanceMethod yX7_init ∈ lw_tbl := List.mem_of_getElem? (i := 379) (by decide +kernel)
theorem clX11_clock : hCl yX11_clock cX11_clock 2 (some .boolean) 1 := ⟨List.mem_of_getElem? (i := 460) (by decide +kernel), ini11, by decide +kernel, by decide +kernel⟩
theorem ivX11_clock : hIv yX11_clock := ⟨List.mem_of_getElem? (i := 458) (by decide +kernel), List.mem_of_getElem? (i := 459) (by decide +kernel)⟩
theorem clX11_isWithin : hCl yX11_isWithin cX11_isWithin 3 (some .boolean) 3 := ⟨List.mem_of_getElem? (i := 463) (by decide +kernel), ini11, by decide +kernel, by decide +kernel⟩
theorem stX11_isWithin : Cond.static yX11_isWithin ∈ lw_tbl := List.mem_of_getElem? (i := 462) (by decide +kernel)
theorem clX11_trust : hCl yX11_trust cX11_trust 3 (some .int) 2 := ⟨List.mem_of_getElem? (i := 467) (by decide +kernel), ini11, by decide +kernel, by decide +kernel⟩
theorem ivX11_trust : hIv yX11_trust := ⟨List.mem_of_getElem? (i := 465) (by decide +kernel), List.mem_of_getElem? (i := 466) (by decide +kernel)⟩
theorem clX8_setTrust : hCl yX8_setTrust cX8_setTrust 4 (some .int) 2 := ⟨List.mem_of_getElem? (i := 471) (by decide +kernel), ini8, by decide +kernel, by decide +kernel⟩
theorem ivX8_setTrust : hIv yX8_setTrust := ⟨List.mem_of_getElem? (i := 469) (by decide +kernel), List.mem_of_getElem? (i := 470) (by decide +kernel)⟩
theorem clX11_says : hCl yX11_says cX11_says 8 (some .int) 5 := ⟨List.mem_of_getElem? (i := 475) (by decide +kernel), ini11, by decide +kernel, by decide +kernel⟩
theorem ivX11_says : hIv yX11_says := ⟨List.mem_of_getElem? (i := 473) (by decide +kernel), List.mem_of_getElem? (i := 474) (by decide +kernel)⟩
theorem clX11_isThing : hCl yX11_isThing cX11_isThing 1 (some .boolean) 1 := ⟨List.mem_of_getElem? (i := 478) (by decide +kernel), ini11, by decide +kernel, by decide +kernel⟩
theorem stX11_isThing : Cond.static yX11_isThing ∈ lw_tbl := List.mem_of_getElem? (i := 477) (by decide +kernel)
theorem clX8_add : hCl yX8_add cX8_add 6 (some .int) 5 := ⟨List.mem_of_getElem? (i := 482) (by decide +kernel), ini8, by decide +kernel, by decide +kernel⟩
theorem ivX8_add : hIv yX8_add := ⟨List.mem_of_getElem? (i := 480) (by decide +kernel), List.mem_of_getElem? (i := 481) (by decide +kernel)⟩
theorem clX11_believed : hCl yX11_believed cX11_believed 2 (some .int) 1 := ⟨List.mem_of_getElem? (i := 486) (by decide +kernel), ini11, by decide +kernel, by decide +kernel⟩
theorem ivX11_believed : hIv yX11_believed := ⟨List.mem_of_getElem? (i := 484) (by decide +kernel), List.mem_of_getElem? (i := 485) (by decide +kernel)⟩
theorem clX8_has : hCl yX8_has cX8_has 2 (some .boolean) 1 := ⟨List.mem_of_getElem? (i := 490) (by decide +kernel), ini8, by decide +kernel, by decide +kernel⟩
theorem ivX8_has : hIv yX8_has := ⟨List.mem_of_getElem? (i := 488) (by decide +kernel), List.mem_of_getElem? (i := 489) (by decide +kernel)⟩
theorem clX8_believes : hCl yX8_believes cX8_believes 2 (some .boolean) 1 := ⟨List.mem_of_getElem? (i := 495) (by decide +kernel), ini8, by decide +kernel, by decide +kernel⟩
theorem ivX8_believes : hIv yX8_believes := ⟨List.mem_of_getElem? (i := 493) (by decide +kernel), List.mem_of_getElem? (i := 494) (by decide +kernel)⟩
theorem clX8_settleBelief : hCl yX8_settleBelief cX8_settleBelief 3 none 0 := ⟨List.mem_of_getElem? (i := 499) (by decide +kernel), ini8, by decide +kernel, by decide +kernel⟩
theorem ivX8_settleBelief : hIv yX8_settleBelief := ⟨List.mem_of_getElem? (i := 498) (by decide +kernel), List.mem_of_getElem? (i := 0) (by decide +kernel)⟩
theorem clX0_clear : hCl yX0_clear cX0_clear 2 none 0 := ⟨List.mem_of_getElem? (i := 503) (by decide +kernel), ini0, by decide +kernel, by decide +kernel⟩
theorem ivX0_clear : hIv yX0_clear := ⟨List.mem_of_getElem? (i := 501) (by decide +kernel), List.mem_of_getElem? (i := 502) (by decide +kernel)⟩
theorem clX8_takes : hCl yX8_takes cX8_takes 3 (some .boolean) 2 := ⟨List.mem_of_getElem? (i := 509) (by decide +kernel), ini8, by decide +kernel, by decide +kernel⟩
theorem ivX8_takes : hIv yX8_takes := ⟨List.mem_of_getElem? (i := 508) (by decide +kernel), List.mem_of_getElem? (i := 1) (by decide +kernel)⟩
theorem clX0_narrow : hCl yX0_narrow cX0_narrow 5 (some .boolean) 4 := ⟨List.mem_of_getElem? (i := 513) (by decide +kernel), ini0, by decide +kernel, by decide +kernel⟩
theorem ivX0_narrow : hIv yX0_narrow := ⟨List.mem_of_getElem? (i := 511) (by decide +kernel), List.mem_of_getElem? (i := 512) (by decide +kernel)⟩
theorem clX0_limit : hCl yX0_limit cX0_limit 8 none 3 := ⟨List.mem_of_getElem? (i := 517) (by decide +kernel), ini0, by decide +kernel, by decide +kernel⟩
theorem ivX0_limit : hIv yX0_limit := ⟨List.mem_of_getElem? (i := 516) (by decide +kernel), List.mem_of_getElem? (i := 2) (by decide +kernel)⟩
theorem clX11_spans : hCl yX11_spans cX11_spans 4 (some .int) 3 := ⟨List.mem_of_getElem? (i := 521) (by decide +kernel), ini11, by decide +kernel, by decide +kernel⟩
theorem ivX11_spans : hIv yX11_spans := ⟨List.mem_of_getElem? (i := 519) (by decide +kernel), List.mem_of_getElem? (i := 520) (by decide +kernel)⟩
theorem clX8_leastSpan : hCl yX8_leastSpan cX8_leastSpan 3 (some .int) 2 := ⟨List.mem_of_getElem? (i := 526) (by decide +kernel), ini8, by decide +kernel, by decide +kernel⟩
theorem ivX8_leastSpan : hIv yX8_leastSpan := ⟨List.mem_of_getElem? (i := 524) (by decide +kernel), List.mem_of_getElem? (i := 525) (by decide +kernel)⟩
theorem clX0_least : hCl yX0_least cX0_least 4 (some .int) 2 := ⟨List.mem_of_getElem? (i := 530) (by decide +kernel), ini0, by decide +kernel, by decide +kernel⟩
theorem ivX0_least : hIv yX0_least := ⟨List.mem_of_getElem? (i := 528) (by decide +kernel), List.mem_of_getElem? (i := 529) (by decide +kernel)⟩
theorem clX8_greatestSpan : hCl yX8_greatestSpan cX8_greatestSpan 3 (some .int) 2 := ⟨List.mem_of_getElem? (i := 535) (by decide +kernel), ini8, by decide +kernel, by decide +kernel⟩
theorem ivX8_greatestSpan : hIv yX8_greatestSpan := ⟨List.mem_of_getElem? (i := 533) (by decide +kernel), List.mem_of_getElem? (i := 534) (by decide +kernel)⟩
theorem clX0_greatest : hCl yX0_greatest cX0_greatest 4 (some .int) 2 := ⟨List.mem_of_getElem? (i := 539) (by decide +kernel), ini0, by decide +kernel, by decide +kernel⟩
theorem ivX0_greatest : hIv yX0_greatest := ⟨List.mem_of_getElem? (i := 537) (by decide +kernel), List.mem_of_getElem? (i := 538) (by decide +kernel)⟩
theorem clX11_quarrel : hCl yX11_quarrel cX11_quarrel 1 (some .int) 0 := ⟨List.mem_of_getElem? (i := 543) (by decide +kernel), ini11, by decide +kernel, by decide +kernel⟩
theorem ivX11_quarrel : hIv yX11_quarrel := ⟨List.mem_of_getElem? (i := 541) (by decide +kernel), List.mem_of_getElem? (i := 542) (by decide +kernel)⟩
theorem clX8_quarrelSize : hCl yX8_quarrelSize cX8_quarrelSize 1 (some .int) 0 := ⟨List.mem_of_getElem? (i := 547) (by decide +kernel), ini8, by decide +kernel, by decide +kernel⟩
theorem ivX8_quarrelSize : hIv yX8_quarrelSize := ⟨List.mem_of_getElem? (i := 545) (by decide +kernel), List.mem_of_getElem? (i := 546) (by decide +kernel)⟩
theorem clX8_settleQuarrel : hCl yX8_settleQuarrel cX8_settleQuarrel 3 none 0 := ⟨List.mem_of_getElem? (i := 551) (by decide +kernel), ini8, by decide +kernel, by decide +kernel⟩
theorem ivX8_settleQuarrel : hIv yX8_settleQuarrel := ⟨List.mem_of_getElem? (i := 550) (by decide +kernel), List.mem_of_getElem? (i := 3) (by decide +kernel)⟩
theorem clX8_firstToBreak : hCl yX8_firstToBreak cX8_firstToBreak 3 (some .int) 1 := ⟨List.mem_of_getElem? (i := 555) (by decide +kernel), ini8, by decide +kernel, by decide +kernel⟩
theorem ivX8_firstToBreak : hIv yX8_firstToBreak := ⟨List.mem_of_getElem? (i := 554) (by decide +kernel), List.mem_of_getElem? (i := 4) (by decide +kernel)⟩
theorem clX11_quarrels : hCl yX11_quarrels cX11_quarrels 2 (some .int) 1 := ⟨List.mem_of_getElem? (i := 559) (by decide +kernel), ini11, by decide +kernel, by decide +kernel⟩
theorem ivX11_quarrels : hIv yX11_quarrels := ⟨List.mem_of_getElem? (i := 557) (by decide +kernel), List.mem_of_getElem? (i := 558) (by decide +kernel)⟩
theorem clX8_quarrelling : hCl yX8_quarrelling cX8_quarrelling 4 (some .int) 1 := ⟨List.mem_of_getElem? (i := 563) (by decide +kernel), ini8, by decide +kernel, by decide +kernel⟩
theorem ivX8_quarrelling : hIv yX8_quarrelling := ⟨List.mem_of_getElem? (i := 561) (by decide +kernel), List.mem_of_getElem? (i := 562) (by decide +kernel)⟩
theorem clX11_value : hCl yX11_value cX11_value 6 (some .int) 4 := ⟨List.mem_of_getElem? (i := 567) (by decide +kernel), ini11, by decide +kernel, by decide +kernel⟩
theorem ivX11_value : hIv yX11_value := ⟨List.mem_of_getElem? (i := 565) (by decide +kernel), List.mem_of_getElem? (i := 566) (by decide +kernel)⟩
theorem clX11_isGood : hCl yX11_isGood cX11_isGood 1 (some .boolean) 1 := ⟨List.mem_of_getElem? (i := 571) (by decide +kernel), ini11, by decide +kernel, by decide +kernel⟩
theorem stX11_isGood : Cond.static yX11_isGood ∈ lw_tbl := List.mem_of_getElem? (i := 570) (by decide +kernel)
theorem clX11_isDay : hCl yX11_isDay cX11_isDay 1 (some .boolean) 1 := ⟨List.mem_of_getElem? (i := 574) (by decide +kernel), ini11, by decide +kernel, by decide +kernel⟩
theorem stX11_isDay : Cond.static yX11_isDay ∈ lw_tbl := List.mem_of_getElem? (i := 573) (by decide +kernel)
theorem clJ9_max_7cf53 : hCl yJ9_max_7cf53 cJ9_max_7cf53 2 (some .int) 2 := ⟨List.mem_of_getElem? (i := 577) (by decide +kernel), iniJ9, by decide +kernel, by decide +kernel⟩
theorem stJ9_max_7cf53 : Cond.static yJ9_max_7cf53 ∈ lw_tbl := List.mem_of_getElem? (i := 576) (by decide +kernel)
theorem clX3_add : hCl yX3_add cX3_add 5 (some .int) 4 := ⟨List.mem_of_getElem? (i := 581) (by decide +kernel), ini3, by decide +kernel, by decide +kernel⟩
theorem ivX3_add : hIv yX3_add := ⟨List.mem_of_getElem? (i := 579) (by decide +kernel), List.mem_of_getElem? (i := 580) (by decide +kernel)⟩
theorem clX10_set : hCl yX10_set cX10_set 4 none 3 := ⟨List.mem_of_getElem? (i := 585) (by decide +kernel), ini10, by decide +kernel, by decide +kernel⟩
theorem ivX10_set : hIv yX10_set := ⟨List.mem_of_getElem? (i := 583) (by decide +kernel), List.mem_of_getElem? (i := 584) (by decide +kernel)⟩
theorem clX11_earlier : hCl yX11_earlier cX11_earlier 4 (some .int) 3 := ⟨List.mem_of_getElem? (i := 589) (by decide +kernel), ini11, by decide +kernel, by decide +kernel⟩
theorem ivX11_earlier : hIv yX11_earlier := ⟨List.mem_of_getElem? (i := 587) (by decide +kernel), List.mem_of_getElem? (i := 588) (by decide +kernel)⟩
theorem clX1_add : hCl yX1_add cX1_add 5 (some .int) 4 := ⟨List.mem_of_getElem? (i := 594) (by decide +kernel), ini1, by decide +kernel, by decide +kernel⟩
theorem ivX1_add : hIv yX1_add := ⟨List.mem_of_getElem? (i := 592) (by decide +kernel), List.mem_of_getElem? (i := 593) (by decide +kernel)⟩
theorem clX11_overrule : hCl yX11_overrule cX11_overrule 3 (some .boolean) 2 := ⟨List.mem_of_getElem? (i := 599) (by decide +kernel), ini11, by decide +kernel, by decide +kernel⟩
theorem ivX11_overrule : hIv yX11_overrule := ⟨List.mem_of_getElem? (i := 597) (by decide +kernel), List.mem_of_getElem? (i := 598) (by decide +kernel)⟩
theorem clX1_setOverruled : hCl yX1_setOverruled cX1_setOverruled 4 (some .boolean) 3 := ⟨List.mem_of_getElem? (i := 603) (by decide +kernel), ini1, by decide +kernel, by decide +kernel⟩
theorem ivX1_setOverruled : hIv yX1_setOverruled := ⟨List.mem_of_getElem? (i := 601) (by decide +kernel), List.mem_of_getElem? (i := 602) (by decide +kernel)⟩
theorem clX10_isSet : hCl yX10_isSet cX10_isSet 2 (some .boolean) 1 := ⟨List.mem_of_getElem? (i := 608) (by decide +kernel), ini10, by decide +kernel, by decide +kernel⟩
theorem ivX10_isSet : hIv yX10_isSet := ⟨List.mem_of_getElem? (i := 606) (by decide +kernel), List.mem_of_getElem? (i := 607) (by decide +kernel)⟩
theorem clX11_suit : hCl yX11_suit cX11_suit 3 (some .boolean) 2 := ⟨List.mem_of_getElem? (i := 612) (by decide +kernel), ini11, by decide +kernel, by decide +kernel⟩
theorem ivX11_suit : hIv yX11_suit := ⟨List.mem_of_getElem? (i := 610) (by decide +kernel), List.mem_of_getElem? (i := 611) (by decide +kernel)⟩
theorem clX11_feed : hCl yX11_feed cX11_feed 6 (some .int) 5 := ⟨List.mem_of_getElem? (i := 616) (by decide +kernel), ini11, by decide +kernel, by decide +kernel⟩
theorem ivX11_feed : hIv yX11_feed := ⟨List.mem_of_getElem? (i := 614) (by decide +kernel), List.mem_of_getElem? (i := 615) (by decide +kernel)⟩
theorem clX9_append : hCl yX9_append cX9_append 3 none 1 := ⟨List.mem_of_getElem? (i := 620) (by decide +kernel), ini9, by decide +kernel, by decide +kernel⟩
theorem ivX9_append : hIv yX9_append := ⟨List.mem_of_getElem? (i := 618) (by decide +kernel), List.mem_of_getElem? (i := 619) (by decide +kernel)⟩
theorem clX11_end : hCl yX11_end cX11_end 2 (some .int) 1 := ⟨List.mem_of_getElem? (i := 624) (by decide +kernel), ini11, by decide +kernel, by decide +kernel⟩
theorem ivX11_end : hIv yX11_end := ⟨List.mem_of_getElem? (i := 622) (by decide +kernel), List.mem_of_getElem? (i := 623) (by decide +kernel)⟩
theorem clX11_law : hCl yX11_law cX11_law 3 (some .int) 1 := ⟨List.mem_of_getElem? (i := 628) (by decide +kernel), ini11, by decide +kernel, by decide +kernel⟩
theorem ivX11_law : hIv yX11_law := ⟨List.mem_of_getElem? (i := 626) (by decide +kernel), List.mem_of_getElem? (i := 627) (by decide +kernel)⟩
theorem clX9_readInto : hCl yX9_readInto cX9_readInto 3 (some .int) 1 := ⟨List.mem_of_getElem? (i := 632) (by decide +kernel), ini9, by decide +kernel, by decide +kernel⟩
theorem ivX9_readInto : hIv yX9_readInto := ⟨List.mem_of_getElem? (i := 630) (by decide +kernel), List.mem_of_getElem? (i := 631) (by decide +kernel)⟩
theorem clX5_clear : hCl yX5_clear cX5_clear 1 none 0 := ⟨List.mem_of_getElem? (i := 636) (by decide +kernel), ini5, by decide +kernel, by decide +kernel⟩
theorem ivX5_clear : hIv yX5_clear := ⟨List.mem_of_getElem? (i := 634) (by decide +kernel), List.mem_of_getElem? (i := 635) (by decide +kernel)⟩
theorem clX9_skipBlanks : hCl yX9_skipBlanks cX9_skipBlanks 1 none 0 := ⟨List.mem_of_getElem? (i := 641) (by decide +kernel), ini9, by decide +kernel, by decide +kernel⟩
theorem ivX9_skipBlanks : hIv yX9_skipBlanks := ⟨List.mem_of_getElem? (i := 640) (by decide +kernel), List.mem_of_getElem? (i := 5) (by decide +kernel)⟩
theorem clX9_readClause : hCl yX9_readClause cX9_readClause 3 none 1 := ⟨List.mem_of_getElem? (i := 645) (by decide +kernel), ini9, by decide +kernel, by decide +kernel⟩
theorem ivX9_readClause : hIv yX9_readClause := ⟨List.mem_of_getElem? (i := 644) (by decide +kernel), List.mem_of_getElem? (i := 6) (by decide +kernel)⟩
theorem clX9_readWord : hCl yX9_readWord cX9_readWord 3 (some .int) 1 := ⟨List.mem_of_getElem? (i := 650) (by decide +kernel), ini9, by decide +kernel, by decide +kernel⟩
theorem ivX9_readWord : hIv yX9_readWord := ⟨List.mem_of_getElem? (i := 649) (by decide +kernel), List.mem_of_getElem? (i := 7) (by decide +kernel)⟩
theorem clX9_isBetween : hCl yX9_isBetween cX9_isBetween 3 (some .boolean) 3 := ⟨List.mem_of_getElem? (i := 653) (by decide +kernel), ini9, by decide +kernel, by decide +kernel⟩
theorem stX9_isBetween : Cond.static yX9_isBetween ∈ lw_tbl := List.mem_of_getElem? (i := 652) (by decide +kernel)
theorem clX9_numberOfWord : hCl yX9_numberOfWord cX9_numberOfWord 7 (some .int) 1 := ⟨List.mem_of_getElem? (i := 657) (by decide +kernel), ini9, by decide +kernel, by decide +kernel⟩
theorem ivX9_numberOfWord : hIv yX9_numberOfWord := ⟨List.mem_of_getElem? (i := 656) (by decide +kernel), List.mem_of_getElem? (i := 8) (by decide +kernel)⟩
theorem clJ0_length_8abf5 : hCl yJ0_length_8abf5 cJ0_length_8abf5 1 (some .int) 0 := ⟨List.mem_of_getElem? (i := 661) (by decide +kernel), iniJ0, by decide +kernel, by decide +kernel⟩
theorem ivJ0_length_8abf5 : hIv yJ0_length_8abf5 := ⟨List.mem_of_getElem? (i := 659) (by decide +kernel), List.mem_of_getElem? (i := 660) (by decide +kernel)⟩
theorem clJ0_coder_7d493 : hCl yJ0_coder_7d493 cJ0_coder_7d493 1 (some .byte) 0 := ⟨List.mem_of_getElem? (i := 665) (by decide +kernel), iniJ0, by decide +kernel, by decide +kernel⟩
theorem ivJ0_coder_7d493 : hIv yJ0_coder_7d493 := ⟨List.mem_of_getElem? (i := 663) (by decide +kernel), List.mem_of_getElem? (i := 664) (by decide +kernel)⟩
theorem clJ0_charAt_5068e : hCl yJ0_charAt_5068e cJ0_charAt_5068e 2 (some .char) 1 := ⟨List.mem_of_getElem? (i := 671) (by decide +kernel), iniJ0, by decide +kernel, by decide +kernel⟩
theorem ivJ0_charAt_5068e : hIv yJ0_charAt_5068e := ⟨List.mem_of_getElem? (i := 669) (by decide +kernel), List.mem_of_getElem? (i := 670) (by decide +kernel)⟩
theorem clJ0_isLatin1_aae02 : hCl yJ0_isLatin1_aae02 cJ0_isLatin1_aae02 1 (some .boolean) 0 := ⟨List.mem_of_getElem? (i := 675) (by decide +kernel), iniJ0, by decide +kernel, by decide +kernel⟩
theorem ivJ0_isLatin1_aae02 : hIv yJ0_isLatin1_aae02 := ⟨List.mem_of_getElem? (i := 673) (by decide +kernel), List.mem_of_getElem? (i := 674) (by decide +kernel)⟩
theorem clJ1_charAt_3b067 : hCl yJ1_charAt_3b067 cJ1_charAt_3b067 2 (some .char) 2 := ⟨List.mem_of_getElem? (i := 678) (by decide +kernel), iniJ1, by decide +kernel, by decide +kernel⟩
theorem stJ1_charAt_3b067 : Cond.static yJ1_charAt_3b067 ∈ lw_tbl := List.mem_of_getElem? (i := 677) (by decide +kernel)
theorem clJ0_checkIndex_df160 : hCl yJ0_checkIndex_df160 cJ0_checkIndex_df160 2 none 2 := ⟨List.mem_of_getElem? (i := 681) (by decide +kernel), iniJ0, by decide +kernel, by decide +kernel⟩
theorem stJ0_checkIndex_df160 : Cond.static yJ0_checkIndex_df160 ∈ lw_tbl := List.mem_of_getElem? (i := 680) (by decide +kernel)
theorem clJ3_checkIndex_8e157 : hCl yJ3_checkIndex_8e157 cJ3_checkIndex_8e157 3 (some .int) 3 := ⟨List.mem_of_getElem? (i := 686) (by decide +kernel), iniJ3, by decide +kernel, by decide +kernel⟩
theorem stJ3_checkIndex_8e157 : Cond.static yJ3_checkIndex_8e157 ∈ lw_tbl := List.mem_of_getElem? (i := 685) (by decide +kernel)
theorem clJ2_charAt_3b067 : hCl yJ2_charAt_3b067 cJ2_charAt_3b067 2 (some .char) 2 := ⟨List.mem_of_getElem? (i := 689) (by decide +kernel), iniJ2, by decide +kernel, by decide +kernel⟩
theorem stJ2_charAt_3b067 : Cond.static yJ2_charAt_3b067 ∈ lw_tbl := List.mem_of_getElem? (i := 688) (by decide +kernel)
theorem clJ2_checkIndex_2214a : hCl yJ2_checkIndex_2214a cJ2_checkIndex_2214a 2 none 2 := ⟨List.mem_of_getElem? (i := 692) (by decide +kernel), iniJ2, by decide +kernel, by decide +kernel⟩
theorem stJ2_checkIndex_2214a : Cond.static yJ2_checkIndex_2214a ∈ lw_tbl := List.mem_of_getElem? (i := 691) (by decide +kernel)
theorem clJ2_length_9d52b : hCl yJ2_length_9d52b cJ2_length_9d52b 1 (some .int) 1 := ⟨List.mem_of_getElem? (i := 695) (by decide +kernel), iniJ2, by decide +kernel, by decide +kernel⟩
theorem stJ2_length_9d52b : Cond.static yJ2_length_9d52b ∈ lw_tbl := List.mem_of_getElem? (i := 694) (by decide +kernel)
theorem clJ2_getChar_3b067 : hCl yJ2_getChar_3b067 cJ2_getChar_3b067 2 (some .char) 2 := ⟨List.mem_of_getElem? (i := 699) (by decide +kernel), iniJ2, by decide +kernel, by decide +kernel⟩
theorem stJ2_getChar_3b067 : Cond.static yJ2_getChar_3b067 ∈ lw_tbl := List.mem_of_getElem? (i := 698) (by decide +kernel)
theorem clX9_refuse : hCl yX9_refuse cX9_refuse 3 none 2 := ⟨List.mem_of_getElem? (i := 709) (by decide +kernel), ini9, by decide +kernel, by decide +kernel⟩
theorem ivX9_refuse : hIv yX9_refuse := ⟨List.mem_of_getElem? (i := 708) (by decide +kernel), List.mem_of_getElem? (i := 9) (by decide +kernel)⟩
theorem clX9_tellOnce : hCl yX9_tellOnce cX9_tellOnce 2 none 1 := ⟨List.mem_of_getElem? (i := 713) (by decide +kernel), ini9, by decide +kernel, by decide +kernel⟩
theorem ivX9_tellOnce : hIv yX9_tellOnce := ⟨List.mem_of_getElem? (i := 712) (by decide +kernel), List.mem_of_getElem? (i := 10) (by decide +kernel)⟩
theorem clX9_readWeight : hCl yX9_readWeight cX9_readWeight 3 none 1 := ⟨List.mem_of_getElem? (i := 717) (by decide +kernel), ini9, by decide +kernel, by decide +kernel⟩
theorem ivX9_readWeight : hIv yX9_readWeight := ⟨List.mem_of_getElem? (i := 716) (by decide +kernel), List.mem_of_getElem? (i := 11) (by decide +kernel)⟩
theorem clX9_readNumber : hCl yX9_readNumber cX9_readNumber 4 (some .int) 1 := ⟨List.mem_of_getElem? (i := 722) (by decide +kernel), ini9, by decide +kernel, by decide +kernel⟩
theorem ivX9_readNumber : hIv yX9_readNumber := ⟨List.mem_of_getElem? (i := 721) (by decide +kernel), List.mem_of_getElem? (i := 12) (by decide +kernel)⟩
theorem clX9_readSemicolon : hCl yX9_readSemicolon cX9_readSemicolon 1 none 0 := ⟨List.mem_of_getElem? (i := 728) (by decide +kernel), ini9, by decide +kernel, by decide +kernel⟩
theorem ivX9_readSemicolon : hIv yX9_readSemicolon := ⟨List.mem_of_getElem? (i := 727) (by decide +kernel), List.mem_of_getElem? (i := 13) (by decide +kernel)⟩
theorem clX11_sheet : hCl yX11_sheet cX11_sheet 11 (some .boolean) 5 := ⟨List.mem_of_getElem? (i := 733) (by decide +kernel), ini11, by decide +kernel, by decide +kernel⟩
theorem ivX11_sheet : hIv yX11_sheet := ⟨List.mem_of_getElem? (i := 731) (by decide +kernel), List.mem_of_getElem? (i := 732) (by decide +kernel)⟩
theorem clX11_handWeight : hCl yX11_handWeight cX11_handWeight 12 (some .int) 5 := ⟨List.mem_of_getElem? (i := 736) (by decide +kernel), ini11, by decide +kernel, by decide +kernel⟩
theorem stX11_handWeight : Cond.static yX11_handWeight ∈ lw_tbl := List.mem_of_getElem? (i := 735) (by decide +kernel)
theorem clX2_clear : hCl yX2_clear cX2_clear 1 none 0 := ⟨List.mem_of_getElem? (i := 740) (by decide +kernel), ini2, by decide +kernel, by decide +kernel⟩
theorem ivX2_clear : hIv yX2_clear := ⟨List.mem_of_getElem? (i := 738) (by decide +kernel), List.mem_of_getElem? (i := 739) (by decide +kernel)⟩
theorem clX2_add : hCl yX2_add cX2_add 2 none 1 := ⟨List.mem_of_getElem? (i := 744) (by decide +kernel), ini2, by decide +kernel, by decide +kernel⟩
theorem ivX2_add : hIv yX2_add := ⟨List.mem_of_getElem? (i := 742) (by decide +kernel), List.mem_of_getElem? (i := 743) (by decide +kernel)⟩
theorem clX11_ship : hCl yX11_ship cX11_ship 10 (some .int) 6 := ⟨List.mem_of_getElem? (i := 748) (by decide +kernel), ini11, by decide +kernel, by decide +kernel⟩
theorem ivX11_ship : hIv yX11_ship := ⟨List.mem_of_getElem? (i := 746) (by decide +kernel), List.mem_of_getElem? (i := 747) (by decide +kernel)⟩
theorem clX2_copy : hCl yX2_copy cX2_copy 3 none 1 := ⟨List.mem_of_getElem? (i := 752) (by decide +kernel), ini2, by decide +kernel, by decide +kernel⟩
theorem ivX2_copy : hIv yX2_copy := ⟨List.mem_of_getElem? (i := 750) (by decide +kernel), List.mem_of_getElem? (i := 751) (by decide +kernel)⟩
theorem clX11_judge : hCl yX11_judge cX11_judge 5 (some .int) 2 := ⟨List.mem_of_getElem? (i := 758) (by decide +kernel), ini11, by decide +kernel, by decide +kernel⟩
theorem ivX11_judge : hIv yX11_judge := ⟨List.mem_of_getElem? (i := 756) (by decide +kernel), List.mem_of_getElem? (i := 757) (by decide +kernel)⟩
theorem clX10_latestOf : hCl yX10_latestOf cX10_latestOf 6 (some .int) 3 := ⟨List.mem_of_getElem? (i := 762) (by decide +kernel), ini10, by decide +kernel, by decide +kernel⟩
theorem ivX10_latestOf : hIv yX10_latestOf := ⟨List.mem_of_getElem? (i := 760) (by decide +kernel), List.mem_of_getElem? (i := 761) (by decide +kernel)⟩
theorem clX10_holds : hCl yX10_holds cX10_holds 4 (some .boolean) 3 := ⟨List.mem_of_getElem? (i := 766) (by decide +kernel), ini10, by decide +kernel, by decide +kernel⟩
theorem ivX10_holds : hIv yX10_holds := ⟨List.mem_of_getElem? (i := 764) (by decide +kernel), List.mem_of_getElem? (i := 765) (by decide +kernel)⟩
theorem clX10_supersedes : hCl yX10_supersedes cX10_supersedes 3 (some .boolean) 2 := ⟨List.mem_of_getElem? (i := 770) (by decide +kernel), ini10, by decide +kernel, by decide +kernel⟩
theorem ivX10_supersedes : hIv yX10_supersedes := ⟨List.mem_of_getElem? (i := 768) (by decide +kernel), List.mem_of_getElem? (i := 769) (by decide +kernel)⟩
theorem clX1_findLike : hCl yX1_findLike cX1_findLike 9 (some .int) 5 := ⟨List.mem_of_getElem? (i := 774) (by decide +kernel), ini1, by decide +kernel, by decide +kernel⟩
theorem ivX1_findLike : hIv yX1_findLike := ⟨List.mem_of_getElem? (i := 772) (by decide +kernel), List.mem_of_getElem? (i := 773) (by decide +kernel)⟩
theorem clX5_distance : hCl yX5_distance cX5_distance 7 (some .int) 2 := ⟨List.mem_of_getElem? (i := 779) (by decide +kernel), ini5, by decide +kernel, by decide +kernel⟩
theorem ivX5_distance : hIv yX5_distance := ⟨List.mem_of_getElem? (i := 777) (by decide +kernel), List.mem_of_getElem? (i := 778) (by decide +kernel)⟩
theorem clJ9_abs_0f7a4 : hCl yJ9_abs_0f7a4 cJ9_abs_0f7a4 1 (some .int) 1 := ⟨List.mem_of_getElem? (i := 782) (by decide +kernel), iniJ9, by decide +kernel, by decide +kernel⟩
theorem stJ9_abs_0f7a4 : Cond.static yJ9_abs_0f7a4 ∈ lw_tbl := List.mem_of_getElem? (i := 781) (by decide +kernel)
theorem clX1_sortAwards : hCl yX1_sortAwards cX1_sortAwards 7 none 3 := ⟨List.mem_of_getElem? (i := 786) (by decide +kernel), ini1, by decide +kernel, by decide +kernel⟩
theorem ivX1_sortAwards : hIv yX1_sortAwards := ⟨List.mem_of_getElem? (i := 784) (by decide +kernel), List.mem_of_getElem? (i := 785) (by decide +kernel)⟩
theorem clX5_rateOf : hCl yX5_rateOf cX5_rateOf 5 (some .int) 3 := ⟨List.mem_of_getElem? (i := 790) (by decide +kernel), ini5, by decide +kernel, by decide +kernel⟩
theorem ivX5_rateOf : hIv yX5_rateOf := ⟨List.mem_of_getElem? (i := 788) (by decide +kernel), List.mem_of_getElem? (i := 789) (by decide +kernel)⟩
theorem clX5_givenOf : hCl yX5_givenOf cX5_givenOf 3 (some .int) 2 := ⟨List.mem_of_getElem? (i := 794) (by decide +kernel), ini5, by decide +kernel, by decide +kernel⟩
theorem ivX5_givenOf : hIv yX5_givenOf := ⟨List.mem_of_getElem? (i := 793) (by decide +kernel), List.mem_of_getElem? (i := 14) (by decide +kernel)⟩
theorem clX5_mean : hCl yX5_mean cX5_mean 4 (some .int) 2 := ⟨List.mem_of_getElem? (i := 797) (by decide +kernel), ini5, by decide +kernel, by decide +kernel⟩
theorem stX5_mean : Cond.static yX5_mean ∈ lw_tbl := List.mem_of_getElem? (i := 796) (by decide +kernel)
theorem clJ9_min_7cf53 : hCl yJ9_min_7cf53 cJ9_min_7cf53 2 (some .int) 2 := ⟨List.mem_of_getElem? (i := 800) (by decide +kernel), iniJ9, by decide +kernel, by decide +kernel⟩
theorem stJ9_min_7cf53 : Cond.static yJ9_min_7cf53 ∈ lw_tbl := List.mem_of_getElem? (i := 799) (by decide +kernel)
theorem clX3_worthOfAll : hCl yX3_worthOfAll cX3_worthOfAll 6 (some .long) 2 := ⟨List.mem_of_getElem? (i := 804) (by decide +kernel), ini3, by decide +kernel, by decide +kernel⟩
theorem ivX3_worthOfAll : hIv yX3_worthOfAll := ⟨List.mem_of_getElem? (i := 802) (by decide +kernel), List.mem_of_getElem? (i := 803) (by decide +kernel)⟩
theorem clX3_worthOf : hCl yX3_worthOf cX3_worthOf 7 (some .int) 3 := ⟨List.mem_of_getElem? (i := 808) (by decide +kernel), ini3, by decide +kernel, by decide +kernel⟩
theorem ivX3_worthOf : hIv yX3_worthOf := ⟨List.mem_of_getElem? (i := 806) (by decide +kernel), List.mem_of_getElem? (i := 807) (by decide +kernel)⟩
theorem clX4_weighShips : hCl yX4_weighShips cX4_weighShips 5 none 3 := ⟨List.mem_of_getElem? (i := 814) (by decide +kernel), ini4, by decide +kernel, by decide +kernel⟩
theorem ivX4_weighShips : hIv yX4_weighShips := ⟨List.mem_of_getElem? (i := 812) (by decide +kernel), List.mem_of_getElem? (i := 813) (by decide +kernel)⟩
theorem clX4_partAmongShips : hCl yX4_partAmongShips cX4_partAmongShips 5 none 0 := ⟨List.mem_of_getElem? (i := 820) (by decide +kernel), ini4, by decide +kernel, by decide +kernel⟩
theorem ivX4_partAmongShips : hIv yX4_partAmongShips := ⟨List.mem_of_getElem? (i := 818) (by decide +kernel), List.mem_of_getElem? (i := 819) (by decide +kernel)⟩
theorem clX4_greatestRest : hCl yX4_greatestRest cX4_greatestRest 3 (some .int) 0 := ⟨List.mem_of_getElem? (i := 825) (by decide +kernel), ini4, by decide +kernel, by decide +kernel⟩
theorem ivX4_greatestRest : hIv yX4_greatestRest := ⟨List.mem_of_getElem? (i := 824) (by decide +kernel), List.mem_of_getElem? (i := 15) (by decide +kernel)⟩
theorem clX4_settle : hCl yX4_settle cX4_settle 4 none 2 := ⟨List.mem_of_getElem? (i := 830) (by decide +kernel), ini4, by decide +kernel, by decide +kernel⟩
theorem ivX4_settle : hIv yX4_settle := ⟨List.mem_of_getElem? (i := 828) (by decide +kernel), List.mem_of_getElem? (i := 829) (by decide +kernel)⟩
theorem clX6_loseLate : hCl yX6_loseLate cX6_loseLate 5 none 2 := ⟨List.mem_of_getElem? (i := 834) (by decide +kernel), ini6, by decide +kernel, by decide +kernel⟩
theorem ivX6_loseLate : hIv yX6_loseLate := ⟨List.mem_of_getElem? (i := 832) (by decide +kernel), List.mem_of_getElem? (i := 833) (by decide +kernel)⟩
theorem clJ9_min_f86c9 : hCl yJ9_min_f86c9 cJ9_min_f86c9 4 (some .long) 2 := ⟨List.mem_of_getElem? (i := 839) (by decide +kernel), iniJ9, by decide +kernel, by decide +kernel⟩
theorem stJ9_min_f86c9 : Cond.static yJ9_min_f86c9 ∈ lw_tbl := List.mem_of_getElem? (i := 838) (by decide +kernel)
theorem clX6_pay : hCl yX6_pay cX6_pay 2 none 1 := ⟨List.mem_of_getElem? (i := 843) (by decide +kernel), ini6, by decide +kernel, by decide +kernel⟩
theorem ivX6_pay : hIv yX6_pay := ⟨List.mem_of_getElem? (i := 841) (by decide +kernel), List.mem_of_getElem? (i := 842) (by decide +kernel)⟩
theorem clX6_payHands : hCl yX6_payHands cX6_payHands 5 none 1 := ⟨List.mem_of_getElem? (i := 848) (by decide +kernel), ini6, by decide +kernel, by decide +kernel⟩
theorem ivX6_payHands : hIv yX6_payHands := ⟨List.mem_of_getElem? (i := 847) (by decide +kernel), List.mem_of_getElem? (i := 16) (by decide +kernel)⟩
theorem clX11_judged : hCl yX11_judged cX11_judged 2 (some .long) 1 := ⟨List.mem_of_getElem? (i := 852) (by decide +kernel), ini11, by decide +kernel, by decide +kernel⟩
theorem ivX11_judged : hIv yX11_judged := ⟨List.mem_of_getElem? (i := 850) (by decide +kernel), List.mem_of_getElem? (i := 851) (by decide +kernel)⟩
theorem clX11_like : hCl yX11_like cX11_like 2 (some .int) 1 := ⟨List.mem_of_getElem? (i := 857) (by decide +kernel), ini11, by decide +kernel, by decide +kernel⟩
theorem ivX11_like : hIv yX11_like := ⟨List.mem_of_getElem? (i := 855) (by decide +kernel), List.mem_of_getElem? (i := 856) (by decide +kernel)⟩
theorem clX11_share : hCl yX11_share cX11_share 4 (some .long) 2 := ⟨List.mem_of_getElem? (i := 861) (by decide +kernel), ini11, by decide +kernel, by decide +kernel⟩
theorem ivX11_share : hIv yX11_share := ⟨List.mem_of_getElem? (i := 859) (by decide +kernel), List.mem_of_getElem? (i := 860) (by decide +kernel)⟩
theorem clX11_hand : hCl yX11_hand cX11_hand 4 (some .long) 2 := ⟨List.mem_of_getElem? (i := 865) (by decide +kernel), ini11, by decide +kernel, by decide +kernel⟩
theorem ivX11_hand : hIv yX11_hand := ⟨List.mem_of_getElem? (i := 863) (by decide +kernel), List.mem_of_getElem? (i := 864) (by decide +kernel)⟩
theorem clX11_saved : hCl yX11_saved cX11_saved 4 (some .int) 3 := ⟨List.mem_of_getElem? (i := 869) (by decide +kernel), ini11, by decide +kernel, by decide +kernel⟩
theorem ivX11_saved : hIv yX11_saved := ⟨List.mem_of_getElem? (i := 867) (by decide +kernel), List.mem_of_getElem? (i := 868) (by decide +kernel)⟩
theorem clX11_count : hCl yX11_count cX11_count 2 (some .int) 1 := ⟨List.mem_of_getElem? (i := 874) (by decide +kernel), ini11, by decide +kernel, by decide +kernel⟩
theorem ivX11_count : hIv yX11_count := ⟨List.mem_of_getElem? (i := 872) (by decide +kernel), List.mem_of_getElem? (i := 873) (by decide +kernel)⟩
theorem clX8_howManyBelieved : hCl yX8_howManyBelieved cX8_howManyBelieved 1 (some .int) 0 := ⟨List.mem_of_getElem? (i := 878) (by decide +kernel), ini8, by decide +kernel, by decide +kernel⟩
theorem ivX8_howManyBelieved : hIv yX8_howManyBelieved := ⟨List.mem_of_getElem? (i := 876) (by decide +kernel), List.mem_of_getElem? (i := 877) (by decide +kernel)⟩
theorem clX12_init : hCl yX12_init cX12_init 2 none 0 := ⟨List.mem_of_getElem? (i := 883) (by decide +kernel), ini12, by decide +kernel, by decide +kernel⟩
theorem imX12_init : Cond.instanceMethod yX12_init ∈ lw_tbl := List.mem_of_getElem? (i := 882) (by decide +kernel)
theorem clX12_clock : hCl yX12_clock cX12_clock 2 (some .boolean) 1 := ⟨List.mem_of_getElem? (i := 1069) (by decide +kernel), ini12, by decide +kernel, by decide +kernel⟩
theorem ivX12_clock : hIv yX12_clock := ⟨List.mem_of_getElem? (i := 1067) (by decide +kernel), List.mem_of_getElem? (i := 1068) (by decide +kernel)⟩
theorem clX12_in : hCl yX12_in cX12_in 3 (some .boolean) 3 := ⟨List.mem_of_getElem? (i := 1072) (by decide +kernel), ini12, by decide +kernel, by decide +kernel⟩
theorem stX12_in : Cond.static yX12_in ∈ lw_tbl := List.mem_of_getElem? (i := 1071) (by decide +kernel)
theorem clX12_trust : hCl yX12_trust cX12_trust 4 (some .int) 2 := ⟨List.mem_of_getElem? (i := 1076) (by decide +kernel), ini12, by decide +kernel, by decide +kernel⟩
theorem ivX12_trust : hIv yX12_trust := ⟨List.mem_of_getElem? (i := 1074) (by decide +kernel), List.mem_of_getElem? (i := 1075) (by decide +kernel)⟩
theorem clX12_says : hCl yX12_says cX12_says 6 (some .int) 5 := ⟨List.mem_of_getElem? (i := 1080) (by decide +kernel), ini12, by decide +kernel, by decide +kernel⟩
theorem ivX12_says : hIv yX12_says := ⟨List.mem_of_getElem? (i := 1078) (by decide +kernel), List.mem_of_getElem? (i := 1079) (by decide +kernel)⟩
theorem clX12_believed : hCl yX12_believed cX12_believed 2 (some .int) 1 := ⟨List.mem_of_getElem? (i := 1084) (by decide +kernel), ini12, by decide +kernel, by decide +kernel⟩
theorem ivX12_believed : hIv yX12_believed := ⟨List.mem_of_getElem? (i := 1082) (by decide +kernel), List.mem_of_getElem? (i := 1083) (by decide +kernel)⟩
theorem clX12_believe : hCl yX12_believe cX12_believe 5 none 0 := ⟨List.mem_of_getElem? (i := 1088) (by decide +kernel), ini12, by decide +kernel, by decide +kernel⟩
theorem ivX12_believe : hIv yX12_believe := ⟨List.mem_of_getElem? (i := 1087) (by decide +kernel), List.mem_of_getElem? (i := 17) (by decide +kernel)⟩
theorem clX12_canBe : hCl yX12_canBe cX12_canBe 4 (some .boolean) 0 := ⟨List.mem_of_getElem? (i := 1092) (by decide +kernel), ini12, by decide +kernel, by decide +kernel⟩
theorem ivX12_canBe : hIv yX12_canBe := ⟨List.mem_of_getElem? (i := 1091) (by decide +kernel), List.mem_of_getElem? (i := 18) (by decide +kernel)⟩
theorem clX12_spans : hCl yX12_spans cX12_spans 6 (some .int) 3 := ⟨List.mem_of_getElem? (i := 1097) (by decide +kernel), ini12, by decide +kernel, by decide +kernel⟩
theorem ivX12_spans : hIv yX12_spans := ⟨List.mem_of_getElem? (i := 1095) (by decide +kernel), List.mem_of_getElem? (i := 1096) (by decide +kernel)⟩
theorem clX12_quarrel : hCl yX12_quarrel cX12_quarrel 3 (some .int) 0 := ⟨List.mem_of_getElem? (i := 1102) (by decide +kernel), ini12, by decide +kernel, by decide +kernel⟩
theorem ivX12_quarrel : hIv yX12_quarrel := ⟨List.mem_of_getElem? (i := 1100) (by decide +kernel), List.mem_of_getElem? (i := 1101) (by decide +kernel)⟩
theorem clX12_quarrels : hCl yX12_quarrels cX12_quarrels 5 (some .int) 1 := ⟨List.mem_of_getElem? (i := 1106) (by decide +kernel), ini12, by decide +kernel, by decide +kernel⟩
theorem ivX12_quarrels : hIv yX12_quarrels := ⟨List.mem_of_getElem? (i := 1104) (by decide +kernel), List.mem_of_getElem? (i := 1105) (by decide +kernel)⟩
theorem clX12_value : hCl yX12_value cX12_value 5 (some .int) 4 := ⟨List.mem_of_getElem? (i := 1111) (by decide +kernel), ini12, by decide +kernel, by decide +kernel⟩
theorem ivX12_value : hIv yX12_value := ⟨List.mem_of_getElem? (i := 1109) (by decide +kernel), List.mem_of_getElem? (i := 1110) (by decide +kernel)⟩
theorem clX12_saved : hCl yX12_saved cX12_saved 6 (some .int) 3 := ⟨List.mem_of_getElem? (i := 1116) (by decide +kernel), ini12, by decide +kernel, by decide +kernel⟩
theorem ivX12_saved : hIv yX12_saved := ⟨List.mem_of_getElem? (i := 1114) (by decide +kernel), List.mem_of_getElem? (i := 1115) (by decide +kernel)⟩
theorem clX12_earlier : hCl yX12_earlier cX12_earlier 4 (some .int) 3 := ⟨List.mem_of_getElem? (i := 1120) (by decide +kernel), ini12, by decide +kernel, by decide +kernel⟩
theorem ivX12_earlier : hIv yX12_earlier := ⟨List.mem_of_getElem? (i := 1118) (by decide +kernel), List.mem_of_getElem? (i := 1119) (by decide +kernel)⟩
theorem clX12_overrule : hCl yX12_overrule cX12_overrule 3 (some .boolean) 2 := ⟨List.mem_of_getElem? (i := 1125) (by decide +kernel), ini12, by decide +kernel, by decide +kernel⟩
theorem ivX12_overrule : hIv yX12_overrule := ⟨List.mem_of_getElem? (i := 1123) (by decide +kernel), List.mem_of_getElem? (i := 1124) (by decide +kernel)⟩
theorem clX12_suit : hCl yX12_suit cX12_suit 3 (some .boolean) 2 := ⟨List.mem_of_getElem? (i := 1129) (by decide +kernel), ini12, by decide +kernel, by decide +kernel⟩
theorem ivX12_suit : hIv yX12_suit := ⟨List.mem_of_getElem? (i := 1127) (by decide +kernel), List.mem_of_getElem? (i := 1128) (by decide +kernel)⟩
theorem clX12_feed : hCl yX12_feed cX12_feed 6 (some .int) 5 := ⟨List.mem_of_getElem? (i := 1133) (by decide +kernel), ini12, by decide +kernel, by decide +kernel⟩
theorem ivX12_feed : hIv yX12_feed := ⟨List.mem_of_getElem? (i := 1131) (by decide +kernel), List.mem_of_getElem? (i := 1132) (by decide +kernel)⟩
theorem clX12_put : hCl yX12_put cX12_put 3 none 1 := ⟨List.mem_of_getElem? (i := 1137) (by decide +kernel), ini12, by decide +kernel, by decide +kernel⟩
theorem ivX12_put : hIv yX12_put := ⟨List.mem_of_getElem? (i := 1136) (by decide +kernel), List.mem_of_getElem? (i := 19) (by decide +kernel)⟩
theorem clX12_end : hCl yX12_end cX12_end 2 (some .int) 1 := ⟨List.mem_of_getElem? (i := 1141) (by decide +kernel), ini12, by decide +kernel, by decide +kernel⟩
theorem ivX12_end : hIv yX12_end := ⟨List.mem_of_getElem? (i := 1139) (by decide +kernel), List.mem_of_getElem? (i := 1140) (by decide +kernel)⟩
theorem clX12_law : hCl yX12_law cX12_law 5 (some .int) 1 := ⟨List.mem_of_getElem? (i := 1145) (by decide +kernel), ini12, by decide +kernel, by decide +kernel⟩
theorem ivX12_law : hIv yX12_law := ⟨List.mem_of_getElem? (i := 1143) (by decide +kernel), List.mem_of_getElem? (i := 1144) (by decide +kernel)⟩
theorem clX12_isEnd : hCl yX12_isEnd cX12_isEnd 1 (some .boolean) 0 := ⟨List.mem_of_getElem? (i := 1149) (by decide +kernel), ini12, by decide +kernel, by decide +kernel⟩
theorem ivX12_isEnd : hIv yX12_isEnd := ⟨List.mem_of_getElem? (i := 1148) (by decide +kernel), List.mem_of_getElem? (i := 20) (by decide +kernel)⟩
theorem clX12_clause : hCl yX12_clause cX12_clause 4 none 2 := ⟨List.mem_of_getElem? (i := 1153) (by decide +kernel), ini12, by decide +kernel, by decide +kernel⟩
theorem ivX12_clause : hIv yX12_clause := ⟨List.mem_of_getElem? (i := 1152) (by decide +kernel), List.mem_of_getElem? (i := 21) (by decide +kernel)⟩
theorem clX12_word : hCl yX12_word cX12_word 1 none 0 := ⟨List.mem_of_getElem? (i := 1157) (by decide +kernel), ini12, by decide +kernel, by decide +kernel⟩
theorem ivX12_word : hIv yX12_word := ⟨List.mem_of_getElem? (i := 1156) (by decide +kernel), List.mem_of_getElem? (i := 22) (by decide +kernel)⟩
theorem clX12_fails : hCl yX12_fails cX12_fails 3 none 2 := ⟨List.mem_of_getElem? (i := 1161) (by decide +kernel), ini12, by decide +kernel, by decide +kernel⟩
theorem ivX12_fails : hIv yX12_fails := ⟨List.mem_of_getElem? (i := 1160) (by decide +kernel), List.mem_of_getElem? (i := 23) (by decide +kernel)⟩
theorem clX12_is : hCl yX12_is cX12_is 4 (some .boolean) 1 := ⟨List.mem_of_getElem? (i := 1166) (by decide +kernel), ini12, by decide +kernel, by decide +kernel⟩
theorem ivX12_is : hIv yX12_is := ⟨List.mem_of_getElem? (i := 1165) (by decide +kernel), List.mem_of_getElem? (i := 24) (by decide +kernel)⟩
theorem clX12_markOf : hCl yX12_markOf cX12_markOf 2 (some (.object "java/lang/String")) 1 := ⟨List.mem_of_getElem? (i := 1172) (by decide +kernel), ini12, by decide +kernel, by decide +kernel⟩
theorem ivX12_markOf : hIv yX12_markOf := ⟨List.mem_of_getElem? (i := 1171) (by decide +kernel), List.mem_of_getElem? (i := 25) (by decide +kernel)⟩
theorem clX12_number : hCl yX12_number cX12_number 4 (some .int) 2 := ⟨List.mem_of_getElem? (i := 1181) (by decide +kernel), ini12, by decide +kernel, by decide +kernel⟩
theorem ivX12_number : hIv yX12_number := ⟨List.mem_of_getElem? (i := 1180) (by decide +kernel), List.mem_of_getElem? (i := 26) (by decide +kernel)⟩
theorem clX12_clauseOf : hCl yX12_clauseOf cX12_clauseOf 2 (some (.object "java/lang/String")) 1 := ⟨List.mem_of_getElem? (i := 1185) (by decide +kernel), ini12, by decide +kernel, by decide +kernel⟩
theorem ivX12_clauseOf : hIv yX12_clauseOf := ⟨List.mem_of_getElem? (i := 1184) (by decide +kernel), List.mem_of_getElem? (i := 27) (by decide +kernel)⟩
theorem clX12_gives : hCl yX12_gives cX12_gives 1 (some .int) 0 := ⟨List.mem_of_getElem? (i := 1194) (by decide +kernel), ini12, by decide +kernel, by decide +kernel⟩
theorem ivX12_gives : hIv yX12_gives := ⟨List.mem_of_getElem? (i := 1193) (by decide +kernel), List.mem_of_getElem? (i := 28) (by decide +kernel)⟩
theorem clX12_sheet : hCl yX12_sheet cX12_sheet 14 (some .boolean) 5 := ⟨List.mem_of_getElem? (i := 1203) (by decide +kernel), ini12, by decide +kernel, by decide +kernel⟩
theorem ivX12_sheet : hIv yX12_sheet := ⟨List.mem_of_getElem? (i := 1201) (by decide +kernel), List.mem_of_getElem? (i := 1202) (by decide +kernel)⟩
theorem clX12_ship : hCl yX12_ship cX12_ship 9 (some .int) 6 := ⟨List.mem_of_getElem? (i := 1208) (by decide +kernel), ini12, by decide +kernel, by decide +kernel⟩
theorem ivX12_ship : hIv yX12_ship := ⟨List.mem_of_getElem? (i := 1206) (by decide +kernel), List.mem_of_getElem? (i := 1207) (by decide +kernel)⟩
theorem clX12_judge : hCl yX12_judge cX12_judge 7 (some .int) 2 := ⟨List.mem_of_getElem? (i := 1212) (by decide +kernel), ini12, by decide +kernel, by decide +kernel⟩
theorem ivX12_judge : hIv yX12_judge := ⟨List.mem_of_getElem? (i := 1210) (by decide +kernel), List.mem_of_getElem? (i := 1211) (by decide +kernel)⟩
theorem clX12_distance : hCl yX12_distance cX12_distance 7 (some .int) 2 := ⟨List.mem_of_getElem? (i := 1216) (by decide +kernel), ini12, by decide +kernel, by decide +kernel⟩
theorem ivX12_distance : hIv yX12_distance := ⟨List.mem_of_getElem? (i := 1215) (by decide +kernel), List.mem_of_getElem? (i := 29) (by decide +kernel)⟩
theorem clX12_rated : hCl yX12_rated cX12_rated 7 (some .int) 1 := ⟨List.mem_of_getElem? (i := 1220) (by decide +kernel), ini12, by decide +kernel, by decide +kernel⟩
theorem ivX12_rated : hIv yX12_rated := ⟨List.mem_of_getElem? (i := 1219) (by decide +kernel), List.mem_of_getElem? (i := 30) (by decide +kernel)⟩
theorem clX12_parts : hCl yX12_parts cX12_parts 9 none 1 := ⟨List.mem_of_getElem? (i := 1225) (by decide +kernel), ini12, by decide +kernel, by decide +kernel⟩
theorem ivX12_parts : hIv yX12_parts := ⟨List.mem_of_getElem? (i := 1224) (by decide +kernel), List.mem_of_getElem? (i := 31) (by decide +kernel)⟩
theorem clX12_aboard : hCl yX12_aboard cX12_aboard 13 none 2 := ⟨List.mem_of_getElem? (i := 1230) (by decide +kernel), ini12, by decide +kernel, by decide +kernel⟩
theorem ivX12_aboard : hIv yX12_aboard := ⟨List.mem_of_getElem? (i := 1229) (by decide +kernel), List.mem_of_getElem? (i := 32) (by decide +kernel)⟩
theorem clX12_judged : hCl yX12_judged cX12_judged 2 (some .long) 1 := ⟨List.mem_of_getElem? (i := 1235) (by decide +kernel), ini12, by decide +kernel, by decide +kernel⟩
theorem ivX12_judged : hIv yX12_judged := ⟨List.mem_of_getElem? (i := 1233) (by decide +kernel), List.mem_of_getElem? (i := 1234) (by decide +kernel)⟩
theorem clX12_like : hCl yX12_like cX12_like 2 (some .int) 1 := ⟨List.mem_of_getElem? (i := 1240) (by decide +kernel), ini12, by decide +kernel, by decide +kernel⟩
theorem ivX12_like : hIv yX12_like := ⟨List.mem_of_getElem? (i := 1238) (by decide +kernel), List.mem_of_getElem? (i := 1239) (by decide +kernel)⟩
theorem clX12_share : hCl yX12_share cX12_share 3 (some .long) 2 := ⟨List.mem_of_getElem? (i := 1244) (by decide +kernel), ini12, by decide +kernel, by decide +kernel⟩
theorem ivX12_share : hIv yX12_share := ⟨List.mem_of_getElem? (i := 1242) (by decide +kernel), List.mem_of_getElem? (i := 1243) (by decide +kernel)⟩
theorem clX12_hand : hCl yX12_hand cX12_hand 3 (some .long) 2 := ⟨List.mem_of_getElem? (i := 1248) (by decide +kernel), ini12, by decide +kernel, by decide +kernel⟩
theorem ivX12_hand : hIv yX12_hand := ⟨List.mem_of_getElem? (i := 1246) (by decide +kernel), List.mem_of_getElem? (i := 1247) (by decide +kernel)⟩
theorem clX12_count : hCl yX12_count cX12_count 4 (some .int) 1 := ⟨List.mem_of_getElem? (i := 1252) (by decide +kernel), ini12, by decide +kernel, by decide +kernel⟩
theorem ivX12_count : hIv yX12_count := ⟨List.mem_of_getElem? (i := 1250) (by decide +kernel), List.mem_of_getElem? (i := 1251) (by decide +kernel)⟩
theorem im_obj : Cond.instanceMethod objectInit ∈ lw_tbl := List.mem_of_getElem? (i := 59) (by decide +kernel)
theorem co_obj : Cond.code objectInit ⟨#[0xb1]⟩ 1 none ∈ lw_tbl := List.mem_of_getElem? (i := 60) (by decide +kernel)
end
section
/-! The memory: all objects of one court and one model, by numbers. Pure contents; addresses apart. -/
abbrev hEnv : Type := va_G × (Nat → ClassId) × (Nat → Nat → Nat → Nat) × (Nat → Nat) × (Nat → Nat)
abbrev hMem : Type := (Nat → Nat → Int32) × (Nat → Nat → Int64) × (Nat → Nat → Nat → Nat → Int32) × (Nat → Nat → Nat → Nat → Int64)
abbrev hId : Type := Nat × Nat × Nat
def hI (σ : hMem) (j k : Nat) : Int32 := σ.1 j k
def hL (σ : hMem) (j k : Nat) : Int64 := σ.2.1 j k
def hA (σ : hMem) (j k i : Nat) : Nat → Int32 := σ.2.2.1 j k i
def hB (σ : hMem) (j k i : Nat) : Nat → Int64 := σ.2.2.2 j k i
def sI (σ : hMem) (j k : Nat) (v : Int32) : hMem := (fun a b => if a = j ∧ b = k then v else σ.1 a b, σ.2)
def sL (σ : hMem) (j k : Nat) (v : Int64) : hMem := (σ.1, fun a b => if a = j ∧ b = k then v else σ.2.1 a b, σ.2.2)
def sA (σ : hMem) (j k i : Nat) (f : Nat → Int32) : hMem := (σ.1, σ.2.1, fun a b d => if a = j ∧ b = k ∧ d = i then f else σ.2.2.1 a b d, σ.2.2.2)
def sB (σ : hMem) (j k i : Nat) (f : Nat → Int64) : hMem := (σ.1, σ.2.1, σ.2.2.1, fun a b d => if a = j ∧ b = k ∧ d = i then f else σ.2.2.2 a b d)
theorem hI_sI (σ : hMem) (j k : Nat) (v : Int32) (a b : Nat) : hI (sI σ j k v) a b = if a = j ∧ b = k then v else hI σ a b := rfl
theorem hI_sL (σ : hMem) (j k : Nat) (v : Int64) (a b : Nat) : hI (sL σ j k v) a b = hI σ a b := rfl
theorem hI_sA (σ : hMem) (j k i : Nat) (v : Nat → Int32) (a b : Nat) : hI (sA σ j k i v) a b = hI σ a b := rfl
theorem hI_sB (σ : hMem) (j k i : Nat) (v : Nat → Int64) (a b : Nat) : hI (sB σ j k i v) a b = hI σ a b := rfl
theorem hL_sI (σ : hMem) (j k : Nat) (v : Int32) (a b : Nat) : hL (sI σ j k v) a b = hL σ a b := rfl
theorem hL_sL (σ : hMem) (j k : Nat) (v : Int64) (a b : Nat) : hL (sL σ j k v) a b = if a = j ∧ b = k then v else hL σ a b := rfl
theorem hL_sA (σ : hMem) (j k i : Nat) (v : Nat → Int32) (a b : Nat) : hL (sA σ j k i v) a b = hL σ a b := rfl
theorem hL_sB (σ : hMem) (j k i : Nat) (v : Nat → Int64) (a b : Nat) : hL (sB σ j k i v) a b = hL σ a b := rfl
theorem hA_sI (σ : hMem) (j k : Nat) (v : Int32) (a b d : Nat) : hA (sI σ j k v) a b d = hA σ a b d := rfl
theorem hA_sL (σ : hMem) (j k : Nat) (v : Int64) (a b d : Nat) : hA (sL σ j k v) a b d = hA σ a b d := rfl
theorem hA_sA (σ : hMem) (j k i : Nat) (v : Nat → Int32) (a b d : Nat) : hA (sA σ j k i v) a b d = if a = j ∧ b = k ∧ d = i then v else hA σ a b d := rfl
theorem hA_sB (σ : hMem) (j k i : Nat) (v : Nat → Int64) (a b d : Nat) : hA (sB σ j k i v) a b d = hA σ a b d := rfl
theorem hB_sI (σ : hMem) (j k : Nat) (v : Int32) (a b d : Nat) : hB (sI σ j k v) a b d = hB σ a b d := rfl
theorem hB_sL (σ : hMem) (j k : Nat) (v : Int64) (a b d : Nat) : hB (sL σ j k v) a b d = hB σ a b d := rfl
theorem hB_sA (σ : hMem) (j k i : Nat) (v : Nat → Int32) (a b d : Nat) : hB (sA σ j k i v) a b d = hB σ a b d := rfl
theorem hB_sB (σ : hMem) (j k i : Nat) (v : Nat → Int64) (a b d : Nat) : hB (sB σ j k i v) a b d = if a = j ∧ b = k ∧ d = i then v else hB σ a b d := rfl
/-- a field: 0 int, 1 long, 2 the object t, 3 an array of ints (bytes, booleans) of type t and length n, 4 of longs, 5 rows of ints, 6 rows of longs, 7 an array of the objects from b on -/
abbrev hEn : Type := Nat × Nat × Nat × Nat
abbrev e0 : hEn := (0, 0, 0, 0)
abbrev e1 : hEn := (1, 0, 0, 0)
abbrev eO (t : Nat) : hEn := (2, t, 0, 0)
abbrev eI (n : Nat) : hEn := (3, 0, n, 0)
abbrev eZ (n : Nat) : hEn := (3, 2, n, 0)
abbrev eB (n : Nat) : hEn := (3, 3, n, 0)
abbrev eJ (n : Nat) : hEn := (4, 1, n, 0)
abbrev eII (n m : Nat) : hEn := (5, 0, n, m)
abbrev eJJ (n m : Nat) : hEn := (6, 1, n, m)
def layCourt : List hEn := [eO 1, eO 4, eO 6, eO 9, (7, 6, 6, 13), eO 10, eO 11, (7, 7, 8, 19), eO 12, e0, e0, e0, e0, e0]
def layTale : List hEn := [eI 6, eI 40, eI 40, eI 40, eI 40, eI 40, e0, eO 2, eZ 40, e0, e0, eO 3, eZ 40, e0, e0]
def layBounds : List hEn := [eI 256]
def layGoods : List hEn := [eI 60, eI 60, eO 5, e0]
def layTimes (n : Nat) : List hEn := [eI n, eI n]
def layCases : List hEn := [eI 40, eI 40, eO 7, eO 8, e0]
def layTape : List hEn := [eB 300, e0, e0, e0, e0, e0]
def layCrew : List hEn := [eI 60, e0, e0]
def layJudg : List hEn := [eI 40, eI 40, (7, 8, 8, 35), e0, e0, e0, e1, e1, e1, e0, e1]
def layLaw : List hEn := [eI 5, e0, e0, e0, e0, e0, e0]
def layShip (j : Nat) : List hEn := [eO j, e0, e0, e0, e0, e0, e0]
def layPart : List hEn := [eJ 60, e1, e1, e1, e1, e1, e1, e1, e1, e0]
def layModel : List hEn := [e0, e0, eI 6, e0, eI 40, eI 40, eI 40, eI 40, eI 40, eJJ 16 16, eZ 40, e0, eI 60, eI 60, eI 60, eI 60, eI 60, e0, eI 40, eI 40, eI 40, eI 40, eI 40, eI 40, e0, e0, e0, eI 6, eI 6, eII 7 11, eB 300, e0, e0, e0, e0, e0, e0, eI 60, e0, eI 8, eI 8, eI 8, eI 8, eI 8, eI 8, eI 8, eII 8 60, e0, e0, e0, e0, e0, eI 40, e1, e1, e1, eJJ 8 7, eJJ 8 60, eI 8]
def hLay (j : Nat) : List hEn :=
  if j < 13 then (match j with
    | 0 => layCourt
    | 1 => layTale
    | 2 => layBounds
    | 3 => layBounds
    | 4 => layGoods
    | 5 => layTimes 60
    | 6 => layCases
    | 7 => layTimes 40
    | 8 => layTimes 40
    | 9 => layTape
    | 10 => layTimes 6
    | 11 => layCrew
    | _ => layJudg)
  else if j < 19 then layLaw else if j < 27 then layShip (j + 8) else if j < 35 then layCrew else if j < 43 then layPart else if j = 43 then layModel else []
/-- the class of an object, by its place among the classes -/
def hCi (j : Nat) : Nat :=
  if j < 13 then (match j with
    | 0 => 11
    | 1 => 8
    | 2 => 0
    | 3 => 0
    | 4 => 3
    | 5 => 10
    | 6 => 1
    | 7 => 10
    | 8 => 10
    | 9 => 9
    | 10 => 10
    | 11 => 2
    | _ => 4)
  else if j < 19 then 5 else if j < 27 then 7 else if j < 35 then 2 else if j < 43 then 6 else 12
def hTy (t : Nat) : FieldType := match t with
  | 0 => .int
  | 1 => .long
  | 2 => .boolean
  | 3 => .byte
  | 4 => .array .int
  | 5 => .array .long
  | 6 => .object "SalvageCourt$Law"
  | 7 => .object "SalvageCourt$Ship"
  | _ => .object "SalvageCourt$Part"
def hTys (E : hEnv) : List (ClassId × FieldType) := (List.range 9).map (fun t => (E.2.1 t, hTy t))
def hAd (E : hEnv) (c : hId) : Nat := E.2.2.1 c.1 c.2.1 c.2.2
/-- the object j; the row i of its slot k (1000: the row of the rows) -/
def hO (E : hEnv) (j : Nat) : Nat := hAd E (j, 0, 0)
def hR (E : hEnv) (j k i : Nat) : Nat := hAd E (j, k + 1, i)
def hFv (E : hEnv) (σ : hMem) (j k : Nat) (e : hEn) : Value := match e.1 with
  | 0 => .int (hI σ j k)
  | 1 => .long (hL σ j k)
  | 2 => .ref (hO E e.2.1)
  | 3 => .ref (hR E j k 0)
  | 4 => .ref (hR E j k 0)
  | 7 => .ref (hR E j k 0)
  | _ => .ref (hR E j k 1000)
def hFs (E : hEnv) (σ : hMem) (j : Nat) : List Value := (hLay j).mapIdx (fun k e => hFv E σ j k e)
abbrev hRefs (n : Nat) (f : Nat → Nat) : vp_A := (n, .inr (.inr (.inr (.inr (fun i => if i < n then some (f i) else none)))))
def hArr (E : hEnv) (σ : hMem) (j k i : Nat) (e : hEn) : va_E := match e.1 with
  | 3 => .inl (E.2.1 e.2.1, e.2.2.1, .inl (hA σ j k 0))
  | 4 => .inl (E.2.1 e.2.1, e.2.2.1, .inr (.inl (hB σ j k 0)))
  | 5 => if i = 1000 then .inl (E.2.1 4, hRefs e.2.2.1 (fun x => hR E j k x)) else .inl (E.2.1 0, e.2.2.2, .inl (hA σ j k i))
  | 6 => if i = 1000 then .inl (E.2.1 5, hRefs e.2.2.1 (fun x => hR E j k x)) else .inl (E.2.1 1, e.2.2.2, .inr (.inl (hB σ j k i)))
  | _ => .inl (E.2.1 e.2.1, hRefs e.2.2.1 (fun x => hO E (e.2.2.2 + x)))
def hCont (E : hEnv) (σ : hMem) (c : hId) : va_E := match c.2.1 with
  | 0 => .inr (hCi c.1, hFs E σ c.1)
  | k + 1 => match (hLay c.1)[k]? with
    | some e => hArr E σ c.1 k c.2.2 e
    | none => .inr (0, [])
def hSub (j k : Nat) (e : hEn) : List hId := match e.1 with
  | 0 => []
  | 1 => []
  | 2 => []
  | 5 => (j, k + 1, 1000) :: (List.range e.2.2.1).map (fun i => (j, k + 1, i))
  | 6 => (j, k + 1, 1000) :: (List.range e.2.2.1).map (fun i => (j, k + 1, i))
  | _ => [(j, k + 1, 0)]
def hIdsOf (j : Nat) : List hId := (j, 0, 0) :: (hLay j).zipIdx.flatMap (fun q => hSub j q.2 q.1)
def hIds : List hId := (List.range 44).flatMap hIdsOf
theorem hW_ex : ∃ f : hEnv → hMem → va_W, ∀ E σ, f E σ = hIds.map (fun c => (hAd E c, hCont E σ c)) := ⟨_, fun _ _ => rfl⟩
/-- the world of a memory, closed: it is opened by hW_eq alone -/
noncomputable def hW (E : hEnv) (σ : hMem) : va_W := Classical.choose hW_ex E σ
theorem hW_eq (E : hEnv) (σ : hMem) : hW E σ = hIds.map (fun c => (hAd E c, hCont E σ c)) := Classical.choose_spec hW_ex E σ
theorem hIds_o {j : Nat} (h : j < 44) : (j, 0, 0) ∈ hIds := List.mem_flatMap.mpr ⟨j, List.mem_range.mpr h, List.mem_cons_self⟩
theorem hIds_s {j k : Nat} {e : hEn} {c : hId} (h : j < 44) (hl : (hLay j)[k]? = some e) (hc : c ∈ hSub j k e) : c ∈ hIds := by
  refine List.mem_flatMap.mpr ⟨j, List.mem_range.mpr h, List.mem_cons_of_mem _ (List.mem_flatMap.mpr ⟨(e, k), ?_, hc⟩)⟩
  rw [List.mem_zipIdx_iff_getElem?]
  exact hl
theorem hW_at {E : hEnv} {σ : hMem} {Z : va_W} {c : hId} (h : c ∈ hIds) : ∃ q : Nat, (hW E σ ++ Z)[q]? = some (hAd E c, hCont E σ c) := by
  have h1 : (hAd E c, hCont E σ c) ∈ hW E σ ++ Z := List.mem_append_left _ (by rw [hW_eq]; exact List.mem_map.mpr ⟨c, h, rfl⟩)
  exact List.getElem?_of_mem h1
theorem hW_set {E : hEnv} {σ σ' : hMem} {Z : va_W} {c : hId} {A : Nat → Prop} {q : Nat} {e : va_E} (hD : va_D A (hW E σ ++ Z)) (hq : (hW E σ ++ Z)[q]? = some (hAd E c, hCont E σ c)) (hc : c ∈ hIds) (h1 : hCont E σ' c = e) (h2 : ∀ d, d ∈ hIds → d ≠ c → hCont E σ' d = hCont E σ d) : (hW E σ ++ Z).set q (hAd E c, e) = hW E σ' ++ Z := by
  obtain ⟨p, hp⟩ := List.getElem?_of_mem hc
  have hpw : (hW E σ ++ Z)[p]? = some (hAd E c, hCont E σ c) := by
    have hl : p < (hW E σ).length := by
      rw [hW_eq, List.length_map]
      exact (List.getElem?_eq_some_iff.mp hp).1
    rw [List.getElem?_append_left hl, hW_eq, List.getElem?_map, hp]
    rfl
  have hpq : p = q := hD.1 p q _ _ hpw hq rfl
  subst hpq
  have hl : p < (hW E σ).length := by
    rw [hW_eq, List.length_map]
    exact (List.getElem?_eq_some_iff.mp hp).1
  rw [List.set_append_left _ _ hl]
  congr 1
  apply List.ext_getElem?
  intro i
  by_cases hi : i = p
  · subst hi
    rw [List.getElem?_set_self hl, hW_eq, List.getElem?_map, hp, ← h1]
    rfl
  · rw [List.getElem?_set_ne (fun h => hi h.symm), hW_eq, hW_eq, List.getElem?_map, List.getElem?_map]
    cases hx : hIds[i]? with
    | none => rfl
    | some d =>
      have hd : d ≠ c := fun h => by
        subst h
        have hiw : (hW E σ ++ Z)[i]? = some (hAd E d, hCont E σ d) := by
          have hl2 : i < (hW E σ).length := by
            rw [hW_eq, List.length_map]
            exact (List.getElem?_eq_some_iff.mp hx).1
          rw [List.getElem?_append_left hl2, hW_eq, List.getElem?_map, hx]
          rfl
        exact hi (hD.1 i p _ _ hiw hpw rfl)
      show some (hAd E d, hCont E σ d) = some (hAd E d, hCont E σ' d)
      rw [h2 d (List.mem_of_getElem? hx) hd]
theorem hFs_at {E : hEnv} {σ : hMem} {j k : Nat} {e : hEn} (h : (hLay j)[k]? = some e) : (hFs E σ j)[k]? = some (hFv E σ j k e) := by
  rw [hFs, List.getElem?_mapIdx, h]
  rfl
theorem hCont_o (E : hEnv) (σ : hMem) (j : Nat) : hCont E σ (j, 0, 0) = .inr (hCi j, hFs E σ j) := rfl
theorem hCont_s {E : hEnv} {σ : hMem} {j k i : Nat} {e : hEn} (h : (hLay j)[k]? = some e) : hCont E σ (j, k + 1, i) = hArr E σ j k i e := by
  show (match (hLay j)[k]? with | some e => hArr E σ j k i e | none => .inr (0, [])) = _
  rw [h]
/-- a scalar's new value -/
theorem hFs_set {E : hEnv} {σ σ' : hMem} {j k : Nat} {e : hEn} {v : Value} (h : (hLay j)[k]? = some e) (h1 : hFv E σ' j k e = v) (h2 : ∀ k' e', k' ≠ k → hFv E σ' j k' e' = hFv E σ j k' e') : (hFs E σ j).set k v = hFs E σ' j := by
  have hl : k < (hFs E σ j).length := by
    rw [hFs, List.length_mapIdx]
    exact (List.getElem?_eq_some_iff.mp h).1
  apply List.ext_getElem?
  intro i
  by_cases hi : i = k
  · subst hi
    rw [List.getElem?_set_self hl, hFs_at h, h1]
  · rw [List.getElem?_set_ne (fun q => hi q.symm), hFs, hFs, List.getElem?_mapIdx, List.getElem?_mapIdx]
    cases hx : (hLay j)[i]? with
    | none => rfl
    | some e' =>
      show some (hFv E σ j i e') = some (hFv E σ' j i e')
      rw [h2 i e' hi]
theorem hFv_sI (E : hEnv) (σ : hMem) (j k : Nat) (v : Int32) (a b : Nat) (e : hEn) (h : ¬ (a = j ∧ b = k)) : hFv E (sI σ j k v) a b e = hFv E σ a b e := by
  unfold hFv
  split <;> simp [hI_sI, hL_sI, h]
theorem hFv_sL (E : hEnv) (σ : hMem) (j k : Nat) (v : Int64) (a b : Nat) (e : hEn) (h : ¬ (a = j ∧ b = k)) : hFv E (sL σ j k v) a b e = hFv E σ a b e := by
  unfold hFv
  split <;> simp [hI_sL, hL_sL, h]
theorem hFv_sA (E : hEnv) (σ : hMem) (j k i : Nat) (v : Nat → Int32) (a b : Nat) (e : hEn) : hFv E (sA σ j k i v) a b e = hFv E σ a b e := rfl
theorem hFv_sB (E : hEnv) (σ : hMem) (j k i : Nat) (v : Nat → Int64) (a b : Nat) (e : hEn) : hFv E (sB σ j k i v) a b e = hFv E σ a b e := rfl
theorem hFs_oI (E : hEnv) (σ : hMem) (j k : Nat) (v : Int32) (a : Nat) (h : a ≠ j) : hFs E (sI σ j k v) a = hFs E σ a := by
  unfold hFs
  congr 1
  funext b e
  exact hFv_sI E σ j k v a b e (fun q => h q.1)
theorem hFs_oL (E : hEnv) (σ : hMem) (j k : Nat) (v : Int64) (a : Nat) (h : a ≠ j) : hFs E (sL σ j k v) a = hFs E σ a := by
  unfold hFs
  congr 1
  funext b e
  exact hFv_sL E σ j k v a b e (fun q => h q.1)
theorem hIds_0 {a i : Nat} (h : (a, 0, i) ∈ hIds) : i = 0 := by
  obtain ⟨j, -, h⟩ := List.mem_flatMap.mp h
  rcases List.mem_cons.mp h with h | h
  · cases h
    rfl
  · obtain ⟨q, -, h⟩ := List.mem_flatMap.mp h
    exfalso
    revert h
    unfold hSub
    split <;> intro h
    · cases h
    · cases h
    · cases h
    · rcases List.mem_cons.mp h with h | h
      · cases h
      · obtain ⟨x, -, h⟩ := List.mem_map.mp h
        cases h
    · rcases List.mem_cons.mp h with h | h
      · cases h
      · obtain ⟨x, -, h⟩ := List.mem_map.mp h
        cases h
    · rcases List.mem_cons.mp h with h | h
      · cases h
      · cases h
theorem hCont_sI (E : hEnv) (σ : hMem) (j k : Nat) (v : Int32) (d : hId) (hd : d ∈ hIds) (h : d ≠ (j, 0, 0)) : hCont E (sI σ j k v) d = hCont E σ d := by
  obtain ⟨a, b, i⟩ := d
  cases b with
  | zero =>
    have hi := hIds_0 hd
    subst hi
    have ha : a ≠ j := fun q => h (by rw [q])
    show (Sum.inr (hCi a, hFs E (sI σ j k v) a) : va_E) = .inr (hCi a, hFs E σ a)
    rw [hFs_oI E σ j k v a ha]
  | succ b => rfl
theorem hCont_sL (E : hEnv) (σ : hMem) (j k : Nat) (v : Int64) (d : hId) (hd : d ∈ hIds) (h : d ≠ (j, 0, 0)) : hCont E (sL σ j k v) d = hCont E σ d := by
  obtain ⟨a, b, i⟩ := d
  cases b with
  | zero =>
    have hi := hIds_0 hd
    subst hi
    have ha : a ≠ j := fun q => h (by rw [q])
    show (Sum.inr (hCi a, hFs E (sL σ j k v) a) : va_E) = .inr (hCi a, hFs E σ a)
    rw [hFs_oL E σ j k v a ha]
  | succ b => rfl
/-- a 1-dimensional slot has the row 0 alone -/
theorem hIds_1 {j k i : Nat} {e : hEn} (hl : (hLay j)[k]? = some e) (h5 : e.1 ≠ 5) (h6 : e.1 ≠ 6) (h : (j, k + 1, i) ∈ hIds) : i = 0 := by
  obtain ⟨j', -, h⟩ := List.mem_flatMap.mp h
  rcases List.mem_cons.mp h with h | h
  · cases h
  · obtain ⟨⟨e', k'⟩, hq, h⟩ := List.mem_flatMap.mp h
    rw [List.mem_zipIdx_iff_getElem?] at hq
    dsimp only at hq h
    have key : j = j' ∧ k = k' ∧ (i = 0 ∨ e'.1 = 5 ∨ e'.1 = 6) := by
      revert h
      unfold hSub
      split <;> intro h
      · cases h
      · cases h
      · cases h
      · rename_i h9
        rcases List.mem_cons.mp h with h | h
        · cases h
          exact ⟨rfl, rfl, Or.inr (Or.inl h9)⟩
        · obtain ⟨x, -, h⟩ := List.mem_map.mp h
          cases h
          exact ⟨rfl, rfl, Or.inr (Or.inl h9)⟩
      · rename_i h9
        rcases List.mem_cons.mp h with h | h
        · cases h
          exact ⟨rfl, rfl, Or.inr (Or.inr h9)⟩
        · obtain ⟨x, -, h⟩ := List.mem_map.mp h
          cases h
          exact ⟨rfl, rfl, Or.inr (Or.inr h9)⟩
      · rcases List.mem_cons.mp h with h | h
        · cases h
          exact ⟨rfl, rfl, Or.inl rfl⟩
        · cases h
    obtain ⟨rfl, rfl, hk⟩ := key
    rw [hl] at hq
    cases hq
    rcases hk with hk | hk | hk
    · exact hk
    · exact absurd hk h5
    · exact absurd hk h6
theorem hArr_sA (E : hEnv) (σ : hMem) (j k i : Nat) (f : Nat → Int32) (a b d : Nat) (e : hEn) (h : ¬ (a = j ∧ b = k ∧ d = i)) (h0 : ¬ (a = j ∧ b = k ∧ 0 = i) ∨ e.1 = 5 ∨ e.1 = 6) : hArr E (sA σ j k i f) a b d e = hArr E σ a b d e := by
  unfold hArr
  split
  · rename_i h9
    rcases h0 with h0 | h0 | h0
    · simp [hA_sA, h0]
    · rw [h0] at h9; cases h9
    · rw [h0] at h9; cases h9
  · rfl
  · simp [hA_sA, h]
  · rfl
  · rfl
theorem hArr_sB (E : hEnv) (σ : hMem) (j k i : Nat) (f : Nat → Int64) (a b d : Nat) (e : hEn) (h : ¬ (a = j ∧ b = k ∧ d = i)) (h0 : ¬ (a = j ∧ b = k ∧ 0 = i) ∨ e.1 = 5 ∨ e.1 = 6) : hArr E (sB σ j k i f) a b d e = hArr E σ a b d e := by
  unfold hArr
  split
  · rfl
  · rename_i h9
    rcases h0 with h0 | h0 | h0
    · simp [hB_sB, h0]
    · rw [h0] at h9; cases h9
    · rw [h0] at h9; cases h9
  · rfl
  · simp [hB_sB, h]
  · rfl
theorem hCont_sA (E : hEnv) (σ : hMem) (j k i : Nat) (f : Nat → Int32) {e : hEn} (hl : (hLay j)[k]? = some e) (d : hId) (hd : d ∈ hIds) (h : d ≠ (j, k + 1, i)) : hCont E (sA σ j k i f) d = hCont E σ d := by
  obtain ⟨a, b, x⟩ := d
  cases b with
  | zero => rfl
  | succ b =>
    cases hq : (hLay a)[b]? with
    | none => simp [hCont, hq]
    | some e' =>
      rw [hCont_s hq, hCont_s hq]
      have h1 : ¬ (a = j ∧ b = k ∧ x = i) := fun z => h (by rw [z.1, z.2.1, z.2.2])
      refine hArr_sA E σ j k i f a b x e' h1 ?_
      by_cases h5 : e'.1 = 5
      · exact Or.inr (Or.inl h5)
      · by_cases h6 : e'.1 = 6
        · exact Or.inr (Or.inr h6)
        · left
          have hx := hIds_1 hq h5 h6 hd
          subst hx
          exact h1
theorem hCont_sB (E : hEnv) (σ : hMem) (j k i : Nat) (f : Nat → Int64) {e : hEn} (hl : (hLay j)[k]? = some e) (d : hId) (hd : d ∈ hIds) (h : d ≠ (j, k + 1, i)) : hCont E (sB σ j k i f) d = hCont E σ d := by
  obtain ⟨a, b, x⟩ := d
  cases b with
  | zero => rfl
  | succ b =>
    cases hq : (hLay a)[b]? with
    | none => simp [hCont, hq]
    | some e' =>
      rw [hCont_s hq, hCont_s hq]
      have h1 : ¬ (a = j ∧ b = k ∧ x = i) := fun z => h (by rw [z.1, z.2.1, z.2.2])
      refine hArr_sB E σ j k i f a b x e' h1 ?_
      by_cases h5 : e'.1 = 5
      · exact Or.inr (Or.inl h5)
      · by_cases h6 : e'.1 = 6
        · exact Or.inr (Or.inr h6)
        · left
          have hx := hIds_1 hq h5 h6 hd
          subst hx
          exact h1
end
section
/-! The context of a method and the rows over the memory. -/
def isNest : Cond → Bool
  | .fieldLinkNest .. => true
  | .methodLinkNest .. => true
  | _ => false
def okW (w : Cond) : Bool := goodWord w || isNest w
def hKT (U : State) : Prop := ∀ w ∈ lw_tbl, okW w = true → va_Nw w U
theorem hKT.warm {s U : State} (h : hKT s) (hW : s.WarmedH U.vm) : hKT U := by
  intro w hw ok
  have h1 := h w hw ok
  unfold okW at ok
  cases hg : goodWord w with
  | true => exact word_at hW (good_of_word hg) h1
  | false =>
    rw [hg, Bool.false_or] at ok
    revert ok h1
    cases w <;> first | (intro ok h1; exact va_Nw.warmF hW h1) | (intro ok h1; exact va_Nw.warmM hW h1) | (intro ok h1; cases ok)
theorem hKT.use {s : State} (h : hKT s) {w : Cond} (hw : w ∈ lw_tbl) (ok : okW w = true) {args : Array Value} : w.before args s = true := by
  have h1 := h w hw ok
  unfold okW at ok
  cases hg : goodWord w with
  | true => exact word_at (State.WarmedH.refl s) (good_of_word hg) h1
  | false =>
    rw [hg, Bool.false_or] at ok
    revert ok h1
    cases w <;> first | (intro ok h1; exact va_Nw.use rfl h1) | (intro ok h1; cases ok)
def hKS (E : hEnv) (U : State) : Prop := hKT U ∧ va_K E.1 vwCl (hTys E) U
theorem hKS.warm {E : hEnv} {s U : State} (h : hKS E s) (hW : s.WarmedH U.vm) : hKS E U := ⟨h.1.warm hW, va_K.moved hW.alike h.2⟩
/-- the texts: whose, where, what -/
def sTab : List (String × Nat × String) := [("SalvageCourt$Tape", 44, "weigh like give else life late "), ("SalvageCourt$Tape", 86, "danger skill labour weather worth "), ("SalvageCourt$Tape", 64, "least middle greatest mean "), ("SalvageCourt$Tape", 78, "after "), ("SalvageCourtModel", 232, "weigh"), ("SalvageCourtModel", 198, "danger"), ("SalvageCourtModel", 200, "skill"), ("SalvageCourtModel", 202, "labour"), ("SalvageCourtModel", 204, "weather"), ("SalvageCourtModel", 206, "worth"), ("SalvageCourtModel", 208, "like"), ("SalvageCourtModel", 209, "give"), ("SalvageCourtModel", 211, "else"), ("SalvageCourtModel", 213, "life"), ("SalvageCourtModel", 215, "late"), ("SalvageCourtModel", 217, "least"), ("SalvageCourtModel", 223, "middle"), ("SalvageCourtModel", 225, "greatest"), ("SalvageCourtModel", 227, "mean"), ("SalvageCourtModel", 248, "after")]
def sLen : List Nat := [31, 34, 27, 6, 5, 6, 5, 6, 7, 5, 4, 4, 4, 4, 4, 5, 6, 8, 4, 5]
def sByt : List (List Int32) := [[119, 101, 105, 103, 104, 32, 108, 105, 107, 101, 32, 103, 105, 118, 101, 32, 101, 108, 115, 101, 32, 108, 105, 102, 101, 32, 108, 97, 116, 101, 32], [100, 97, 110, 103, 101, 114, 32, 115, 107, 105, 108, 108, 32, 108, 97, 98, 111, 117, 114, 32, 119, 101, 97, 116, 104, 101, 114, 32, 119, 111, 114, 116, 104, 32], [108, 101, 97, 115, 116, 32, 109, 105, 100, 100, 108, 101, 32, 103, 114, 101, 97, 116, 101, 115, 116, 32, 109, 101, 97, 110, 32], [97, 102, 116, 101, 114, 32], [119, 101, 105, 103, 104], [100, 97, 110, 103, 101, 114], [115, 107, 105, 108, 108], [108, 97, 98, 111, 117, 114], [119, 101, 97, 116, 104, 101, 114], [119, 111, 114, 116, 104], [108, 105, 107, 101], [103, 105, 118, 101], [101, 108, 115, 101], [108, 105, 102, 101], [108, 97, 116, 101], [108, 101, 97, 115, 116], [109, 105, 100, 100, 108, 101], [103, 114, 101, 97, 116, 101, 115, 116], [109, 101, 97, 110], [97, 102, 116, 101, 114]]
def hSt (E : hEnv) (A : Nat → Prop) (U : State) (H : Heap) : Prop := vk_S 20 sLen sByt E.2.2.2.1 E.2.2.2.2 A U H ∧ (∀ (i : Nat) (q : String × Nat × String), sTab[i]? = some q → vk_R q.1 q.2.1 q.2.2 (E.2.2.2.1 i) U) ∧ va_Z "java/lang/String" "COMPACT_STRINGS" "Z" (.int 1) A U H ∧ va_Zq "jdk/internal/util/Preconditions" "SIOOBE_FORMATTER" "Ljava/util/function/BiFunction;" A U H
theorem hSt.go {E : hEnv} {A B : Nat → Prop} {s U : State} {H H1 : Heap} (h : hSt E A s H) (hW : s.WarmedH U.vm) (hq : ∀ a : Nat, a < H.size → ¬ A a → H1[a]? = H[a]?) (hAB : ∀ q, B q → A q) : hSt E B U H1 :=
  ⟨((h.1.moved hW.alike).kept hq).narrow hAB, fun i q hi => (h.2.1 i q hi).warm hW, ((h.2.2.1.moved hW.alike).kept hq).narrow hAB, ((h.2.2.2.moved hW.alike).kept hq).narrow hAB⟩
def hC (E : hEnv) (A : Nat → Prop) (p : Program) (s : State) (m : MethodId) (c : Code) (cc : ByteArray) (nL : Nat) (own : String) : Prop :=
  p.tables.exec = Jvm.exec ∧ c.code = cc ∧ c.maxLocals = nL ∧ s.vm.findClass own = some m.cls ∧ hKS E s ∧ hSt E A s s.heap
def hM (E : hEnv) (A : Nat → Prop) (s : State) (H : Heap) (locs : List Loc) (σ : hMem) (Z : va_W) : Prop :=
  va_P E.1 vwCl (hW E σ ++ Z) H ∧ va_D A (hW E σ ++ Z) ∧ va_S A s.heap H locs ∧ ∀ q, s.heap.size ≤ q → A q
theorem i_X0 : ∀ w ∈ u_ws RX0 TX0 1, w ∈ lw_tbl ∧ okW w = true := by decide +kernel
theorem i_X1 : ∀ w ∈ u_ws RX1 TX1 5, w ∈ lw_tbl ∧ okW w = true := by decide +kernel
theorem i_X2 : ∀ w ∈ u_ws RX2 TX2 3, w ∈ lw_tbl ∧ okW w = true := by decide +kernel
theorem i_X3 : ∀ w ∈ u_ws RX3 TX3 4, w ∈ lw_tbl ∧ okW w = true := by decide +kernel
theorem i_X4 : ∀ w ∈ u_ws RX4 TX4 11, w ∈ lw_tbl ∧ okW w = true := by decide +kernel
theorem i_X5 : ∀ w ∈ u_ws RX5 TX5 7, w ∈ lw_tbl ∧ okW w = true := by decide +kernel
theorem i_X6 : ∀ w ∈ u_ws RX6 TX6 10, w ∈ lw_tbl ∧ okW w = true := by decide +kernel
theorem i_X7 : ∀ w ∈ u_ws RX7 TX7 7, w ∈ lw_tbl ∧ okW w = true := by decide +kernel
theorem i_X8 : ∀ w ∈ u_ws RX8 TX8 15, w ∈ lw_tbl ∧ okW w = true := by decide +kernel
theorem i_X9 : ∀ w ∈ u_ws RX9 TX9 6, w ∈ lw_tbl ∧ okW w = true := by decide +kernel
theorem i_X10 : ∀ w ∈ u_ws RX10 TX10 2, w ∈ lw_tbl ∧ okW w = true := by decide +kernel
theorem i_X11 : ∀ w ∈ u_ws RX11 TX11 14, w ∈ lw_tbl ∧ okW w = true := by decide +kernel
theorem i_X12 : ∀ w ∈ u_ws RX12 TX12 59, w ∈ lw_tbl ∧ okW w = true := by decide +kernel
def hTyOf (ci : Nat) : Nat → FieldType := match ci with
  | 0 => tyX0
  | 1 => tyX1
  | 2 => tyX2
  | 3 => tyX3
  | 4 => tyX4
  | 5 => tyX5
  | 6 => tyX6
  | 7 => tyX7
  | 8 => tyX8
  | 9 => tyX9
  | 10 => tyX10
  | 11 => tyX11
  | _ => tyX12
theorem hCls {ci : Nat} {q : vw_C} (h : vwCl[ci]? = some q) : (∀ w ∈ u_ws q.1 q.2.1 q.2.2, w ∈ lw_tbl ∧ okW w = true) ∧ (∀ k, k < q.2.2 → parseFieldDescriptor (q.2.1 k).2.2.1 = some (hTyOf ci k)) ∧ (∀ a, a < q.2.2 → ∀ b, b < q.2.2 → a ≠ b → (q.2.1 a).2.1 ≠ (q.2.1 b).2.1) := by
  have hlt : ci < 13 := (List.getElem?_eq_some_iff.mp h).1
  match ci, h with
  | 0, h => cases h; exact ⟨i_X0, tyX0_ok, nmX0⟩
  | 1, h => cases h; exact ⟨i_X1, tyX1_ok, nmX1⟩
  | 2, h => cases h; exact ⟨i_X2, tyX2_ok, nmX2⟩
  | 3, h => cases h; exact ⟨i_X3, tyX3_ok, nmX3⟩
  | 4, h => cases h; exact ⟨i_X4, tyX4_ok, nmX4⟩
  | 5, h => cases h; exact ⟨i_X5, tyX5_ok, nmX5⟩
  | 6, h => cases h; exact ⟨i_X6, tyX6_ok, nmX6⟩
  | 7, h => cases h; exact ⟨i_X7, tyX7_ok, nmX7⟩
  | 8, h => cases h; exact ⟨i_X8, tyX8_ok, nmX8⟩
  | 9, h => cases h; exact ⟨i_X9, tyX9_ok, nmX9⟩
  | 10, h => cases h; exact ⟨i_X10, tyX10_ok, nmX10⟩
  | 11, h => cases h; exact ⟨i_X11, tyX11_ok, nmX11⟩
  | 12, h => cases h; exact ⟨i_X12, tyX12_ok, nmX12⟩
  | n + 13, h => exact absurd hlt (by omega)
section ROWS
variable {p : Program} {l : Launch} {e : Env} {R : Room} {s : State} {m : MethodId} {args : Array Value} {below : List Frame} {meth : Method} {c : Code} {H : Heap} {locs : List Loc} {cells slots : Nat} {Q : State → Prop}
variable {cc : ByteArray} {pc nL : Nat} {ls : Array Slot} {rest : List Value} {E : hEnv} {A : Nat → Prop} {σ : hMem} {Z : va_W} {own : String}
theorem g_get (C : hC E A p s m c cc nL own) (M : hM E A s H locs σ Z) (j k : Nat) {en : hEn} (hj : j < 44) (hl : (hLay j)[k]? = some en) {K : String} {T : u_T} {N idx : Nat} (hc : vwCl[hCi j]? = some (K, T, N)) (hk : k < N) (hw : hFl own idx (T k)) (hdg : decode cc pc = .ok (.getfield idx, 3))
    (kk : W p l e R s m args below meth c H locs cells slots Q (F0 m (pc + 3) ls (hFv E σ j k en :: rest))) : W p l e R s m args below meth c H locs cells slots Q (F0 m pc ls (.ref (hO E j) :: rest)) := by
  obtain ⟨q, hq⟩ := hW_at (E := E) (σ := σ) (Z := Z) (hIds_o hj)
  obtain ⟨h1, h2, h3⟩ := hCls hc
  obtain ⟨hx, hb, hml, hown, hK, hS⟩ := C
  have hts : ∀ w ∈ u_ws K T N, w.before args s = true := fun w h => hK.1.use (h1 w h).1 (h1 w h).2
  rcases hw with hw | ⟨host, hw⟩
  · exact va_get hx hb hts (fun w h => h) hown hK.2 M.1 q hq hc k hk (hK.1.use hw rfl) (fun _ h => h) (hFs_at hl) hdg kk
  · exact va_getN hx hb hts (fun w h => h) hown hK.2 M.1 q hq hc k hk (hK.1.use hw rfl) (fun _ h => h) (hFs_at hl) hdg kk
theorem g_getI (C : hC E A p s m c cc nL own) (M : hM E A s H locs σ Z) (j k : Nat) (hj : j < 44) (hl : (hLay j)[k]? = some e0) {K : String} {T : u_T} {N idx : Nat} (hc : vwCl[hCi j]? = some (K, T, N)) (hk : k < N) (hw : hFl own idx (T k)) {v : Int32} (hv : hI σ j k = v) (hdg : decode cc pc = .ok (.getfield idx, 3))
    (kk : W p l e R s m args below meth c H locs cells slots Q (F0 m (pc + 3) ls (.int v :: rest))) : W p l e R s m args below meth c H locs cells slots Q (F0 m pc ls (.ref (hO E j) :: rest)) := by
  subst hv
  exact g_get C M j k hj hl hc hk hw hdg kk
theorem g_getL (C : hC E A p s m c cc nL own) (M : hM E A s H locs σ Z) (j k : Nat) (hj : j < 44) (hl : (hLay j)[k]? = some e1) {K : String} {T : u_T} {N idx : Nat} (hc : vwCl[hCi j]? = some (K, T, N)) (hk : k < N) (hw : hFl own idx (T k)) {v : Int64} (hv : hL σ j k = v) (hdg : decode cc pc = .ok (.getfield idx, 3))
    (kk : W p l e R s m args below meth c H locs cells slots Q (F0 m (pc + 3) ls (.long v :: rest))) : W p l e R s m args below meth c H locs cells slots Q (F0 m pc ls (.ref (hO E j) :: rest)) := by
  subst hv
  exact g_get C M j k hj hl hc hk hw hdg kk
theorem g_getO (C : hC E A p s m c cc nL own) (M : hM E A s H locs σ Z) (j k t : Nat) (hj : j < 44) (hl : (hLay j)[k]? = some (eO t)) {K : String} {T : u_T} {N idx : Nat} (hc : vwCl[hCi j]? = some (K, T, N)) (hk : k < N) (hw : hFl own idx (T k)) (hdg : decode cc pc = .ok (.getfield idx, 3))
    (kk : W p l e R s m args below meth c H locs cells slots Q (F0 m (pc + 3) ls (.ref (hO E t) :: rest))) : W p l e R s m args below meth c H locs cells slots Q (F0 m pc ls (.ref (hO E j) :: rest)) := g_get C M j k hj hl hc hk hw hdg kk
/-- an array's own field (one row) -/
theorem g_getA (C : hC E A p s m c cc nL own) (M : hM E A s H locs σ Z) (j k : Nat) (hj : j < 44) {t n b : Nat} (hl : (hLay j)[k]? = some (3, t, n, b)) {K : String} {T : u_T} {N idx : Nat} (hc : vwCl[hCi j]? = some (K, T, N)) (hk : k < N) (hw : hFl own idx (T k)) (hdg : decode cc pc = .ok (.getfield idx, 3))
    (kk : W p l e R s m args below meth c H locs cells slots Q (F0 m (pc + 3) ls (.ref (hR E j k 0) :: rest))) : W p l e R s m args below meth c H locs cells slots Q (F0 m pc ls (.ref (hO E j) :: rest)) := g_get C M j k hj hl hc hk hw hdg kk
theorem g_getJ (C : hC E A p s m c cc nL own) (M : hM E A s H locs σ Z) (j k : Nat) (hj : j < 44) {t n b : Nat} (hl : (hLay j)[k]? = some (4, t, n, b)) {K : String} {T : u_T} {N idx : Nat} (hc : vwCl[hCi j]? = some (K, T, N)) (hk : k < N) (hw : hFl own idx (T k)) (hdg : decode cc pc = .ok (.getfield idx, 3))
    (kk : W p l e R s m args below meth c H locs cells slots Q (F0 m (pc + 3) ls (.ref (hR E j k 0) :: rest))) : W p l e R s m args below meth c H locs cells slots Q (F0 m pc ls (.ref (hO E j) :: rest)) := g_get C M j k hj hl hc hk hw hdg kk
theorem g_getQ (C : hC E A p s m c cc nL own) (M : hM E A s H locs σ Z) (j k : Nat) (hj : j < 44) {t n b : Nat} (hl : (hLay j)[k]? = some (7, t, n, b)) {K : String} {T : u_T} {N idx : Nat} (hc : vwCl[hCi j]? = some (K, T, N)) (hk : k < N) (hw : hFl own idx (T k)) (hdg : decode cc pc = .ok (.getfield idx, 3))
    (kk : W p l e R s m args below meth c H locs cells slots Q (F0 m (pc + 3) ls (.ref (hR E j k 0) :: rest))) : W p l e R s m args below meth c H locs cells slots Q (F0 m pc ls (.ref (hO E j) :: rest)) := g_get C M j k hj hl hc hk hw hdg kk
theorem g_getII (C : hC E A p s m c cc nL own) (M : hM E A s H locs σ Z) (j k : Nat) (hj : j < 44) {t n b : Nat} (hl : (hLay j)[k]? = some (5, t, n, b)) {K : String} {T : u_T} {N idx : Nat} (hc : vwCl[hCi j]? = some (K, T, N)) (hk : k < N) (hw : hFl own idx (T k)) (hdg : decode cc pc = .ok (.getfield idx, 3))
    (kk : W p l e R s m args below meth c H locs cells slots Q (F0 m (pc + 3) ls (.ref (hR E j k 1000) :: rest))) : W p l e R s m args below meth c H locs cells slots Q (F0 m pc ls (.ref (hO E j) :: rest)) := g_get C M j k hj hl hc hk hw hdg kk
theorem g_getJJ (C : hC E A p s m c cc nL own) (M : hM E A s H locs σ Z) (j k : Nat) (hj : j < 44) {t n b : Nat} (hl : (hLay j)[k]? = some (6, t, n, b)) {K : String} {T : u_T} {N idx : Nat} (hc : vwCl[hCi j]? = some (K, T, N)) (hk : k < N) (hw : hFl own idx (T k)) (hdg : decode cc pc = .ok (.getfield idx, 3))
    (kk : W p l e R s m args below meth c H locs cells slots Q (F0 m (pc + 3) ls (.ref (hR E j k 1000) :: rest))) : W p l e R s m args below meth c H locs cells slots Q (F0 m pc ls (.ref (hO E j) :: rest)) := g_get C M j k hj hl hc hk hw hdg kk
theorem g_put (C : hC E A p s m c cc nL own) (M : hM E A s H locs σ Z) (j k : Nat) {en : hEn} {σ' : hMem} {v : Value} (hj : j < 44) (hl : (hLay j)[k]? = some en) {K : String} {T : u_T} {N idx : Nat} (hc : vwCl[hCi j]? = some (K, T, N)) (hk : k < N) (hw : hFl own idx (T k)) (hfin : (T k).2.2.2 = false) (hn : narrow (hTyOf (hCi j) k) v = v) (hf : fits (hTyOf (hCi j) k) v = true) (hF : (hFs E σ j).set k v = hFs E σ' j) (hOt : ∀ d, d ∈ hIds → d ≠ (j, 0, 0) → hCont E σ' d = hCont E σ d) (hdg : decode cc pc = .ok (.putfield idx, 3))
    (kk : ∀ (H1 : Heap) (locs1 : List Loc), hM E A s H1 locs1 σ' Z → W p l e R s m args below meth c H1 locs1 cells slots Q (F0 m (pc + 3) ls rest)) : W p l e R s m args below meth c H locs cells slots Q (F0 m pc ls (v :: .ref (hO E j) :: rest)) := by
  obtain ⟨q, hq⟩ := hW_at (E := E) (σ := σ) (Z := Z) (hIds_o hj)
  obtain ⟨h1, h2, h3⟩ := hCls hc
  obtain ⟨hx, hb, hml, hown, hK, hS⟩ := C
  obtain ⟨hP, hD, hS0, hA⟩ := M
  have hts : ∀ w ∈ u_ws K T N, w.before args s = true := fun w h => hK.1.use (h1 w h).1 (h1 w h).2
  have hle : k < (hFs E σ j).length := by
    rw [hFs, List.length_mapIdx]
    exact (List.getElem?_eq_some_iff.mp hl).1
  have hset := hW_set (E := E) (σ := σ) (σ' := σ') (e := .inr (hCi j, (hFs E σ j).set k v)) hD hq (hIds_o hj) (by rw [hF]; rfl) hOt
  have kk2 : ∀ (H1 : Heap) (locs1 : List Loc), va_P E.1 vwCl ((hW E σ ++ Z).set q (hAd E (j, 0, 0), .inr (hCi j, (hFs E σ j).set k v))) H1 → va_D A ((hW E σ ++ Z).set q (hAd E (j, 0, 0), .inr (hCi j, (hFs E σ j).set k v))) → va_S A s.heap H1 locs1 → W p l e R s m args below meth c H1 locs1 cells slots Q (F0 m (pc + 3) ls rest) := by
    intro H1 locs1 a1 a2 a3
    rw [hset] at a1 a2
    exact kk H1 locs1 ⟨a1, a2, a3, hA⟩
  rcases hw with hw | ⟨host, hw⟩
  · exact va_put hx hb hts (fun w h => h) _ h2 h3 hown hK.2 hP hD hS0 q hq hc k hk (hK.1.use hw rfl) (fun _ h => h) hfin (h2 k hk) hn hf hle hdg kk2
  · exact va_putN hx hb hts (fun w h => h) _ h2 h3 hown hK.2 hP hD hS0 q hq hc k hk (hK.1.use hw rfl) (fun _ h => h) hfin (h2 k hk) hn hf hle hdg kk2
theorem g_putI (C : hC E A p s m c cc nL own) (M : hM E A s H locs σ Z) (j k : Nat) {v : Int32} (hj : j < 44) (hl : (hLay j)[k]? = some e0) {K : String} {T : u_T} {N idx : Nat} (hc : vwCl[hCi j]? = some (K, T, N)) (hk : k < N) (hw : hFl own idx (T k)) (hfin : (T k).2.2.2 = false) (hty : hTyOf (hCi j) k = .int) (hdg : decode cc pc = .ok (.putfield idx, 3))
    (kk : ∀ (H1 : Heap) (locs1 : List Loc), hM E A s H1 locs1 (sI σ j k v) Z → W p l e R s m args below meth c H1 locs1 cells slots Q (F0 m (pc + 3) ls rest)) : W p l e R s m args below meth c H locs cells slots Q (F0 m pc ls (.int v :: .ref (hO E j) :: rest)) :=
  g_put C M j k hj hl hc hk hw hfin (by rw [hty]; rfl) (by rw [hty]; rfl) (hFs_set hl (show (Value.int (hI (sI σ j k v) j k)) = .int v by simp [hI_sI]) (fun k' e' h => hFv_sI E σ j k v j k' e' (fun q => h q.2))) (fun d hd h => hCont_sI E σ j k v d hd h) hdg kk
theorem g_putZ (C : hC E A p s m c cc nL own) (M : hM E A s H locs σ Z) (j k : Nat) {v : Int32} (hv : v = 0 ∨ v = 1) (hj : j < 44) (hl : (hLay j)[k]? = some e0) {K : String} {T : u_T} {N idx : Nat} (hc : vwCl[hCi j]? = some (K, T, N)) (hk : k < N) (hw : hFl own idx (T k)) (hfin : (T k).2.2.2 = false) (hty : hTyOf (hCi j) k = .boolean) (hdg : decode cc pc = .ok (.putfield idx, 3))
    (kk : ∀ (H1 : Heap) (locs1 : List Loc), hM E A s H1 locs1 (sI σ j k v) Z → W p l e R s m args below meth c H1 locs1 cells slots Q (F0 m (pc + 3) ls rest)) : W p l e R s m args below meth c H locs cells slots Q (F0 m pc ls (.int v :: .ref (hO E j) :: rest)) :=
  g_put C M j k hj hl hc hk hw hfin (by rw [hty]; rcases hv with rfl | rfl <;> rfl) (by rw [hty]; rcases hv with rfl | rfl <;> rfl) (hFs_set hl (show (Value.int (hI (sI σ j k v) j k)) = .int v by simp [hI_sI]) (fun k' e' h => hFv_sI E σ j k v j k' e' (fun q => h q.2))) (fun d hd h => hCont_sI E σ j k v d hd h) hdg kk
theorem g_putL (C : hC E A p s m c cc nL own) (M : hM E A s H locs σ Z) (j k : Nat) {v : Int64} (hj : j < 44) (hl : (hLay j)[k]? = some e1) {K : String} {T : u_T} {N idx : Nat} (hc : vwCl[hCi j]? = some (K, T, N)) (hk : k < N) (hw : hFl own idx (T k)) (hfin : (T k).2.2.2 = false) (hty : hTyOf (hCi j) k = .long) (hdg : decode cc pc = .ok (.putfield idx, 3))
    (kk : ∀ (H1 : Heap) (locs1 : List Loc), hM E A s H1 locs1 (sL σ j k v) Z → W p l e R s m args below meth c H1 locs1 cells slots Q (F0 m (pc + 3) ls rest)) : W p l e R s m args below meth c H locs cells slots Q (F0 m pc ls (.long v :: .ref (hO E j) :: rest)) :=
  g_put C M j k hj hl hc hk hw hfin (by rw [hty]; rfl) (by rw [hty]; rfl) (hFs_set hl (show (Value.long (hL (sL σ j k v) j k)) = .long v by simp [hL_sL]) (fun k' e' h => hFv_sL E σ j k v j k' e' (fun q => h q.2))) (fun d hd h => hCont_sL E σ j k v d hd h) hdg kk
/-- arrays: of ints, booleans, bytes, longs -/
theorem g_iald (C : hC E A p s m c cc nL own) (M : hM E A s H locs σ Z) (j k : Nat) (hj : j < 44) {n b : Nat} (hl : (hLay j)[k]? = some (3, 0, n, b)) {x : Int32} (i : Nat) (hx : x.toNatClampNeg = i) (hin : vp_in x n) {v : Int32} (hv : hA σ j k 0 i = v) (hdg : decode cc pc = .ok (.iaload, 1))
    (kk : W p l e R s m args below meth c H locs cells slots Q (F0 m (pc + 1) ls (.int v :: rest))) : W p l e R s m args below meth c H locs cells slots Q (F0 m pc ls (.int x :: .ref (hR E j k 0) :: rest)) := by
  obtain ⟨q, hq⟩ := hW_at (E := E) (σ := σ) (Z := Z) (c := (j, k + 1, 0)) (hIds_s hj hl (List.mem_singleton.mpr rfl))
  rw [hCont_s hl] at hq
  subst hx
  subst hv
  exact va_iald C.1 C.2.1 C.2.2.2.2.1.2 M.1 q 0 hq rfl hin hdg kk
theorem g_zald (C : hC E A p s m c cc nL own) (M : hM E A s H locs σ Z) (j k : Nat) (hj : j < 44) {n b : Nat} (hl : (hLay j)[k]? = some (3, 2, n, b)) {x : Int32} (i : Nat) (hx : x.toNatClampNeg = i) (hin : vp_in x n) {v : Int32} (hv : hA σ j k 0 i = v) (hdg : decode cc pc = .ok (.baload, 1))
    (kk : W p l e R s m args below meth c H locs cells slots Q (F0 m (pc + 1) ls (.int v :: rest))) : W p l e R s m args below meth c H locs cells slots Q (F0 m pc ls (.int x :: .ref (hR E j k 0) :: rest)) := by
  obtain ⟨q, hq⟩ := hW_at (E := E) (σ := σ) (Z := Z) (c := (j, k + 1, 0)) (hIds_s hj hl (List.mem_singleton.mpr rfl))
  rw [hCont_s hl] at hq
  subst hx
  subst hv
  exact va_zald C.1 C.2.1 C.2.2.2.2.1.2 M.1 q 2 hq rfl hin hdg kk
theorem g_bald (C : hC E A p s m c cc nL own) (M : hM E A s H locs σ Z) (j k : Nat) (hj : j < 44) {n b : Nat} (hl : (hLay j)[k]? = some (3, 3, n, b)) {x : Int32} (i : Nat) (hx : x.toNatClampNeg = i) (hin : vp_in x n) {v : Int32} (hv : hA σ j k 0 i = v) (hdg : decode cc pc = .ok (.baload, 1))
    (kk : W p l e R s m args below meth c H locs cells slots Q (F0 m (pc + 1) ls (.int v :: rest))) : W p l e R s m args below meth c H locs cells slots Q (F0 m pc ls (.int x :: .ref (hR E j k 0) :: rest)) := by
  obtain ⟨q, hq⟩ := hW_at (E := E) (σ := σ) (Z := Z) (c := (j, k + 1, 0)) (hIds_s hj hl (List.mem_singleton.mpr rfl))
  rw [hCont_s hl] at hq
  subst hx
  subst hv
  exact va_bald C.1 C.2.1 C.2.2.2.2.1.2 M.1 q 3 hq rfl hin hdg kk
theorem g_lald (C : hC E A p s m c cc nL own) (M : hM E A s H locs σ Z) (j k : Nat) (hj : j < 44) {n b : Nat} (hl : (hLay j)[k]? = some (4, 1, n, b)) {x : Int32} (i : Nat) (hx : x.toNatClampNeg = i) (hin : vp_in x n) {v : Int64} (hv : hB σ j k 0 i = v) (hdg : decode cc pc = .ok (.laload, 1))
    (kk : W p l e R s m args below meth c H locs cells slots Q (F0 m (pc + 1) ls (.long v :: rest))) : W p l e R s m args below meth c H locs cells slots Q (F0 m pc ls (.int x :: .ref (hR E j k 0) :: rest)) := by
  obtain ⟨q, hq⟩ := hW_at (E := E) (σ := σ) (Z := Z) (c := (j, k + 1, 0)) (hIds_s hj hl (List.mem_singleton.mpr rfl))
  rw [hCont_s hl] at hq
  subst hx
  subst hv
  exact va_lald C.1 C.2.1 C.2.2.2.2.1.2 M.1 q 1 hq rfl hin hdg kk
/-- a row of rows -/
theorem hSub5 {j k i t n b : Nat} (h : i < n) : (j, k + 1, i) ∈ hSub j k (5, t, n, b) := List.mem_cons_of_mem _ (List.mem_map.mpr ⟨i, List.mem_range.mpr h, rfl⟩)
theorem hSub6 {j k i t n b : Nat} (h : i < n) : (j, k + 1, i) ∈ hSub j k (6, t, n, b) := List.mem_cons_of_mem _ (List.mem_map.mpr ⟨i, List.mem_range.mpr h, rfl⟩)
theorem hArr5 {E : hEnv} {σ : hMem} {j k i t n b : Nat} (h : i ≠ 1000) : hArr E σ j k i (5, t, n, b) = .inl (E.2.1 0, b, .inl (hA σ j k i)) := if_neg h
theorem hArr6 {E : hEnv} {σ : hMem} {j k i t n b : Nat} (h : i ≠ 1000) : hArr E σ j k i (6, t, n, b) = .inl (E.2.1 1, b, .inr (.inl (hB σ j k i))) := if_neg h
theorem g_riald (C : hC E A p s m c cc nL own) (M : hM E A s H locs σ Z) (j k r : Nat) (hj : j < 44) {t n b : Nat} (hl : (hLay j)[k]? = some (5, t, n, b)) (hr : r < n) (hn : n ≤ 1000) {x : Int32} (i : Nat) (hx : x.toNatClampNeg = i) (hin : vp_in x b) {v : Int32} (hv : hA σ j k r i = v) (hdg : decode cc pc = .ok (.iaload, 1))
    (kk : W p l e R s m args below meth c H locs cells slots Q (F0 m (pc + 1) ls (.int v :: rest))) : W p l e R s m args below meth c H locs cells slots Q (F0 m pc ls (.int x :: .ref (hR E j k r) :: rest)) := by
  obtain ⟨q, hq⟩ := hW_at (E := E) (σ := σ) (Z := Z) (c := (j, k + 1, r)) (hIds_s hj hl (hSub5 hr))
  rw [hCont_s hl, hArr5 (by omega)] at hq
  subst hx
  subst hv
  exact va_iald C.1 C.2.1 C.2.2.2.2.1.2 M.1 q 0 hq rfl hin hdg kk
theorem g_rlald (C : hC E A p s m c cc nL own) (M : hM E A s H locs σ Z) (j k r : Nat) (hj : j < 44) {t n b : Nat} (hl : (hLay j)[k]? = some (6, t, n, b)) (hr : r < n) (hn : n ≤ 1000) {x : Int32} (i : Nat) (hx : x.toNatClampNeg = i) (hin : vp_in x b) {v : Int64} (hv : hB σ j k r i = v) (hdg : decode cc pc = .ok (.laload, 1))
    (kk : W p l e R s m args below meth c H locs cells slots Q (F0 m (pc + 1) ls (.long v :: rest))) : W p l e R s m args below meth c H locs cells slots Q (F0 m pc ls (.int x :: .ref (hR E j k r) :: rest)) := by
  obtain ⟨q, hq⟩ := hW_at (E := E) (σ := σ) (Z := Z) (c := (j, k + 1, r)) (hIds_s hj hl (hSub6 hr))
  rw [hCont_s hl, hArr6 (by omega)] at hq
  subst hx
  subst hv
  exact va_lald C.1 C.2.1 C.2.2.2.2.1.2 M.1 q 1 hq rfl hin hdg kk
theorem g_aald0 (C : hC E A p s m c cc nL own) (M : hM E A s H locs σ Z) {a : Nat} {ty : FieldType} (hty : ty.isReference = true) {q t0 : Nat} {cA : ClassId} {n : Nat} {f : Nat → Option Nat} (ha : (hW E σ ++ Z)[q]? = some (a, .inl (cA, n, .inr (.inr (.inr (.inr f)))))) (ht : (hTys E)[t0]? = some (cA, ty)) {x : Int32} (hin : vp_in x n) (hdg : decode cc pc = .ok (.aaload, 1))
    (kk : W p l e R s m args below meth c H locs cells slots Q (F0 m (pc + 1) ls (va_rf (f x.toNatClampNeg) :: rest))) : W p l e R s m args below meth c H locs cells slots Q (F0 m pc ls (.int x :: .ref a :: rest)) := by
  have hlt : x.toNatClampNeg < n := Nat.not_le.mp fun q => hin (Or.inr q)
  exact W.aald (v := va_rf (f x.toNatClampNeg)) (ty := ty) C.1 C.2.1 (M.1 q _ ha) ((C.2.2.2.2.1.2.2 t0 _ ht).1 n (fun j => va_rf (f j))) hty (fun q => by cases q) (by show ¬ (x < 0 ∨ (arrV _ _ _).slots.size ≤ _); rw [arrV_size]; exact hin) (by show (arrV _ _ _).slots[_]? = _; rw [arrV_read _ _ hlt]) rfl rfl hdg kk
theorem g_aald5 (C : hC E A p s m c cc nL own) (M : hM E A s H locs σ Z) (j k : Nat) (hj : j < 44) {t n b : Nat} (hl : (hLay j)[k]? = some (5, t, n, b)) {x : Int32} (i : Nat) (hx : x.toNatClampNeg = i) (hin : vp_in x n) (hdg : decode cc pc = .ok (.aaload, 1))
    (kk : W p l e R s m args below meth c H locs cells slots Q (F0 m (pc + 1) ls (.ref (hR E j k i) :: rest))) : W p l e R s m args below meth c H locs cells slots Q (F0 m pc ls (.int x :: .ref (hR E j k 1000) :: rest)) := by
  obtain ⟨q, hq⟩ := hW_at (E := E) (σ := σ) (Z := Z) (c := (j, k + 1, 1000)) (hIds_s hj hl List.mem_cons_self)
  rw [hCont_s hl] at hq
  subst hx
  have hlt : x.toNatClampNeg < n := Nat.not_le.mp fun q => hin (Or.inr q)
  refine g_aald0 C M (ty := .array .int) rfl (t0 := 4) hq rfl hin hdg ?_
  rw [if_pos hlt]
  exact kk
theorem g_aald6 (C : hC E A p s m c cc nL own) (M : hM E A s H locs σ Z) (j k : Nat) (hj : j < 44) {t n b : Nat} (hl : (hLay j)[k]? = some (6, t, n, b)) {x : Int32} (i : Nat) (hx : x.toNatClampNeg = i) (hin : vp_in x n) (hdg : decode cc pc = .ok (.aaload, 1))
    (kk : W p l e R s m args below meth c H locs cells slots Q (F0 m (pc + 1) ls (.ref (hR E j k i) :: rest))) : W p l e R s m args below meth c H locs cells slots Q (F0 m pc ls (.int x :: .ref (hR E j k 1000) :: rest)) := by
  obtain ⟨q, hq⟩ := hW_at (E := E) (σ := σ) (Z := Z) (c := (j, k + 1, 1000)) (hIds_s hj hl List.mem_cons_self)
  rw [hCont_s hl] at hq
  subst hx
  have hlt : x.toNatClampNeg < n := Nat.not_le.mp fun q => hin (Or.inr q)
  refine g_aald0 C M (ty := .array .long) rfl (t0 := 5) hq rfl hin hdg ?_
  rw [if_pos hlt]
  exact kk
/-- an object out of an array of objects -/
theorem g_aald7 (C : hC E A p s m c cc nL own) (M : hM E A s H locs σ Z) (j k : Nat) (hj : j < 44) {t n b : Nat} (hl : (hLay j)[k]? = some (7, t, n, b)) (ht : 6 ≤ t ∧ t < 9) {x : Int32} (i : Nat) (hx : x.toNatClampNeg = i) (hin : vp_in x n) (hdg : decode cc pc = .ok (.aaload, 1))
    (kk : W p l e R s m args below meth c H locs cells slots Q (F0 m (pc + 1) ls (.ref (hO E (b + i)) :: rest))) : W p l e R s m args below meth c H locs cells slots Q (F0 m pc ls (.int x :: .ref (hR E j k 0) :: rest)) := by
  obtain ⟨q, hq⟩ := hW_at (E := E) (σ := σ) (Z := Z) (c := (j, k + 1, 0)) (hIds_s hj hl (List.mem_singleton.mpr rfl))
  rw [hCont_s hl] at hq
  subst hx
  have hlt : x.toNatClampNeg < n := Nat.not_le.mp fun q => hin (Or.inr q)
  have hr : (hTy t).isReference = true := by
    rcases (show t = 6 ∨ t = 7 ∨ t = 8 by omega) with rfl | rfl | rfl <;> rfl
  refine g_aald0 C M (ty := hTy t) hr (t0 := t) hq ?_ hin hdg ?_
  · rw [hTys, List.getElem?_map, List.getElem?_range ht.2]
    rfl
  · rw [if_pos hlt]
    exact kk
theorem hM.setA {E : hEnv} {A : Nat → Prop} {s : State} {H H1 : Heap} {locs locs1 : List Loc} {σ : hMem} {Z : va_W} (M : hM E A s H locs σ Z) {j k i q : Nat} {en : hEn} {f : Nat → Int32} {x : va_E} (hl : (hLay j)[k]? = some en) (hi : (j, k + 1, i) ∈ hIds) (hq : (hW E σ ++ Z)[q]? = some (hAd E (j, k + 1, i), hCont E σ (j, k + 1, i))) (hx : hArr E (sA σ j k i f) j k i en = x) (a1 : va_P E.1 vwCl ((hW E σ ++ Z).set q (hAd E (j, k + 1, i), x)) H1) (a2 : va_D A ((hW E σ ++ Z).set q (hAd E (j, k + 1, i), x))) (a3 : va_S A s.heap H1 locs1) : hM E A s H1 locs1 (sA σ j k i f) Z := by
  rw [hW_set (σ' := sA σ j k i f) M.2.1 hq hi (by rw [hCont_s hl, hx]) (fun d hd h => hCont_sA E σ j k i f hl d hd h)] at a1 a2
  exact ⟨a1, a2, a3, M.2.2.2⟩
theorem hM.setB {E : hEnv} {A : Nat → Prop} {s : State} {H H1 : Heap} {locs locs1 : List Loc} {σ : hMem} {Z : va_W} (M : hM E A s H locs σ Z) {j k i q : Nat} {en : hEn} {f : Nat → Int64} {x : va_E} (hl : (hLay j)[k]? = some en) (hi : (j, k + 1, i) ∈ hIds) (hq : (hW E σ ++ Z)[q]? = some (hAd E (j, k + 1, i), hCont E σ (j, k + 1, i))) (hx : hArr E (sB σ j k i f) j k i en = x) (a1 : va_P E.1 vwCl ((hW E σ ++ Z).set q (hAd E (j, k + 1, i), x)) H1) (a2 : va_D A ((hW E σ ++ Z).set q (hAd E (j, k + 1, i), x))) (a3 : va_S A s.heap H1 locs1) : hM E A s H1 locs1 (sB σ j k i f) Z := by
  rw [hW_set (σ' := sB σ j k i f) M.2.1 hq hi (by rw [hCont_s hl, hx]) (fun d hd h => hCont_sB E σ j k i f hl d hd h)] at a1 a2
  exact ⟨a1, a2, a3, M.2.2.2⟩
theorem g_iast (C : hC E A p s m c cc nL own) (M : hM E A s H locs σ Z) (j k : Nat) (hj : j < 44) {n b : Nat} (hl : (hLay j)[k]? = some (3, 0, n, b)) {x v : Int32} (i : Nat) (hx : x.toNatClampNeg = i) (hin : vp_in x n) (hdg : decode cc pc = .ok (.iastore, 1))
    (kk : ∀ (H1 : Heap) (locs1 : List Loc), hM E A s H1 locs1 (sA σ j k 0 (upd (hA σ j k 0) i v)) Z → W p l e R s m args below meth c H1 locs1 cells slots Q (F0 m (pc + 1) ls rest)) : W p l e R s m args below meth c H locs cells slots Q (F0 m pc ls (.int v :: .int x :: .ref (hR E j k 0) :: rest)) := by
  have hi := hIds_s (c := (j, k + 1, 0)) hj hl (List.mem_singleton.mpr rfl)
  obtain ⟨q, hq0⟩ := hW_at (E := E) (σ := σ) (Z := Z) hi
  have hq := hq0
  rw [hCont_s hl] at hq
  subst hx
  exact va_iast C.1 C.2.1 C.2.2.2.2.1.2 M.1 M.2.1 M.2.2.1 q 0 hq rfl hin hdg (fun H1 locs1 a1 a2 a3 => kk H1 locs1 (M.setA hl hi hq0 (by simp [hArr, hA_sA]) a1 a2 a3))
theorem g_zast (C : hC E A p s m c cc nL own) (M : hM E A s H locs σ Z) (j k : Nat) (hj : j < 44) {n b : Nat} (hl : (hLay j)[k]? = some (3, 2, n, b)) {x v : Int32} (hv : v = 0 ∨ v = 1) (i : Nat) (hx : x.toNatClampNeg = i) (hin : vp_in x n) (hdg : decode cc pc = .ok (.bastore, 1))
    (kk : ∀ (H1 : Heap) (locs1 : List Loc), hM E A s H1 locs1 (sA σ j k 0 (upd (hA σ j k 0) i v)) Z → W p l e R s m args below meth c H1 locs1 cells slots Q (F0 m (pc + 1) ls rest)) : W p l e R s m args below meth c H locs cells slots Q (F0 m pc ls (.int v :: .int x :: .ref (hR E j k 0) :: rest)) := by
  have hi := hIds_s (c := (j, k + 1, 0)) hj hl (List.mem_singleton.mpr rfl)
  obtain ⟨q, hq0⟩ := hW_at (E := E) (σ := σ) (Z := Z) hi
  have hq := hq0
  rw [hCont_s hl] at hq
  subst hx
  have hvv : vp_nar .boolean v = v := by rcases hv with rfl | rfl <;> rfl
  exact va_zast C.1 C.2.1 C.2.2.2.2.1.2 M.1 M.2.1 M.2.2.1 q 2 hq rfl hin hdg (fun H1 locs1 a1 a2 a3 => by
    rw [hvv] at a1 a2
    exact kk H1 locs1 (M.setA hl hi hq0 (by simp [hArr, hA_sA]) a1 a2 a3))
theorem g_bast (C : hC E A p s m c cc nL own) (M : hM E A s H locs σ Z) (j k : Nat) (hj : j < 44) {n b : Nat} (hl : (hLay j)[k]? = some (3, 3, n, b)) {x v : Int32} (hv : vp_nar .byte v = v) (i : Nat) (hx : x.toNatClampNeg = i) (hin : vp_in x n) (hdg : decode cc pc = .ok (.bastore, 1))
    (kk : ∀ (H1 : Heap) (locs1 : List Loc), hM E A s H1 locs1 (sA σ j k 0 (upd (hA σ j k 0) i v)) Z → W p l e R s m args below meth c H1 locs1 cells slots Q (F0 m (pc + 1) ls rest)) : W p l e R s m args below meth c H locs cells slots Q (F0 m pc ls (.int v :: .int x :: .ref (hR E j k 0) :: rest)) := by
  have hi := hIds_s (c := (j, k + 1, 0)) hj hl (List.mem_singleton.mpr rfl)
  obtain ⟨q, hq0⟩ := hW_at (E := E) (σ := σ) (Z := Z) hi
  have hq := hq0
  rw [hCont_s hl] at hq
  subst hx
  exact va_bast C.1 C.2.1 C.2.2.2.2.1.2 M.1 M.2.1 M.2.2.1 q 3 hq rfl hin hdg (fun H1 locs1 a1 a2 a3 => by
    rw [hv] at a1 a2
    exact kk H1 locs1 (M.setA hl hi hq0 (by simp [hArr, hA_sA]) a1 a2 a3))
theorem g_last (C : hC E A p s m c cc nL own) (M : hM E A s H locs σ Z) (j k : Nat) (hj : j < 44) {n b : Nat} (hl : (hLay j)[k]? = some (4, 1, n, b)) {x : Int32} {v : Int64} (i : Nat) (hx : x.toNatClampNeg = i) (hin : vp_in x n) (hdg : decode cc pc = .ok (.lastore, 1))
    (kk : ∀ (H1 : Heap) (locs1 : List Loc), hM E A s H1 locs1 (sB σ j k 0 (vp_updL (hB σ j k 0) i v)) Z → W p l e R s m args below meth c H1 locs1 cells slots Q (F0 m (pc + 1) ls rest)) : W p l e R s m args below meth c H locs cells slots Q (F0 m pc ls (.long v :: .int x :: .ref (hR E j k 0) :: rest)) := by
  have hi := hIds_s (c := (j, k + 1, 0)) hj hl (List.mem_singleton.mpr rfl)
  obtain ⟨q, hq0⟩ := hW_at (E := E) (σ := σ) (Z := Z) hi
  have hq := hq0
  rw [hCont_s hl] at hq
  subst hx
  exact va_last C.1 C.2.1 C.2.2.2.2.1.2 M.1 M.2.1 M.2.2.1 q 1 hq rfl hin hdg (fun H1 locs1 a1 a2 a3 => kk H1 locs1 (M.setB hl hi hq0 (by simp [hArr, hB_sB]) a1 a2 a3))
theorem g_riast (C : hC E A p s m c cc nL own) (M : hM E A s H locs σ Z) (j k r : Nat) (hj : j < 44) {t n b : Nat} (hl : (hLay j)[k]? = some (5, t, n, b)) (hr : r < n) (hn : n ≤ 1000) {x v : Int32} (i : Nat) (hx : x.toNatClampNeg = i) (hin : vp_in x b) (hdg : decode cc pc = .ok (.iastore, 1))
    (kk : ∀ (H1 : Heap) (locs1 : List Loc), hM E A s H1 locs1 (sA σ j k r (upd (hA σ j k r) i v)) Z → W p l e R s m args below meth c H1 locs1 cells slots Q (F0 m (pc + 1) ls rest)) : W p l e R s m args below meth c H locs cells slots Q (F0 m pc ls (.int v :: .int x :: .ref (hR E j k r) :: rest)) := by
  have hi := hIds_s (c := (j, k + 1, r)) hj hl (hSub5 hr)
  obtain ⟨q, hq0⟩ := hW_at (E := E) (σ := σ) (Z := Z) hi
  have hq := hq0
  rw [hCont_s hl, hArr5 (by omega)] at hq
  subst hx
  exact va_iast C.1 C.2.1 C.2.2.2.2.1.2 M.1 M.2.1 M.2.2.1 q 0 hq rfl hin hdg (fun H1 locs1 a1 a2 a3 => kk H1 locs1 (M.setA hl hi hq0 (by rw [hArr5 (by omega)]; simp [hA_sA]) a1 a2 a3))
theorem g_rlast (C : hC E A p s m c cc nL own) (M : hM E A s H locs σ Z) (j k r : Nat) (hj : j < 44) {t n b : Nat} (hl : (hLay j)[k]? = some (6, t, n, b)) (hr : r < n) (hn : n ≤ 1000) {x : Int32} {v : Int64} (i : Nat) (hx : x.toNatClampNeg = i) (hin : vp_in x b) (hdg : decode cc pc = .ok (.lastore, 1))
    (kk : ∀ (H1 : Heap) (locs1 : List Loc), hM E A s H1 locs1 (sB σ j k r (vp_updL (hB σ j k r) i v)) Z → W p l e R s m args below meth c H1 locs1 cells slots Q (F0 m (pc + 1) ls rest)) : W p l e R s m args below meth c H locs cells slots Q (F0 m pc ls (.long v :: .int x :: .ref (hR E j k r) :: rest)) := by
  have hi := hIds_s (c := (j, k + 1, r)) hj hl (hSub6 hr)
  obtain ⟨q, hq0⟩ := hW_at (E := E) (σ := σ) (Z := Z) hi
  have hq := hq0
  rw [hCont_s hl, hArr6 (by omega)] at hq
  subst hx
  exact va_last C.1 C.2.1 C.2.2.2.2.1.2 M.1 M.2.1 M.2.2.1 q 1 hq rfl hin hdg (fun H1 locs1 a1 a2 a3 => kk H1 locs1 (M.setB hl hi hq0 (by rw [hArr6 (by omega)]; simp [hB_sB]) a1 a2 a3))
theorem g_alen (C : hC E A p s m c cc nL own) (M : hM E A s H locs σ Z) (j k : Nat) (hj : j < 44) {t n b : Nat} (hl : (hLay j)[k]? = some (3, t, n, b)) (ht : t < 9) (hdg : decode cc pc = .ok (.arraylength, 1))
    (kk : W p l e R s m args below meth c H locs cells slots Q (F0 m (pc + 1) ls (.int (nI n) :: rest))) : W p l e R s m args below meth c H locs cells slots Q (F0 m pc ls (.ref (hR E j k 0) :: rest)) := by
  obtain ⟨q, hq⟩ := hW_at (E := E) (σ := σ) (Z := Z) (c := (j, k + 1, 0)) (hIds_s hj hl (List.mem_singleton.mpr rfl))
  rw [hCont_s hl] at hq
  exact va_alen C.1 C.2.1 C.2.2.2.2.1.2 M.1 q t hq (show (hTys E)[t]? = some (E.2.1 t, hTy t) by rw [hTys, List.getElem?_map, List.getElem?_range ht]; rfl) rfl hdg kk
end ROWS
end
section
/-! Contracts over the memory, calls, returns. -/
def hPre (E : hEnv) (σ : hMem) (Z : va_W) (sz : Nat) (av : List Value) : Array Value → State → Prop := va_Pc av (fun U => U.heap.size = sz ∧ va_P E.1 vwCl (hW E σ ++ Z) U.heap ∧ va_D (fun _ => True) (hW E σ ++ Z) ∧ hKS E U ∧ hSt E (va_A (hW E σ ++ Z) sz) U U.heap)
def hPost (E : hEnv) (A : Nat → Prop) (u : hMem × va_W) (t : State) : Prop := va_P E.1 vwCl (hW E u.1 ++ u.2) t.heap ∧ va_D A (hW E u.1 ++ u.2)
abbrev hRmT : Type := Nat × Nat × Nat × Nat
/-- room: frames, cells, slots, locals -/
def hRm (rm : hRmT) : Room := { frames := rm.1, cells := rm.2.1, slots := rm.2.2.1, locals := rm.2.2.2 }
abbrev hQf : Type := (Nat → Prop) → Array Value → State → Outcome → State → Prop
def hQi (E : hEnv) (Rr : Int32 → hMem × va_W → Prop) : hQf := fun A => va_Qi Rr (hPost E A) A
def hQl (E : hEnv) (Rr : Int64 → hMem × va_W → Prop) : hQf := fun A => va_Ql Rr (hPost E A) A
def hQv (E : hEnv) (Rr : hMem × va_W → Prop) : hQf := fun A => va_Qv Rr (hPost E A) A
def hQr (E : hEnv) (Rr : Nat → hMem × va_W → Prop) : hQf := fun A => va_Qr (fun _ : hMem × va_W => True) (fun u a t => Rr a u ∧ hPost E A u t) A
def hMet (l : Launch) (y : MethodName) (bytes : ByteArray) (maxL : Nat) (ret : Option FieldType) (rm : hRmT) (E : hEnv) (σ : hMem) (Z : va_W) (av : List Value) (Qf : hQf) : Prop :=
  ∀ sz : Nat, Met l y [.code y bytes maxL ret] (hRm rm) (hPre E σ Z sz av) (Qf (va_A (hW E σ ++ Z) sz)) rm.2.1 rm.2.2.1 (va_A (hW E σ ++ Z) sz)
theorem hMet.of {l : Launch} {y : MethodName} {bytes : ByteArray} {maxL : Nat} {ret : Option FieldType} {rm : hRmT} {E : hEnv} {σ : hMem} {Z : va_W} {av : List Value} {Qf : hQf} (hy : plainName y.cls = true) (hml0 : (lg_sl av).length ≤ maxL)
    (body : ∀ (p : Program) (e : Env) (s : State) (m : MethodId) (below : List Frame) (meth : Method) (c : Code) (A : Nat → Prop) (ls : Array Slot), hC E A p s m c bytes maxL y.cls → hM E A s s.heap [] σ Z → meth.sig.returnType = ret → meth.locks = false → lv_has ls maxL (lv_args 0 av) →
      W p l e (hRm rm) s m av.toArray below meth c s.heap [] 0 0 (MQ below (Qf A) av.toArray s rm.2.1 rm.2.2.1 A) (F0 m 0 ls [])) : hMet l y bytes maxL ret rm E σ Z av Qf := by
  intro sz
  refine Met.ofW (cc := bytes) (maxL := maxL) (ret := ret) hy rfl ?_
  intro p e s m args below meth c s₁ B hml hv
  obtain ⟨rfl, hsz, hP, hD0, hK, hS⟩ := hv
  have hown : s.vm.findClass y.cls = some m.cls := findClass_of_methodNamed B.named
  subst hsz
  have hD := hD0.self (sz := s.heap.size)
  rw [lg_entry_eq]
  exact body p e s m below meth c _ _ ⟨B.exec, B.bytes, hml, hown, hK, hS⟩ ⟨hP, hD, va_S.rf, fun q h => Or.inr h⟩ B.returns B.notSynchronized (lv_entry av hml0)
theorem hPre.blind {E : hEnv} {σ : hMem} {Z : va_W} {sz : Nat} {av : List Value} : FrameBlind (hPre E σ Z sz av) := by
  intro a U g mk h
  obtain ⟨h0, h1, h2, h3, h4, h5⟩ := h
  have hW : U.WarmedH (U.calling g mk a).vm := State.WarmedH.refl U
  exact ⟨h0, h1, h2, h3, h4.warm hW, h5.go hW (fun _ _ _ => rfl) (fun _ h => h)⟩
theorem hM.free {E : hEnv} {A : Nat → Prop} {s : State} {H : Heap} {locs : List Loc} {σ : hMem} {Z : va_W} (M : hM E A s H locs σ Z) : ∀ q, va_A (hW E σ ++ Z) H.size q → A q := by
  intro q h
  rcases h with ⟨k, e, h⟩ | h
  · exact M.2.1.2 k _ h
  · exact M.2.2.2 q (Nat.le_trans M.2.2.1.1 h)
theorem hPre.ok {E : hEnv} {A : Nat → Prop} {p : Program} {s : State} {m : MethodId} {c : Code} {cc : ByteArray} {nL : Nat} {own : String} {H : Heap} {locs : List Loc} {σ : hMem} {Z : va_W} (C : hC E A p s m c cc nL own) (M : hM E A s H locs σ Z) (av : List Value) : ∀ U : State, U.heap = H → s.WarmedH U.vm → hPre E σ Z H.size av av.toArray U := by
  intro U hU hW
  refine ⟨rfl, by rw [hU], by rw [hU]; exact M.1, M.2.1.weaken (fun _ _ _ _ => trivial), C.2.2.2.2.1.warm hW, ?_⟩
  rw [hU]
  exact C.2.2.2.2.2.go hW M.2.2.1.2.1 M.free
section CALLS
variable {p : Program} {l : Launch} {e : Env} {R : Room} {s : State} {m : MethodId} {args : Array Value} {below : List Frame} {meth : Method} {c : Code} {H : Heap} {locs : List Loc} {cells slots : Nat} {Q : State → Prop}
variable {cc : ByteArray} {pc nL : Nat} {ls : Array Slot} {rest : List Value} {E : hEnv} {A : Nat → Prop} {σ : hMem} {Z : va_W} {own : String}
variable {y : MethodName} {bytes : ByteArray} {maxL n idx : Nat} {ret : Option FieldType} {rm : hRmT} {As st0 : List Value} {Qf : hQf}
theorem hPay (C : hC E A p s m c cc nL own) (hcl : hCl y bytes maxL ret n) : ∀ w ∈ [Cond.code y bytes maxL ret], ∀ (a' : Array Value) (U : State), s.WarmedH U.vm → w.before a' U = true := by
  intro w hw a' U hW
  rw [List.mem_singleton.mp hw]
  exact word_at (args := #[]) hW (Or.inl rfl) (C.2.2.2.2.1.1.use hcl.1 rfl)
theorem hNp (hcl : hCl y bytes maxL ret n) : ∀ sig, parseMethodDescriptor y.desc = some sig → n = sig.parameters.length := by
  intro sig h
  have h2 := hcl.2.2.2
  rw [h] at h2
  exact (Option.some.inj h2).symm
theorem hRecv (C : hC E A p s m c cc nL own) (M : hM E A s H locs σ Z) {j : Nat} (hj : j < 44) {K : String} {T : u_T} {N : Nat} (hc : vwCl[hCi j]? = some (K, T, N)) : ∃ cell : Cell, H[hO E j]? = some cell ∧ cell.vm.isStatics = false ∧ s.vm.findClass K = some cell.cls := by
  obtain ⟨q, hq⟩ := hW_at (E := E) (σ := σ) (Z := Z) (hIds_o hj)
  exact va_recv C.2.2.2.2.1.2 M.1 hc hq
/-- a call of an object's method -/
theorem g_runV (C : hC E A p s m c cc nL own) (M : hM E A s H locs σ Z) (j : Nat) (hm : hMet l y bytes maxL ret rm E σ Z (.ref (hO E j) :: As) Qf) (hcl : hCl y bytes maxL ret n) (iv : hIv y) (lk : hLk own idx y) (hj : j < 44) {T : u_T} {N : Nat} (hc : vwCl[hCi j]? = some (y.cls, T, N)) (hn : As.length = n) (hR : rm.1 + 1 ≤ R.frames ∧ 8 + (maxL + 11) + rm.2.2.2 ≤ R.locals) (hls : ls.size = nL) (hst : st0 = As.reverse ++ .ref (hO E j) :: rest) (hrest : (rest.map fun v => v.category).sum ≤ 8) (hdg : decode cc pc = .ok (.invokevirtual idx, 3)) (hcs : cells + rm.2.1 ≤ R.cells ∧ slots + rm.2.2.1 ≤ R.slots) :
    va_Run p l e R s m args below meth c H locs cells slots rm.2.1 rm.2.2.1 (F0 m pc ls st0) rest (Qf (va_A (hW E σ ++ Z) H.size) (.ref (hO E j) :: As).toArray) (va_A (hW E σ ++ Z) H.size) := by
  have K := C.2.2.2.2.1.1
  have hfix : CallFix p m c cc nL s args [] own := ⟨C.1, C.2.1, C.2.2.1, C.2.2.2.1, fun w h => by cases h⟩
  have hpre : PreV s H y.cls (hO E j) (hPre E σ Z H.size (.ref (hO E j) :: As)) As := ⟨hPre.blind, hRecv C M hj hc, hPre.ok C M _⟩
  have hroom : 2 * (F0 m pc ls st0).monitorRoom + (rest.map fun v => v.category).sum ≤ 8 := lv_room hrest
  rcases lk with lk | ⟨host, lk⟩
  · exact va_runV hfix (hm H.size) ⟨⟨rfl, rfl, hR.1, hR.2, hPay C hcl, List.mem_singleton.mpr rfl, K.use hcl.1 rfl, K.use hcl.2.1 rfl, hcl.2.2.1, hNp hcl, K.use lk rfl⟩, K.use iv.1 rfl, K.use iv.2 rfl⟩ hpre rfl hn hls hst hroom hdg hcs
  · exact va_runVN hfix (hm H.size) ⟨⟨⟨rfl, rfl, hR.1, hR.2, hPay C hcl, List.mem_singleton.mpr rfl⟩, K.use hcl.1 rfl, K.use hcl.2.1 rfl, hcl.2.2.1, hNp hcl, K.use lk rfl⟩, K.use iv.1 rfl, K.use iv.2 rfl⟩ hpre rfl hn hls hst hroom hdg hcs
theorem g_runS (C : hC E A p s m c cc nL own) (M : hM E A s H locs σ Z) (hm : hMet l y bytes maxL ret rm E σ Z As Qf) (hcl : hCl y bytes maxL ret n) (sm : Cond.static y ∈ lw_tbl) (lk : hLk own idx y) (hn : As.length = n) (hR : rm.1 + 1 ≤ R.frames ∧ 8 + (maxL + 11) + rm.2.2.2 ≤ R.locals) (hls : ls.size = nL) (hst : st0 = As.reverse ++ rest) (hrest : (rest.map fun v => v.category).sum ≤ 8) (hdg : decode cc pc = .ok (.invokestatic idx, 3)) (hcs : cells + rm.2.1 ≤ R.cells ∧ slots + rm.2.2.1 ≤ R.slots) :
    va_Run p l e R s m args below meth c H locs cells slots rm.2.1 rm.2.2.1 (F0 m pc ls st0) rest (Qf (va_A (hW E σ ++ Z) H.size) As.toArray) (va_A (hW E σ ++ Z) H.size) := by
  have K := C.2.2.2.2.1.1
  have hfix : CallFix p m c cc nL s args [] own := ⟨C.1, C.2.1, C.2.2.1, C.2.2.2.1, fun w h => by cases h⟩
  have hpre : PreS s H (hPre E σ Z H.size As) As := ⟨hPre.blind, hPre.ok C M _⟩
  have hroom : 2 * (F0 m pc ls st0).monitorRoom + (rest.map fun v => v.category).sum ≤ 8 := lv_room hrest
  rcases lk with lk | ⟨host, lk⟩
  · exact va_runS hfix (hm H.size) ⟨⟨rfl, rfl, hR.1, hR.2, hPay C hcl, List.mem_singleton.mpr rfl, K.use hcl.1 rfl, K.use hcl.2.1 rfl, hcl.2.2.1, hNp hcl, K.use lk rfl⟩, K.use sm rfl⟩ hpre rfl hn hls hst hroom hdg hcs
  · exact va_runSN hfix (hm H.size) ⟨⟨⟨rfl, rfl, hR.1, hR.2, hPay C hcl, List.mem_singleton.mpr rfl⟩, K.use hcl.1 rfl, K.use hcl.2.1 rfl, hcl.2.2.1, hNp hcl, K.use lk rfl⟩, K.use sm rfl, trivial⟩ hpre rfl hn hls hst hroom hdg hcs
theorem hM.after {u : hMem × va_W} {t : State} {H1 : Heap} {locs1 : List Loc} (M : hM E A s H locs σ Z) (ht : t.heap = H1) (hB : hPost E (va_A (hW E σ ++ Z) H.size) u t) (hS : va_S A s.heap H1 locs1) : hM E A s H1 locs1 u.1 u.2 :=
  ⟨by rw [← ht]; exact hB.1, hB.2.weaken (fun _ _ _ h => M.free _ h), hS, M.2.2.2⟩
theorem g_calli {Rr : Int32 → hMem × va_W → Prop} {a : Array Value} {mc ms : Nat} (M : hM E A s H locs σ Z) (hr : va_Run p l e R s m args below meth c H locs cells slots mc ms (F0 m pc ls st0) rest (hQi E Rr (va_A (hW E σ ++ Z) H.size) a) (va_A (hW E σ ++ Z) H.size))
    (kk : ∀ (r : Int32) (u : hMem × va_W) (H1 : Heap) (locs1 : List Loc), Rr r u → hM E A s H1 locs1 u.1 u.2 → W p l e R s m args below meth c H1 locs1 (cells + mc) (slots + ms) Q (F0 m (pc + 3) ls (.int r :: rest))) : W p l e R s m args below meth c H locs cells slots Q (F0 m pc ls st0) :=
  va_calli hr M.2.2.1 (fun q _ h => M.free q h) M.free (fun r u _ H1 locs1 ht _ hp hB _ _ hS => kk r u H1 locs1 hp (M.after ht hB hS))
theorem g_calll {Rr : Int64 → hMem × va_W → Prop} {a : Array Value} {mc ms : Nat} (M : hM E A s H locs σ Z) (hr : va_Run p l e R s m args below meth c H locs cells slots mc ms (F0 m pc ls st0) rest (hQl E Rr (va_A (hW E σ ++ Z) H.size) a) (va_A (hW E σ ++ Z) H.size))
    (kk : ∀ (r : Int64) (u : hMem × va_W) (H1 : Heap) (locs1 : List Loc), Rr r u → hM E A s H1 locs1 u.1 u.2 → W p l e R s m args below meth c H1 locs1 (cells + mc) (slots + ms) Q (F0 m (pc + 3) ls (.long r :: rest))) : W p l e R s m args below meth c H locs cells slots Q (F0 m pc ls st0) :=
  va_calll hr M.2.2.1 (fun q _ h => M.free q h) M.free (fun r u _ H1 locs1 ht _ hp hB _ _ hS => kk r u H1 locs1 hp (M.after ht hB hS))
theorem g_callv {Rr : hMem × va_W → Prop} {a : Array Value} {mc ms : Nat} (M : hM E A s H locs σ Z) (hr : va_Run p l e R s m args below meth c H locs cells slots mc ms (F0 m pc ls st0) rest (hQv E Rr (va_A (hW E σ ++ Z) H.size) a) (va_A (hW E σ ++ Z) H.size))
    (kk : ∀ (u : hMem × va_W) (H1 : Heap) (locs1 : List Loc), Rr u → hM E A s H1 locs1 u.1 u.2 → W p l e R s m args below meth c H1 locs1 (cells + mc) (slots + ms) Q (F0 m (pc + 3) ls rest)) : W p l e R s m args below meth c H locs cells slots Q (F0 m pc ls st0) :=
  va_callv hr M.2.2.1 (fun q _ h => M.free q h) M.free (fun u _ H1 locs1 ht _ hp hB _ _ hS => kk u H1 locs1 hp (M.after ht hB hS))
theorem g_callr {Rr : Nat → hMem × va_W → Prop} {a : Array Value} {mc ms : Nat} (M : hM E A s H locs σ Z) (hr : va_Run p l e R s m args below meth c H locs cells slots mc ms (F0 m pc ls st0) rest (hQr E Rr (va_A (hW E σ ++ Z) H.size) a) (va_A (hW E σ ++ Z) H.size))
    (kk : ∀ (r : Nat) (u : hMem × va_W) (H1 : Heap) (locs1 : List Loc), Rr r u → hM E A s H1 locs1 u.1 u.2 → W p l e R s m args below meth c H1 locs1 (cells + mc) (slots + ms) Q (F0 m (pc + 3) ls (.ref r :: rest))) : W p l e R s m args below meth c H locs cells slots Q (F0 m pc ls st0) :=
  va_callr hr M.2.2.1 (fun q _ h => M.free q h) M.free (fun u r _ H1 locs1 ht _ _ hB _ _ hS => kk r u H1 locs1 hB.1 (M.after ht hB.2 hS))
/-- returns -/
theorem g_iret {Rr : Int32 → hMem × va_W → Prop} {mc ms : Nat} {v : Int32} (C : hC E A p s m c cc nL own) (M : hM E A s H locs σ Z) (hr : meth.sig.returnType = some .int) (hlk : meth.locks = false) (hR : Rr v (σ, Z)) (hc : cells ≤ mc) (hs : slots ≤ ms) (hdg : decode cc pc = .ok (.ireturn, 1)) : W p l e R s m args below meth c H locs cells slots (MQ below (hQi E Rr A) args s mc ms A) (F0 m pc ls [.int v]) :=
  W.widen hc hs (W.iret C.1 C.2.1 hr (fun t ht _ => ⟨⟨v, (σ, Z), rfl, hR, by rw [ht]; exact M.1, M.2.1⟩, M.2.2.1.F ht⟩) M.2.2.1.2.2 hdg hlk)
theorem g_zret {Rr : Int32 → hMem × va_W → Prop} {mc ms : Nat} {v : Int32} {ty : FieldType} (hn : narrow ty (.int v) = .int v) (C : hC E A p s m c cc nL own) (M : hM E A s H locs σ Z) (hr : meth.sig.returnType = some ty) (hlk : meth.locks = false) (hR : Rr v (σ, Z)) (hc : cells ≤ mc) (hs : slots ≤ ms) (hdg : decode cc pc = .ok (.ireturn, 1)) : W p l e R s m args below meth c H locs cells slots (MQ below (hQi E Rr A) args s mc ms A) (F0 m pc ls [.int v]) :=
  W.widen hc hs (W.zret C.1 C.2.1 hr hn (fun t ht _ => ⟨⟨v, (σ, Z), rfl, hR, by rw [ht]; exact M.1, M.2.1⟩, M.2.2.1.F ht⟩) M.2.2.1.2.2 hdg hlk)
theorem g_lret {Rr : Int64 → hMem × va_W → Prop} {mc ms : Nat} {v : Int64} (C : hC E A p s m c cc nL own) (M : hM E A s H locs σ Z) (hr : meth.sig.returnType = some .long) (hlk : meth.locks = false) (hR : Rr v (σ, Z)) (hc : cells ≤ mc) (hs : slots ≤ ms) (hdg : decode cc pc = .ok (.lreturn, 1)) : W p l e R s m args below meth c H locs cells slots (MQ below (hQl E Rr A) args s mc ms A) (F0 m pc ls [.long v]) :=
  W.widen hc hs (W.lret C.1 C.2.1 hr (fun t ht _ => ⟨⟨v, (σ, Z), rfl, hR, by rw [ht]; exact M.1, M.2.1⟩, M.2.2.1.F ht⟩) M.2.2.1.2.2 hdg hlk)
theorem g_vret {Rr : hMem × va_W → Prop} {mc ms : Nat} (C : hC E A p s m c cc nL own) (M : hM E A s H locs σ Z) (hr : meth.sig.returnType = none) (hlk : meth.locks = false) (hR : Rr (σ, Z)) (hc : cells ≤ mc) (hs : slots ≤ ms) (hdg : decode cc pc = .ok (.return_, 1)) : W p l e R s m args below meth c H locs cells slots (MQ below (hQv E Rr A) args s mc ms A) (F0 m pc ls []) :=
  W.widen hc hs (W.vret C.1 C.2.1 hr (fun t ht _ => ⟨⟨(σ, Z), rfl, hR, by rw [ht]; exact M.1, M.2.1⟩, M.2.2.1.F ht⟩) M.2.2.1.2.2 hdg hlk)
/-- the cells behind the memory: read, written, made, dropped -/
theorem hZ_at {z : Nat} {x : Nat × va_E} (h : Z[z]? = some x) : (hW E σ ++ Z)[(hW E σ).length + z]? = some x := by
  rw [List.getElem?_append_right (Nat.le_add_right _ _), Nat.add_sub_cancel_left]
  exact h
theorem hZ_set {z : Nat} {x : Nat × va_E} : (hW E σ ++ Z).set ((hW E σ).length + z) x = hW E σ ++ Z.set z x := by
  rw [List.set_append_right _ _ (Nat.le_add_right _ _), Nat.add_sub_cancel_left]
theorem g_xiald (C : hC E A p s m c cc nL own) (M : hM E A s H locs σ Z) (z : Nat) {a k : Nat} {f : Nat → Int32} (hz : Z[z]? = some (a, .inl (E.2.1 0, k, .inl f))) {x : Int32} (i : Nat) (hx : x.toNatClampNeg = i) (hin : vp_in x k) {v : Int32} (hv : f i = v) (hdg : decode cc pc = .ok (.iaload, 1))
    (kk : W p l e R s m args below meth c H locs cells slots Q (F0 m (pc + 1) ls (.int v :: rest))) : W p l e R s m args below meth c H locs cells slots Q (F0 m pc ls (.int x :: .ref a :: rest)) := by
  subst hx
  subst hv
  exact va_iald C.1 C.2.1 C.2.2.2.2.1.2 M.1 _ 0 (hZ_at hz) rfl hin hdg kk
theorem g_xzald (C : hC E A p s m c cc nL own) (M : hM E A s H locs σ Z) (z : Nat) {a k : Nat} {f : Nat → Int32} (hz : Z[z]? = some (a, .inl (E.2.1 2, k, .inl f))) {x : Int32} (i : Nat) (hx : x.toNatClampNeg = i) (hin : vp_in x k) {v : Int32} (hv : f i = v) (hdg : decode cc pc = .ok (.baload, 1))
    (kk : W p l e R s m args below meth c H locs cells slots Q (F0 m (pc + 1) ls (.int v :: rest))) : W p l e R s m args below meth c H locs cells slots Q (F0 m pc ls (.int x :: .ref a :: rest)) := by
  subst hx
  subst hv
  exact va_zald C.1 C.2.1 C.2.2.2.2.1.2 M.1 _ 2 (hZ_at hz) rfl hin hdg kk
theorem g_xiast (C : hC E A p s m c cc nL own) (M : hM E A s H locs σ Z) (z : Nat) {a k : Nat} {f : Nat → Int32} (hz : Z[z]? = some (a, .inl (E.2.1 0, k, .inl f))) {x v : Int32} (i : Nat) (hx : x.toNatClampNeg = i) (hin : vp_in x k) (hdg : decode cc pc = .ok (.iastore, 1))
    (kk : ∀ (H1 : Heap) (locs1 : List Loc), hM E A s H1 locs1 σ (Z.set z (a, .inl (E.2.1 0, k, .inl (upd f i v)))) → W p l e R s m args below meth c H1 locs1 cells slots Q (F0 m (pc + 1) ls rest)) : W p l e R s m args below meth c H locs cells slots Q (F0 m pc ls (.int v :: .int x :: .ref a :: rest)) := by
  subst hx
  exact va_iast C.1 C.2.1 C.2.2.2.2.1.2 M.1 M.2.1 M.2.2.1 _ 0 (hZ_at hz) rfl hin hdg (fun H1 locs1 a1 a2 a3 => by
    rw [hZ_set] at a1 a2
    exact kk H1 locs1 ⟨a1, a2, a3, M.2.2.2⟩)
theorem g_xzast (C : hC E A p s m c cc nL own) (M : hM E A s H locs σ Z) (z : Nat) {a k : Nat} {f : Nat → Int32} (hz : Z[z]? = some (a, .inl (E.2.1 2, k, .inl f))) {x v : Int32} (hv : v = 0 ∨ v = 1) (i : Nat) (hx : x.toNatClampNeg = i) (hin : vp_in x k) (hdg : decode cc pc = .ok (.bastore, 1))
    (kk : ∀ (H1 : Heap) (locs1 : List Loc), hM E A s H1 locs1 σ (Z.set z (a, .inl (E.2.1 2, k, .inl (upd f i v)))) → W p l e R s m args below meth c H1 locs1 cells slots Q (F0 m (pc + 1) ls rest)) : W p l e R s m args below meth c H locs cells slots Q (F0 m pc ls (.int v :: .int x :: .ref a :: rest)) := by
  subst hx
  have hvv : vp_nar .boolean v = v := by rcases hv with rfl | rfl <;> rfl
  exact va_zast C.1 C.2.1 C.2.2.2.2.1.2 M.1 M.2.1 M.2.2.1 _ 2 (hZ_at hz) rfl hin hdg (fun H1 locs1 a1 a2 a3 => by
    rw [hvv, hZ_set] at a1 a2
    exact kk H1 locs1 ⟨a1, a2, a3, M.2.2.2⟩)
/-- the last of them is forgotten -/
theorem hM.drop {x : va_W} (M : hM E A s H locs σ (Z ++ x)) : hM E A s H locs σ Z := by
  obtain ⟨h1, h2, h3, h4⟩ := M
  rw [← List.append_assoc] at h1 h2
  refine ⟨fun k q hk => ?_, ⟨fun i j a b hi hj => ?_, fun k q hk => ?_⟩, h3, h4⟩
  · have hl := (List.getElem?_eq_some_iff.mp hk).1
    exact h1 k q (by rw [List.getElem?_append_left hl]; exact hk)
  · have hl := (List.getElem?_eq_some_iff.mp hi).1
    have hl2 := (List.getElem?_eq_some_iff.mp hj).1
    exact h2.1 i j a b (by rw [List.getElem?_append_left hl]; exact hi) (by rw [List.getElem?_append_left hl2]; exact hj)
  · have hl := (List.getElem?_eq_some_iff.mp hk).1
    exact h2.2 k q (by rw [List.getElem?_append_left hl]; exact hk)
theorem g_newi (C : hC E A p s m c cc nL own) (M : hM E A s H locs σ Z) {x : Int32} {k : Nat} (hw : Cond.arrayClass .int ∈ lw_tbl) (hn : ¬ x < 0) (hN : x.toNatClampNeg = k) (hk : k ≤ 1000) (hcells : cells + 1 ≤ R.cells) (hslots : slots + k ≤ R.slots) (hdg : decode cc pc = .ok (.newarray .int, 2))
    (kk : ∀ (a : Nat) (H1 : Heap), hM E A s H1 locs σ (Z ++ [(a, .inl (E.2.1 0, k, .inl (fun _ => 0)))]) → W p l e R s m args below meth c H1 locs (cells + 1) (slots + k) Q (F0 m (pc + 2) ls (.ref a :: rest))) : W p l e R s m args below meth c H locs cells slots Q (F0 m pc ls (.int x :: rest)) := by
  refine va_newaK C.1 C.2.1 (atype := .int) (C.2.2.2.2.1.1.use hw rfl) rfl hdg rfl hn hN (by show k * 4 ≤ _; omega) hcells hslots rfl (fun H' cA e1 e2 e3 e4 e5 => ?_)
  have hRA := (C.2.2.2.2.1.2.2 0 _ (show (hTys E)[0]? = some (E.2.1 0, .int) from rfl)).2
  have hcA : cA = E.2.1 0 := Option.some.inj (e5.symm.trans hRA)
  subst hcA
  obtain ⟨h1, h2, h3, h4⟩ := M
  have hP0 : va_P E.1 vwCl (hW E σ ++ Z) H' := h1.kept (fun k9 q hq => e3 q.1 ((h1 k9 q hq).lt))
  refine kk H.size H' ⟨?_, ?_, ⟨by rw [e2]; exact Nat.le_succ_of_le h3.1, fun q a b => by rw [e3 q (Nat.lt_of_lt_of_le a h3.1)]; exact h3.2.1 q a b, h3.2.2⟩, h4⟩
  · rw [← List.append_assoc]
    refine hP0.app (fun k9 q hq => ?_)
    have h0 : k9 < 1 := (List.getElem?_eq_some_iff.mp hq).1
    rw [show k9 = 0 by omega] at hq
    cases hq
    exact e1
  · rw [← List.append_assoc]
    exact h2.push h1 rfl (h4 _ h3.1)
theorem g_newz (C : hC E A p s m c cc nL own) (M : hM E A s H locs σ Z) {x : Int32} {k : Nat} (hw : Cond.arrayClass .boolean ∈ lw_tbl) (hn : ¬ x < 0) (hN : x.toNatClampNeg = k) (hk : k ≤ 1000) (hcells : cells + 1 ≤ R.cells) (hslots : slots + k ≤ R.slots) (hdg : decode cc pc = .ok (.newarray .boolean, 2))
    (kk : ∀ (a : Nat) (H1 : Heap), hM E A s H1 locs σ (Z ++ [(a, .inl (E.2.1 2, k, .inl (fun _ => 0)))]) → W p l e R s m args below meth c H1 locs (cells + 1) (slots + k) Q (F0 m (pc + 2) ls (.ref a :: rest))) : W p l e R s m args below meth c H locs cells slots Q (F0 m pc ls (.int x :: rest)) := by
  refine va_newaK C.1 C.2.1 (atype := .boolean) (C.2.2.2.2.1.1.use hw rfl) rfl hdg rfl hn hN (by show k * 1 ≤ _; omega) hcells hslots rfl (fun H' cA e1 e2 e3 e4 e5 => ?_)
  have hRA := (C.2.2.2.2.1.2.2 2 _ (show (hTys E)[2]? = some (E.2.1 2, .boolean) from rfl)).2
  have hcA : cA = E.2.1 2 := Option.some.inj (e5.symm.trans hRA)
  subst hcA
  obtain ⟨h1, h2, h3, h4⟩ := M
  have hP0 : va_P E.1 vwCl (hW E σ ++ Z) H' := h1.kept (fun k9 q hq => e3 q.1 ((h1 k9 q hq).lt))
  refine kk H.size H' ⟨?_, ?_, ⟨by rw [e2]; exact Nat.le_succ_of_le h3.1, fun q a b => by rw [e3 q (Nat.lt_of_lt_of_le a h3.1)]; exact h3.2.1 q a b, h3.2.2⟩, h4⟩
  · rw [← List.append_assoc]
    refine hP0.app (fun k9 q hq => ?_)
    have h0 : k9 < 1 := (List.getElem?_eq_some_iff.mp hq).1
    rw [show k9 = 0 by omega] at hq
    cases hq
    exact e1
  · rw [← List.append_assoc]
    exact h2.push h1 rfl (h4 _ h3.1)
end CALLS
end
section
/-! Truth values as ints; small rows. -/
def bz (P : Prop) [Decidable P] : Int32 := if P then 1 else 0
theorem bz_0 {P : Prop} [Decidable P] : (bz P = 0) ↔ ¬ P := by
  unfold bz
  by_cases h : P <;> simp [h]
theorem bz_1 {P : Prop} [Decidable P] : (bz P = 1) ↔ P := by
  unfold bz
  by_cases h : P <;> simp [h]
theorem bz_ne0 {P : Prop} [Decidable P] : (¬ bz P = 0) ↔ P := by
  unfold bz
  by_cases h : P <;> simp [h]
theorem bz_bit {P : Prop} [Decidable P] : bz P = 0 ∨ bz P = 1 := by
  unfold bz
  by_cases h : P <;> simp [h]
theorem bz_nar {P : Prop} [Decidable P] : narrow .boolean (.int (bz P)) = .int (bz P) := by
  unfold bz
  by_cases h : P <;> simp [h] <;> rfl
theorem bz_t {P : Prop} [Decidable P] (h : P) : bz P = 1 := bz_1.mpr h
theorem bz_f {P : Prop} [Decidable P] (h : ¬ P) : bz P = 0 := bz_0.mpr h
theorem bz_congr {P P' : Prop} [Decidable P] [Decidable P'] (h : P ↔ P') : bz P = bz P' := by
  by_cases h1 : P
  · rw [bz_t h1, bz_t (h.mp h1)]
  · rw [bz_f h1, bz_f (fun q => h1 (h.mpr q))]
section RE
variable {p : Program} {l : Launch} {e : Env} {R : Room} {s : State} {m : MethodId} {args : Array Value} {below : List Frame} {meth : Method} {c : Code} {H : Heap} {locs : List Loc} {cells slots : Nat} {Q : State → Prop} {pc : Nat} {ls : Array Slot} {rest : List Value}
theorem g_rei {x v : Int32} (h : x = v) (k : W p l e R s m args below meth c H locs cells slots Q (F0 m pc ls (.int v :: rest))) : W p l e R s m args below meth c H locs cells slots Q (F0 m pc ls (.int x :: rest)) := by
  rw [h]
  exact k
theorem g_rel {x v : Int64} (h : x = v) (k : W p l e R s m args below meth c H locs cells slots Q (F0 m pc ls (.long v :: rest))) : W p l e R s m args below meth c H locs cells slots Q (F0 m pc ls (.long x :: rest)) := by
  rw [h]
  exact k
end RE
theorem tb_out (x : Int32) {lo hi : Int} (h0 : 0 ≤ lo) (h1 : hi < 2147483648) (h : ∀ k : Nat, (lo : Int) + k ≤ hi → ¬ x = Int32.ofInt (lo + k)) : x.toInt < lo ∨ hi < x.toInt := by
  by_cases h2 : x.toInt < lo
  · exact Or.inl h2
  · right
    by_cases h3 : hi < x.toInt
    · exact h3
    · exfalso
      refine h (x.toInt - lo).toNat (by omega) ?_
      rw [show (lo : Int) + ((x.toInt - lo).toNat : Nat) = x.toInt by omega]
      simp
theorem vp_in_le {x b : Int32} {n : Nat} (h0 : ¬ x < 0) (h1 : ¬ b < x) (hb : b.toInt < (n : Int)) : vp_in x n := by
  rw [vp_in_iff]
  rw [Int32.lt_iff_toInt_lt] at h0 h1
  have e : (0 : Int32).toInt = 0 := rfl
  rw [e] at h0
  omega
/-- low to high -/
def inB (v low high : Int32) : Bool := !(decide (v < low)) && !(decide (high < v))
theorem inB_iff {v a b : Int32} : inB v a b = true ↔ ¬ v < a ∧ ¬ b < v := by simp [inB]
theorem vp_in_B {x b : Int32} {n : Nat} (h : inB x 0 b = true) (hb : b.toInt < (n : Int)) : vp_in x n := vp_in_le (inB_iff.mp h).1 (inB_iff.mp h).2 hb
theorem ct_ge {k n : Nat} (h : nI n ≤ nI k) (hn : n < 2 ^ 31 := by omega) (hk : k < 2 ^ 31 := by omega) : n ≤ k := (nI_leI hn hk).mp h
theorem ct_nge {k n : Nat} (h : ¬ nI n ≤ nI k) (hn : n < 2 ^ 31 := by omega) (hk : k < 2 ^ 31 := by omega) : k < n := Nat.not_le.mp (fun q => h ((nI_leI hn hk).mpr q))
theorem ct_ne {k : Nat} {x : Int32} (n : Nat) (h : ¬ nI k = x) (hx : x = nI n := by rfl) : k ≠ n := fun q => h (by rw [q, hx])
theorem ct_eq {k : Nat} {x : Int32} (n : Nat) (h : nI k = x) (hx : x = nI n := by rfl) (hn : n < 2 ^ 31 := by omega) (hk : k < 2 ^ 31 := by omega) : k = n := (nI_eq hk hn).mp (h.trans hx)
theorem lc_lt0 {x y : Int64} : lg_cmp x y < 0 ↔ x < y := lg_cmp_lt x y
theorem lc_lt1 {x y : Int64} : ¬ lg_cmp x y < 0 ↔ ¬ x < y := not_congr (lg_cmp_lt x y)
theorem lc_ge0 {x y : Int64} : 0 ≤ lg_cmp x y ↔ ¬ x < y := (lg_cmp_ge x y).trans Int64.not_lt.symm
theorem lc_ge1 {x y : Int64} : ¬ 0 ≤ lg_cmp x y ↔ x < y := (not_congr lc_ge0).trans Classical.not_not
theorem lc_gt0 {x y : Int64} : 0 < lg_cmp x y ↔ y < x := lg_cmp_gt x y
theorem lc_gt1 {x y : Int64} : ¬ 0 < lg_cmp x y ↔ ¬ y < x := not_congr (lg_cmp_gt x y)
theorem lc_le0 {x y : Int64} : lg_cmp x y ≤ 0 ↔ ¬ y < x := (lg_cmp_le x y).trans Int64.not_lt.symm
theorem lc_le1 {x y : Int64} : ¬ lg_cmp x y ≤ 0 ↔ y < x := (not_congr lc_le0).trans Classical.not_not
theorem lc_eq0 {x y : Int64} : lg_cmp x y = 0 ↔ x = y := lg_cmp_eq x y
theorem lc_eq1 {x y : Int64} : ¬ lg_cmp x y = 0 ↔ ¬ x = y := not_congr (lg_cmp_eq x y)
theorem lc_ne0 {x y : Int64} : ¬ lg_cmp x y = 0 ↔ ¬ x = y := not_congr (lg_cmp_eq x y)
theorem lc_ne1 {x y : Int64} : lg_cmp x y = 0 ↔ x = y := lg_cmp_eq x y
theorem zat0 {Z : va_W} {x : Nat × va_E} : (Z ++ [x])[Z.length]? = some x := by simp
theorem zset0 {Z : va_W} {x y : Nat × va_E} : (Z ++ [x]).set Z.length y = Z ++ [y] := by simp
/-- F below k, G from k on -/
def pre (F G : Nat → Int32) (k : Nat) : Nat → Int32 := fun i => if i < k then F i else G i
theorem pre_0 (F G : Nat → Int32) : G = pre F G 0 := by funext i; simp [pre]
theorem pre_s (F G : Nat → Int32) (k : Nat) : upd (pre F G k) k (F k) = pre F G (k + 1) := by
  funext i
  unfold upd pre
  by_cases h : i = k
  · subst h; simp
  · by_cases h2 : i < k
    · simp [h, h2, show i < k + 1 by omega]
    · simp [h, h2, show ¬ i < k + 1 by omega]
theorem pre_lt {F G : Nat → Int32} {k i : Nat} (h : i < k) : pre F G k i = F i := if_pos h
theorem pre_ge {F G : Nat → Int32} {k i : Nat} (h : ¬ i < k) : pre F G k i = G i := if_neg h
theorem vp_lt {x : Int32} {n : Nat} (h : vp_in x n) : x.toNatClampNeg < n := Nat.not_le.mp fun q => h (Or.inr q)
theorem nI_in1 {x b : Int32} {lo hi : Nat} (h : inB x (nI lo) b = true) (hb : b = nI hi) (h2 : hi < 2 ^ 31) (h3 : lo < 2 ^ 31) : ∃ n : Nat, lo ≤ n ∧ n ≤ hi ∧ x = nI n := by
  rw [inB_iff] at h
  obtain ⟨h4, h5⟩ := h
  rw [Int32.lt_iff_toInt_lt] at h4 h5
  rw [hb, nI_toInt h2] at h5
  rw [nI_toInt h3] at h4
  refine ⟨x.toInt.toNat, by omega, by omega, ?_⟩
  rw [← Int32.toInt_inj, nI_toInt (by omega)]
  omega
theorem in_of {N lo hi : Nat} (h1 : lo ≤ N) (h2 : N ≤ hi) (h3 : hi < 2 ^ 31 := by decide) : inB (nI N) (nI lo) (nI hi) = true := inB_iff.mpr ⟨nI_nlt h1 (by omega), nI_nlt h2 h3⟩
theorem sA_self (σ : hMem) (j k i : Nat) : σ = sA σ j k i (hA σ j k i) := by
  obtain ⟨a, b, c, d⟩ := σ
  unfold sA hA
  congr 1; congr 1; congr 1
  funext x y z
  by_cases h : x = j ∧ y = k ∧ z = i
  · simp [h]
  · simp [h]
theorem sB_self (σ : hMem) (j k i : Nat) : σ = sB σ j k i (hB σ j k i) := by
  obtain ⟨a, b, c, d⟩ := σ
  unfold sB hB
  congr 1; congr 1; congr 1
  funext x y z
  by_cases h : x = j ∧ y = k ∧ z = i
  · simp [h]
  · simp [h]
theorem sI_self (σ : hMem) (j k : Nat) : σ = sI σ j k (hI σ j k) := by
  obtain ⟨a, b, c, d⟩ := σ
  unfold sI hI
  congr 1
  funext x y
  by_cases h : x = j ∧ y = k
  · simp [h]
  · simp [h]
theorem sA_sA (σ : hMem) (j k i : Nat) (f g : Nat → Int32) : sA (sA σ j k i f) j k i g = sA σ j k i g := by
  unfold sA
  congr 1; congr 1; congr 1
  funext x y z
  by_cases h : x = j ∧ y = k ∧ z = i <;> simp [h]
theorem sB_sB (σ : hMem) (j k i : Nat) (f g : Nat → Int64) : sB (sB σ j k i f) j k i g = sB σ j k i g := by
  unfold sB
  congr 1; congr 1; congr 1
  funext x y z
  by_cases h : x = j ∧ y = k ∧ z = i <;> simp [h]
theorem sI_sI (σ : hMem) (j k : Nat) (f g : Int32) : sI (sI σ j k f) j k g = sI σ j k g := by
  unfold sI
  congr 1
  funext x y
  by_cases h : x = j ∧ y = k <;> simp [h]
end
section
set_option maxHeartbeats 4000000 in
set_option maxRecDepth 100000 in
/-- in: low to high -/
theorem m_in (l : Launch) (E : hEnv) (σ : hMem) (Z : va_W) (v low high : Int32) : hMet l yX12_in cX12_in 3 (some .boolean) (0, 0, 0, 0) E σ Z [.int v, .int low, .int high] (hQi E (fun r u => r = bz (inB v low high = true) ∧ u = (σ, Z))) := by
  refine hMet.of (by decide) (Nat.le_of_ble_eq_true rfl) (fun p e s m below meth c A ls C M hr hlk hl => ?_)
  have hl : lv_has ls 3 [(0, .int v), (1, .int low), (2, .int high)] := hl
  refine lv_iload_n C.1 C.2.1 dX12_in_0 rfl (lv_at hl 0 rfl) ?_
  refine lv_iload_n C.1 C.2.1 dX12_in_1 rfl (lv_at hl 1 rfl) ?_
  have J2 : ∀ (v1 : Int32) (ev1 : v1 = bz ((¬ v < low) ∧ (¬ high < v))) (H : Heap) (locs : List Loc) (ls : Array Slot), hM E A s H locs σ Z → lv_has ls 3 [(0, .int v), (1, .int low), (2, .int high)] → W p l e (hRm (0, 0, 0, 0)) s m [.int v, .int low, .int high].toArray below meth c H locs 0 0 (MQ below (hQi E (fun r u => r = bz (inB v low high = true) ∧ u = (σ, Z)) A) [.int v, .int low, .int high].toArray s 0 0 A) (F0 m 15 ls [.int v1]) := by
    intro v1 ev1 H locs ls M hl
    subst ev1
    refine g_zret bz_nar C M hr hlk ?_ (Nat.le_of_ble_eq_true rfl) (Nat.le_of_ble_eq_true rfl) dX12_in_15
    exact ⟨bz_congr inB_iff.symm, rfl⟩
  refine lv_icmp_lt (tgt := 14) C.1 C.2.1 dX12_in_2 (by decide) (fun c_2 => ?_) (fun c_2 => ?_)
  · skip
    refine lv_iconst (v := 0) C.1 C.2.1 dX12_in_14 (by decide) ?_
    exact J2 _ (by simp [bz, c_2]) _ _ _ M (lv_sub hl [0, 1, 2] rfl)
  · skip
    refine lv_iload_n C.1 C.2.1 dX12_in_5 rfl (lv_at hl 0 rfl) ?_
    refine lv_iload_n C.1 C.2.1 dX12_in_6 rfl (lv_at hl 2 rfl) ?_
    refine lv_icmp_gt (tgt := 14) C.1 C.2.1 dX12_in_7 (by decide) (fun c_7 => ?_) (fun c_7 => ?_)
    · skip
      refine lv_iconst (v := 0) C.1 C.2.1 dX12_in_14 (by decide) ?_
      exact J2 _ (by simp [bz, c_2, c_7]) _ _ _ M (lv_sub hl [0, 1, 2] rfl)
    · skip
      refine lv_iconst (v := 1) C.1 C.2.1 dX12_in_10 (by decide) ?_
      refine lv_goto (tgt := 15) C.1 C.2.1 dX12_in_11 (by decide) ?_
      exact J2 _ (by simp [bz, c_2, c_7]) _ _ _ M (lv_sub hl [0, 1, 2] rfl)

set_option maxHeartbeats 4000000 in
set_option maxRecDepth 100000 in
theorem m_clock (l : Launch) (E : hEnv) (σ : hMem) (Z : va_W) (day : Int32) : hMet l yX12_clock cX12_clock 2 (some .boolean) (1, 0, 0, 22) E σ Z [.ref (hO E 43), .int day] (hQi E (fun r u => r = bz (inB day (hI σ 43 1) 5000 = true) ∧ u = (if inB day (hI σ 43 1) 5000 = true then sI σ 43 1 day else σ, Z))) := by
  refine hMet.of (by decide) (Nat.le_of_ble_eq_true rfl) (fun p e s m below meth c A ls C M hr hlk hl => ?_)
  have hl : lv_has ls 2 [(0, .ref (hO E 43)), (1, .int day)] := hl
  refine lv_iload_n C.1 C.2.1 dX12_clock_0 rfl (lv_at hl 1 rfl) ?_
  refine lv_aload_n C.1 C.2.1 dX12_clock_1 rfl (lv_at hl 0 rfl) ?_
  refine g_getI C M 43 1 (by decide) rfl rfl (by decide) fl12_128 (v := hI σ 43 1) rfl dX12_clock_2 ?_
  refine lv_sipush (v := 5000) C.1 C.2.1 dX12_clock_5 (by decide) ?_
  refine g_calli M (g_runS (As := [.int day, .int (hI σ 43 1), .int 5000]) (rest := []) C M (m_in l E σ Z day (hI σ 43 1) 5000) clX12_in stX12_in lk12_131 rfl ⟨Nat.le_of_ble_eq_true rfl, Nat.le_of_ble_eq_true rfl⟩ hl.1 rfl (Nat.le_of_ble_eq_true rfl) dX12_clock_8 ⟨Nat.le_of_ble_eq_true rfl, Nat.le_of_ble_eq_true rfl⟩) (fun r1 u H locs hR M => ?_)
  refine W.widen (k := 0) (n := 0) (Nat.le_of_ble_eq_true rfl) (Nat.le_of_ble_eq_true rfl) ?_
  obtain ⟨rfl, rfl⟩ := hR
  have M : hM E A s H locs σ Z := M
  refine lv_if_ne (tgt := 16) C.1 C.2.1 dX12_clock_11 (by decide) (fun c_11 => ?_) (fun c_11 => ?_)
  · skip
    have c_11 : inB day (hI σ 43 1) 5000 = true := bz_ne0.mp c_11
    refine lv_aload_n C.1 C.2.1 dX12_clock_16 rfl (lv_at hl 0 rfl) ?_
    refine lv_iload_n C.1 C.2.1 dX12_clock_17 rfl (lv_at hl 1 rfl) ?_
    refine g_putI C M 43 1 (by decide) rfl rfl (by decide) fl12_128 rfl rfl dX12_clock_18 (fun H locs M => ?_)
    refine lv_iconst (v := 1) C.1 C.2.1 dX12_clock_21 (by decide) ?_
    refine g_zret rfl C M hr hlk ?_ (Nat.le_of_ble_eq_true rfl) (Nat.le_of_ble_eq_true rfl) dX12_clock_22
    simp only [bz, c_11, not_false_eq_true, not_true_eq_false, and_self, and_true, true_and, and_false, false_and, or_true, true_or, or_false, false_or, Bool.false_eq_true, if_true, if_false, ↓reduceIte]
  · skip
    have c_11 : ¬ inB day (hI σ 43 1) 5000 = true := bz_0.mp c_11
    refine lv_iconst (v := 0) C.1 C.2.1 dX12_clock_14 (by decide) ?_
    refine g_zret rfl C M hr hlk ?_ (Nat.le_of_ble_eq_true rfl) (Nat.le_of_ble_eq_true rfl) dX12_clock_15
    simp only [bz, c_11, not_false_eq_true, not_true_eq_false, and_self, and_true, true_and, and_false, false_and, or_true, true_or, or_false, false_or, Bool.false_eq_true, if_true, if_false, ↓reduceIte]

set_option maxHeartbeats 4000000 in
set_option maxRecDepth 100000 in
theorem m_trust (l : Launch) (E : hEnv) (σ : hMem) (Z : va_W) (k v : Int32) : hMet l yX12_trust cX12_trust 4 (some .int) (1, 0, 0, 22) E σ Z [.ref (hO E 43), .int k, .int v] (hQi E (fun r u => r = (if inB k 0 5 = true ∧ inB v 0 9 = true then hA σ 43 2 0 k.toNatClampNeg else -1) ∧ u = (if inB k 0 5 = true ∧ inB v 0 9 = true then sA σ 43 2 0 (upd (hA σ 43 2 0) k.toNatClampNeg v) else σ, Z))) := by
  refine hMet.of (by decide) (Nat.le_of_ble_eq_true rfl) (fun p e s m below meth c A ls C M hr hlk hl => ?_)
  have hl : lv_has ls 4 [(0, .ref (hO E 43)), (1, .int k), (2, .int v)] := hl
  refine lv_iload_n C.1 C.2.1 dX12_trust_0 rfl (lv_at hl 1 rfl) ?_
  refine lv_iconst (v := 0) C.1 C.2.1 dX12_trust_1 (by decide) ?_
  refine lv_iconst (v := 5) C.1 C.2.1 dX12_trust_2 (by decide) ?_
  refine g_calli M (g_runS (As := [.int k, .int 0, .int 5]) (rest := []) C M (m_in l E σ Z k 0 5) clX12_in stX12_in lk12_131 rfl ⟨Nat.le_of_ble_eq_true rfl, Nat.le_of_ble_eq_true rfl⟩ hl.1 rfl (Nat.le_of_ble_eq_true rfl) dX12_trust_3 ⟨Nat.le_of_ble_eq_true rfl, Nat.le_of_ble_eq_true rfl⟩) (fun r1 u H locs hR M => ?_)
  refine W.widen (k := 0) (n := 0) (Nat.le_of_ble_eq_true rfl) (Nat.le_of_ble_eq_true rfl) ?_
  obtain ⟨rfl, rfl⟩ := hR
  have M : hM E A s H locs σ Z := M
  refine lv_if_eq (tgt := 19) C.1 C.2.1 dX12_trust_6 (by decide) (fun c_6 => ?_) (fun c_6 => ?_)
  · skip
    have c_6 : ¬ inB k 0 5 = true := bz_0.mp c_6
    refine lv_iconst (v := (-1)) C.1 C.2.1 dX12_trust_19 (by decide) ?_
    refine g_iret C M hr hlk ?_ (Nat.le_of_ble_eq_true rfl) (Nat.le_of_ble_eq_true rfl) dX12_trust_20
    simp only [bz, c_6, not_false_eq_true, not_true_eq_false, and_self, and_true, true_and, and_false, false_and, or_true, true_or, or_false, false_or, Bool.false_eq_true, if_true, if_false, ↓reduceIte]
  · skip
    have c_6 : inB k 0 5 = true := bz_ne0.mp c_6
    refine lv_iload_n C.1 C.2.1 dX12_trust_9 rfl (lv_at hl 2 rfl) ?_
    refine lv_iconst (v := 0) C.1 C.2.1 dX12_trust_10 (by decide) ?_
    refine lv_bipush (v := 9) C.1 C.2.1 dX12_trust_11 (by decide) ?_
    refine g_calli M (g_runS (As := [.int v, .int 0, .int 9]) (rest := []) C M (m_in l E σ Z v 0 9) clX12_in stX12_in lk12_131 rfl ⟨Nat.le_of_ble_eq_true rfl, Nat.le_of_ble_eq_true rfl⟩ hl.1 rfl (Nat.le_of_ble_eq_true rfl) dX12_trust_13 ⟨Nat.le_of_ble_eq_true rfl, Nat.le_of_ble_eq_true rfl⟩) (fun r2 u H locs hR M => ?_)
    refine W.widen (k := 0) (n := 0) (Nat.le_of_ble_eq_true rfl) (Nat.le_of_ble_eq_true rfl) ?_
    obtain ⟨rfl, rfl⟩ := hR
    have M : hM E A s H locs σ Z := M
    refine lv_if_ne (tgt := 21) C.1 C.2.1 dX12_trust_16 (by decide) (fun c_16 => ?_) (fun c_16 => ?_)
    · skip
      have c_16 : inB v 0 9 = true := bz_ne0.mp c_16
      refine lv_aload_n C.1 C.2.1 dX12_trust_21 rfl (lv_at hl 0 rfl) ?_
      refine g_getA C M 43 2 (by decide) rfl rfl (by decide) fl12_7 dX12_trust_22 ?_
      refine lv_iload_n C.1 C.2.1 dX12_trust_25 rfl (lv_at hl 1 rfl) ?_
      refine g_iald C M 43 2 (by decide) rfl k.toNatClampNeg rfl (by exact vp_in_B c_6 (by decide)) (v := hA σ 43 2 0 k.toNatClampNeg) rfl dX12_trust_26 ?_
      refine lv_istore_n (lv' := [(3, .int (hA σ 43 2 0 k.toNatClampNeg)), (0, .ref (hO E 43)), (1, .int k), (2, .int v)]) C.1 C.2.1 dX12_trust_27 rfl hl (by decide) rfl (fun ls hl => ?_)
      refine lv_aload_n C.1 C.2.1 dX12_trust_28 rfl (lv_at hl 1 rfl) ?_
      refine g_getA C M 43 2 (by decide) rfl rfl (by decide) fl12_7 dX12_trust_29 ?_
      refine lv_iload_n C.1 C.2.1 dX12_trust_32 rfl (lv_at hl 2 rfl) ?_
      refine lv_iload_n C.1 C.2.1 dX12_trust_33 rfl (lv_at hl 3 rfl) ?_
      refine g_iast C M 43 2 (by decide) rfl k.toNatClampNeg rfl (by exact vp_in_B c_6 (by decide)) dX12_trust_34 (fun H locs M => ?_)
      have M : hM E A s H locs (sA σ 43 2 0 (upd (hA σ 43 2 0) k.toNatClampNeg v)) Z := M
      refine lv_iload_n C.1 C.2.1 dX12_trust_35 rfl (lv_at hl 0 rfl) ?_
      refine g_iret C M hr hlk ?_ (Nat.le_of_ble_eq_true rfl) (Nat.le_of_ble_eq_true rfl) dX12_trust_36
      simp only [bz, c_6, c_16, not_false_eq_true, not_true_eq_false, and_self, and_true, true_and, and_false, false_and, or_true, true_or, or_false, false_or, Bool.false_eq_true, if_true, if_false, ↓reduceIte]
    · skip
      have c_16 : ¬ inB v 0 9 = true := bz_0.mp c_16
      refine lv_iconst (v := (-1)) C.1 C.2.1 dX12_trust_19 (by decide) ?_
      refine g_iret C M hr hlk ?_ (Nat.le_of_ble_eq_true rfl) (Nat.le_of_ble_eq_true rfl) dX12_trust_20
      simp only [bz, c_6, c_16, not_false_eq_true, not_true_eq_false, and_self, and_true, true_and, and_false, false_and, or_true, true_or, or_false, false_or, Bool.false_eq_true, if_true, if_false, ↓reduceIte]

def sayOk (n : Nat) (l a b low high : Int32) : Prop := ¬ nI n = 40 ∧ inB l 0 5 = true ∧ inB a 0 15 = true ∧ inB b 0 15 = true ∧ ¬ a = b ∧ inB low (-10000) 10000 = true ∧ inB high low 10000 = true
def mSay (σ : hMem) (n : Nat) (l a b low high : Int32) : hMem := sI (sA (sA (sA (sA (sA σ 43 4 0 (upd (hA σ 43 4 0) n l)) 43 5 0 (upd (hA σ 43 5 0) n a)) 43 6 0 (upd (hA σ 43 6 0) n b)) 43 7 0 (upd (hA σ 43 7 0) n low)) 43 8 0 (upd (hA σ 43 8 0) n high)) 43 3 (nI (n + 1))

set_option maxHeartbeats 4000000 in
set_option maxRecDepth 100000 in
theorem m_says (l : Launch) (E : hEnv) (σ : hMem) (Z : va_W) (n : Nat) (hn : hI σ 43 3 = nI n) (hn40 : n ≤ 40) (l9 a b low high : Int32) : hMet l yX12_says cX12_says 6 (some .int) (1, 0, 0, 22) E σ Z [.ref (hO E 43), .int l9, .int a, .int b, .int low, .int high] (hQi E (fun r u => (sayOk n l9 a b low high → r = nI n ∧ u = (mSay σ n l9 a b low high, Z)) ∧ (¬ (sayOk n l9 a b low high) → r = -1 ∧ u = (σ, Z)))) := by
  refine hMet.of (by decide) (Nat.le_of_ble_eq_true rfl) (fun p e s m below meth c A ls C M hr hlk hl => ?_)
  have hl : lv_has ls 6 [(0, .ref (hO E 43)), (1, .int l9), (2, .int a), (3, .int b), (4, .int low), (5, .int high)] := hl
  refine lv_aload_n C.1 C.2.1 dX12_says_0 rfl (lv_at hl 0 rfl) ?_
  refine g_getI C M 43 3 (by decide) rfl rfl (by decide) fl12_135 (v := nI n) hn dX12_says_1 ?_
  refine lv_bipush (v := 40) C.1 C.2.1 dX12_says_4 (by decide) ?_
  refine lv_icmp_eq (tgt := 70) C.1 C.2.1 dX12_says_6 (by decide) (fun c_6 => ?_) (fun c_6 => ?_)
  · skip
    refine lv_iconst (v := (-1)) C.1 C.2.1 dX12_says_70 (by decide) ?_
    refine g_iret C M hr hlk ?_ (Nat.le_of_ble_eq_true rfl) (Nat.le_of_ble_eq_true rfl) dX12_says_71
    refine ⟨fun h => absurd h (by simp only [sayOk, c_6, Bool.false_eq_true, not_true_eq_false, not_false_eq_true, and_true, true_and, false_and, and_false]), fun _ => ⟨rfl, rfl⟩⟩
  · skip
    have hlt : n < 40 := by have := ct_ne 40 c_6; omega
    refine lv_iload_n C.1 C.2.1 dX12_says_9 rfl (lv_at hl 1 rfl) ?_
    refine lv_iconst (v := 0) C.1 C.2.1 dX12_says_10 (by decide) ?_
    refine lv_iconst (v := 5) C.1 C.2.1 dX12_says_11 (by decide) ?_
    refine g_calli M (g_runS (As := [.int l9, .int 0, .int 5]) (rest := []) C M (m_in l E σ Z l9 0 5) clX12_in stX12_in lk12_131 rfl ⟨Nat.le_of_ble_eq_true rfl, Nat.le_of_ble_eq_true rfl⟩ hl.1 rfl (Nat.le_of_ble_eq_true rfl) dX12_says_12 ⟨Nat.le_of_ble_eq_true rfl, Nat.le_of_ble_eq_true rfl⟩) (fun r1 u H locs hR M => ?_)
    refine W.widen (k := 0) (n := 0) (Nat.le_of_ble_eq_true rfl) (Nat.le_of_ble_eq_true rfl) ?_
    obtain ⟨rfl, rfl⟩ := hR
    have M : hM E A s H locs σ Z := M
    refine lv_if_eq (tgt := 70) C.1 C.2.1 dX12_says_15 (by decide) (fun c_15 => ?_) (fun c_15 => ?_)
    · skip
      have c_15 : ¬ inB l9 0 5 = true := bz_0.mp c_15
      refine lv_iconst (v := (-1)) C.1 C.2.1 dX12_says_70 (by decide) ?_
      refine g_iret C M hr hlk ?_ (Nat.le_of_ble_eq_true rfl) (Nat.le_of_ble_eq_true rfl) dX12_says_71
      refine ⟨fun h => absurd h (by simp only [sayOk, c_6, c_15, Bool.false_eq_true, not_true_eq_false, not_false_eq_true, and_true, true_and, false_and, and_false]), fun _ => ⟨rfl, rfl⟩⟩
    · skip
      have c_15 : inB l9 0 5 = true := bz_ne0.mp c_15
      refine lv_iload_n C.1 C.2.1 dX12_says_18 rfl (lv_at hl 2 rfl) ?_
      refine lv_iconst (v := 0) C.1 C.2.1 dX12_says_19 (by decide) ?_
      refine lv_bipush (v := 15) C.1 C.2.1 dX12_says_20 (by decide) ?_
      refine g_calli M (g_runS (As := [.int a, .int 0, .int 15]) (rest := []) C M (m_in l E σ Z a 0 15) clX12_in stX12_in lk12_131 rfl ⟨Nat.le_of_ble_eq_true rfl, Nat.le_of_ble_eq_true rfl⟩ hl.1 rfl (Nat.le_of_ble_eq_true rfl) dX12_says_22 ⟨Nat.le_of_ble_eq_true rfl, Nat.le_of_ble_eq_true rfl⟩) (fun r2 u H locs hR M => ?_)
      refine W.widen (k := 0) (n := 0) (Nat.le_of_ble_eq_true rfl) (Nat.le_of_ble_eq_true rfl) ?_
      obtain ⟨rfl, rfl⟩ := hR
      have M : hM E A s H locs σ Z := M
      refine lv_if_eq (tgt := 70) C.1 C.2.1 dX12_says_25 (by decide) (fun c_25 => ?_) (fun c_25 => ?_)
      · skip
        have c_25 : ¬ inB a 0 15 = true := bz_0.mp c_25
        refine lv_iconst (v := (-1)) C.1 C.2.1 dX12_says_70 (by decide) ?_
        refine g_iret C M hr hlk ?_ (Nat.le_of_ble_eq_true rfl) (Nat.le_of_ble_eq_true rfl) dX12_says_71
        refine ⟨fun h => absurd h (by simp only [sayOk, c_6, c_15, c_25, Bool.false_eq_true, not_true_eq_false, not_false_eq_true, and_true, true_and, false_and, and_false]), fun _ => ⟨rfl, rfl⟩⟩
      · skip
        have c_25 : inB a 0 15 = true := bz_ne0.mp c_25
        refine lv_iload_n C.1 C.2.1 dX12_says_28 rfl (lv_at hl 3 rfl) ?_
        refine lv_iconst (v := 0) C.1 C.2.1 dX12_says_29 (by decide) ?_
        refine lv_bipush (v := 15) C.1 C.2.1 dX12_says_30 (by decide) ?_
        refine g_calli M (g_runS (As := [.int b, .int 0, .int 15]) (rest := []) C M (m_in l E σ Z b 0 15) clX12_in stX12_in lk12_131 rfl ⟨Nat.le_of_ble_eq_true rfl, Nat.le_of_ble_eq_true rfl⟩ hl.1 rfl (Nat.le_of_ble_eq_true rfl) dX12_says_32 ⟨Nat.le_of_ble_eq_true rfl, Nat.le_of_ble_eq_true rfl⟩) (fun r3 u H locs hR M => ?_)
        refine W.widen (k := 0) (n := 0) (Nat.le_of_ble_eq_true rfl) (Nat.le_of_ble_eq_true rfl) ?_
        obtain ⟨rfl, rfl⟩ := hR
        have M : hM E A s H locs σ Z := M
        refine lv_if_eq (tgt := 70) C.1 C.2.1 dX12_says_35 (by decide) (fun c_35 => ?_) (fun c_35 => ?_)
        · skip
          have c_35 : ¬ inB b 0 15 = true := bz_0.mp c_35
          refine lv_iconst (v := (-1)) C.1 C.2.1 dX12_says_70 (by decide) ?_
          refine g_iret C M hr hlk ?_ (Nat.le_of_ble_eq_true rfl) (Nat.le_of_ble_eq_true rfl) dX12_says_71
          refine ⟨fun h => absurd h (by simp only [sayOk, c_6, c_15, c_25, c_35, Bool.false_eq_true, not_true_eq_false, not_false_eq_true, and_true, true_and, false_and, and_false]), fun _ => ⟨rfl, rfl⟩⟩
        · skip
          have c_35 : inB b 0 15 = true := bz_ne0.mp c_35
          refine lv_iload_n C.1 C.2.1 dX12_says_38 rfl (lv_at hl 2 rfl) ?_
          refine lv_iload_n C.1 C.2.1 dX12_says_39 rfl (lv_at hl 3 rfl) ?_
          refine lv_icmp_eq (tgt := 70) C.1 C.2.1 dX12_says_40 (by decide) (fun c_40 => ?_) (fun c_40 => ?_)
          · skip
            refine lv_iconst (v := (-1)) C.1 C.2.1 dX12_says_70 (by decide) ?_
            refine g_iret C M hr hlk ?_ (Nat.le_of_ble_eq_true rfl) (Nat.le_of_ble_eq_true rfl) dX12_says_71
            refine ⟨fun h => absurd h (by simp only [sayOk, c_6, c_15, c_25, c_35, c_40, Bool.false_eq_true, not_true_eq_false, not_false_eq_true, and_true, true_and, false_and, and_false]), fun _ => ⟨rfl, rfl⟩⟩
          · skip
            refine lv_iload C.1 C.2.1 dX12_says_43 (lv_at hl 4 rfl) ?_
            refine lv_sipush (v := (-10000)) C.1 C.2.1 dX12_says_45 (by decide) ?_
            refine lv_sipush (v := 10000) C.1 C.2.1 dX12_says_48 (by decide) ?_
            refine g_calli M (g_runS (As := [.int low, .int (-10000), .int 10000]) (rest := []) C M (m_in l E σ Z low (-10000) 10000) clX12_in stX12_in lk12_131 rfl ⟨Nat.le_of_ble_eq_true rfl, Nat.le_of_ble_eq_true rfl⟩ hl.1 rfl (Nat.le_of_ble_eq_true rfl) dX12_says_51 ⟨Nat.le_of_ble_eq_true rfl, Nat.le_of_ble_eq_true rfl⟩) (fun r4 u H locs hR M => ?_)
            refine W.widen (k := 0) (n := 0) (Nat.le_of_ble_eq_true rfl) (Nat.le_of_ble_eq_true rfl) ?_
            obtain ⟨rfl, rfl⟩ := hR
            have M : hM E A s H locs σ Z := M
            refine lv_if_eq (tgt := 70) C.1 C.2.1 dX12_says_54 (by decide) (fun c_54 => ?_) (fun c_54 => ?_)
            · skip
              have c_54 : ¬ inB low (-10000) 10000 = true := bz_0.mp c_54
              refine lv_iconst (v := (-1)) C.1 C.2.1 dX12_says_70 (by decide) ?_
              refine g_iret C M hr hlk ?_ (Nat.le_of_ble_eq_true rfl) (Nat.le_of_ble_eq_true rfl) dX12_says_71
              refine ⟨fun h => absurd h (by simp only [sayOk, c_6, c_15, c_25, c_35, c_40, c_54, Bool.false_eq_true, not_true_eq_false, not_false_eq_true, and_true, true_and, false_and, and_false]), fun _ => ⟨rfl, rfl⟩⟩
            · skip
              have c_54 : inB low (-10000) 10000 = true := bz_ne0.mp c_54
              refine lv_iload C.1 C.2.1 dX12_says_57 (lv_at hl 5 rfl) ?_
              refine lv_iload C.1 C.2.1 dX12_says_59 (lv_at hl 4 rfl) ?_
              refine lv_sipush (v := 10000) C.1 C.2.1 dX12_says_61 (by decide) ?_
              refine g_calli M (g_runS (As := [.int high, .int low, .int 10000]) (rest := []) C M (m_in l E σ Z high low 10000) clX12_in stX12_in lk12_131 rfl ⟨Nat.le_of_ble_eq_true rfl, Nat.le_of_ble_eq_true rfl⟩ hl.1 rfl (Nat.le_of_ble_eq_true rfl) dX12_says_64 ⟨Nat.le_of_ble_eq_true rfl, Nat.le_of_ble_eq_true rfl⟩) (fun r5 u H locs hR M => ?_)
              refine W.widen (k := 0) (n := 0) (Nat.le_of_ble_eq_true rfl) (Nat.le_of_ble_eq_true rfl) ?_
              obtain ⟨rfl, rfl⟩ := hR
              have M : hM E A s H locs σ Z := M
              refine lv_if_ne (tgt := 72) C.1 C.2.1 dX12_says_67 (by decide) (fun c_67 => ?_) (fun c_67 => ?_)
              · skip
                have c_67 : inB high low 10000 = true := bz_ne0.mp c_67
                refine lv_aload_n C.1 C.2.1 dX12_says_72 rfl (lv_at hl 0 rfl) ?_
                refine g_getA C M 43 4 (by decide) rfl rfl (by decide) fl12_13 dX12_says_73 ?_
                refine lv_aload_n C.1 C.2.1 dX12_says_76 rfl (lv_at hl 0 rfl) ?_
                refine g_getI C M 43 3 (by decide) rfl rfl (by decide) fl12_135 (v := nI n) hn dX12_says_77 ?_
                refine lv_iload_n C.1 C.2.1 dX12_says_80 rfl (lv_at hl 1 rfl) ?_
                refine g_iast C M 43 4 (by decide) rfl n (nI_clamp (by omega)) (vp_in_nI (by omega) (by decide)) dX12_says_81 (fun H locs M => ?_)
                have M : hM E A s H locs (sA σ 43 4 0 (upd (hA σ 43 4 0) n l9)) Z := M
                refine lv_aload_n C.1 C.2.1 dX12_says_82 rfl (lv_at hl 0 rfl) ?_
                refine g_getA C M 43 5 (by decide) rfl rfl (by decide) fl12_16 dX12_says_83 ?_
                refine lv_aload_n C.1 C.2.1 dX12_says_86 rfl (lv_at hl 0 rfl) ?_
                refine g_getI C M 43 3 (by decide) rfl rfl (by decide) fl12_135 (v := nI n) hn dX12_says_87 ?_
                refine lv_iload_n C.1 C.2.1 dX12_says_90 rfl (lv_at hl 2 rfl) ?_
                refine g_iast C M 43 5 (by decide) rfl n (nI_clamp (by omega)) (vp_in_nI (by omega) (by decide)) dX12_says_91 (fun H locs M => ?_)
                have M : hM E A s H locs (sA (sA σ 43 4 0 (upd (hA σ 43 4 0) n l9)) 43 5 0 (upd (hA σ 43 5 0) n a)) Z := M
                refine lv_aload_n C.1 C.2.1 dX12_says_92 rfl (lv_at hl 0 rfl) ?_
                refine g_getA C M 43 6 (by decide) rfl rfl (by decide) fl12_19 dX12_says_93 ?_
                refine lv_aload_n C.1 C.2.1 dX12_says_96 rfl (lv_at hl 0 rfl) ?_
                refine g_getI C M 43 3 (by decide) rfl rfl (by decide) fl12_135 (v := nI n) hn dX12_says_97 ?_
                refine lv_iload_n C.1 C.2.1 dX12_says_100 rfl (lv_at hl 3 rfl) ?_
                refine g_iast C M 43 6 (by decide) rfl n (nI_clamp (by omega)) (vp_in_nI (by omega) (by decide)) dX12_says_101 (fun H locs M => ?_)
                have M : hM E A s H locs (sA (sA (sA σ 43 4 0 (upd (hA σ 43 4 0) n l9)) 43 5 0 (upd (hA σ 43 5 0) n a)) 43 6 0 (upd (hA σ 43 6 0) n b)) Z := M
                refine lv_aload_n C.1 C.2.1 dX12_says_102 rfl (lv_at hl 0 rfl) ?_
                refine g_getA C M 43 7 (by decide) rfl rfl (by decide) fl12_22 dX12_says_103 ?_
                refine lv_aload_n C.1 C.2.1 dX12_says_106 rfl (lv_at hl 0 rfl) ?_
                refine g_getI C M 43 3 (by decide) rfl rfl (by decide) fl12_135 (v := nI n) hn dX12_says_107 ?_
                refine lv_iload C.1 C.2.1 dX12_says_110 (lv_at hl 4 rfl) ?_
                refine g_iast C M 43 7 (by decide) rfl n (nI_clamp (by omega)) (vp_in_nI (by omega) (by decide)) dX12_says_112 (fun H locs M => ?_)
                have M : hM E A s H locs (sA (sA (sA (sA σ 43 4 0 (upd (hA σ 43 4 0) n l9)) 43 5 0 (upd (hA σ 43 5 0) n a)) 43 6 0 (upd (hA σ 43 6 0) n b)) 43 7 0 (upd (hA σ 43 7 0) n low)) Z := M
                refine lv_aload_n C.1 C.2.1 dX12_says_113 rfl (lv_at hl 0 rfl) ?_
                refine g_getA C M 43 8 (by decide) rfl rfl (by decide) fl12_25 dX12_says_114 ?_
                refine lv_aload_n C.1 C.2.1 dX12_says_117 rfl (lv_at hl 0 rfl) ?_
                refine g_getI C M 43 3 (by decide) rfl rfl (by decide) fl12_135 (v := nI n) hn dX12_says_118 ?_
                refine lv_iload C.1 C.2.1 dX12_says_121 (lv_at hl 5 rfl) ?_
                refine g_iast C M 43 8 (by decide) rfl n (nI_clamp (by omega)) (vp_in_nI (by omega) (by decide)) dX12_says_123 (fun H locs M => ?_)
                have M : hM E A s H locs (sA (sA (sA (sA (sA σ 43 4 0 (upd (hA σ 43 4 0) n l9)) 43 5 0 (upd (hA σ 43 5 0) n a)) 43 6 0 (upd (hA σ 43 6 0) n b)) 43 7 0 (upd (hA σ 43 7 0) n low)) 43 8 0 (upd (hA σ 43 8 0) n high)) Z := M
                refine lv_aload_n C.1 C.2.1 dX12_says_124 rfl (lv_at hl 0 rfl) ?_
                refine lv_dup C.1 C.2.1 dX12_says_125 rfl ?_
                refine g_getI C M 43 3 (by decide) rfl rfl (by decide) fl12_135 (v := nI n) hn dX12_says_126 ?_
                refine lv_iconst (v := 1) C.1 C.2.1 dX12_says_129 (by decide) ?_
                refine lv_iadd C.1 C.2.1 dX12_says_130 ?_
                refine g_rei (v := nI (n + 1)) (nI_1 _) ?_
                refine g_putI C M 43 3 (by decide) rfl rfl (by decide) fl12_135 rfl rfl dX12_says_131 (fun H locs M => ?_)
                refine lv_aload_n C.1 C.2.1 dX12_says_134 rfl (lv_at hl 0 rfl) ?_
                refine g_getI C M 43 3 (by decide) rfl rfl (by decide) fl12_135 (v := nI (n + 1)) rfl dX12_says_135 ?_
                refine lv_iconst (v := 1) C.1 C.2.1 dX12_says_138 (by decide) ?_
                refine lv_isub C.1 C.2.1 dX12_says_139 ?_
                refine g_rei (v := nI n) (nI_pred _) ?_
                refine g_iret C M hr hlk ?_ (Nat.le_of_ble_eq_true rfl) (Nat.le_of_ble_eq_true rfl) dX12_says_140
                refine ⟨fun _ => ⟨rfl, rfl⟩, fun h => absurd (by simp only [sayOk, c_6, c_15, c_25, c_35, c_40, c_54, c_67, not_true_eq_false, not_false_eq_true, and_self]) h⟩
              · skip
                have c_67 : ¬ inB high low 10000 = true := bz_0.mp c_67
                refine lv_iconst (v := (-1)) C.1 C.2.1 dX12_says_70 (by decide) ?_
                refine g_iret C M hr hlk ?_ (Nat.le_of_ble_eq_true rfl) (Nat.le_of_ble_eq_true rfl) dX12_says_71
                refine ⟨fun h => absurd h (by simp only [sayOk, c_6, c_15, c_25, c_35, c_40, c_54, c_67, Bool.false_eq_true, not_true_eq_false, not_false_eq_true, and_true, true_and, false_and, and_false]), fun _ => ⟨rfl, rfl⟩⟩

def valOk (n : Nat) (g c r day : Int32) : Prop := ¬ nI n = 60 ∧ inB g 0 9 = true ∧ inB c 0 1000000 = true ∧ inB r 0 1000000 = true ∧ inB day 0 5000 = true
def mVal (σ : hMem) (n : Nat) (g c r day : Int32) : hMem := sI (sA (sA (sA (sA (sA σ 43 12 0 (upd (hA σ 43 12 0) n g)) 43 13 0 (upd (hA σ 43 13 0) n c)) 43 14 0 (upd (hA σ 43 14 0) n r)) 43 15 0 (upd (hA σ 43 15 0) n day)) 43 16 0 (upd (hA σ 43 16 0) n (hI σ 43 1))) 43 11 (nI (n + 1))
def casOk (n : Nat) (m a day : Int32) : Prop := ¬ nI n = 40 ∧ inB m 0 99999 = true ∧ inB a 0 1000 = true ∧ inB day 0 5000 = true
def mCas (σ : hMem) (n : Nat) (m a day : Int32) : hMem := sI (sA (sA (sA (sA (sA σ 43 18 0 (upd (hA σ 43 18 0) n m)) 43 19 0 (upd (hA σ 43 19 0) n a)) 43 20 0 (upd (hA σ 43 20 0) n day)) 43 21 0 (upd (hA σ 43 21 0) n (hI σ 43 1))) 43 22 0 (upd (hA σ 43 22 0) n (-1))) 43 17 (nI (n + 1))

set_option maxHeartbeats 4000000 in
set_option maxRecDepth 100000 in
theorem m_value (l : Launch) (E : hEnv) (σ : hMem) (Z : va_W) (n : Nat) (hn : hI σ 43 11 = nI n) (hn60 : n ≤ 60) (g c9 r9 day : Int32) : hMet l yX12_value cX12_value 5 (some .int) (1, 0, 0, 22) E σ Z [.ref (hO E 43), .int g, .int c9, .int r9, .int day] (hQi E (fun r u => (valOk n g c9 r9 day → r = nI (n + 1) ∧ u = (mVal σ n g c9 r9 day, Z)) ∧ (¬ (valOk n g c9 r9 day) → r = -1 ∧ u = (σ, Z)))) := by
  refine hMet.of (by decide) (Nat.le_of_ble_eq_true rfl) (fun p e s m below meth c A ls C M hr hlk hl => ?_)
  have hl : lv_has ls 5 [(0, .ref (hO E 43)), (1, .int g), (2, .int c9), (3, .int r9), (4, .int day)] := hl
  refine lv_aload_n C.1 C.2.1 dX12_value_0 rfl (lv_at hl 0 rfl) ?_
  refine g_getI C M 43 11 (by decide) rfl rfl (by decide) fl12_152 (v := nI n) hn dX12_value_1 ?_
  refine lv_bipush (v := 60) C.1 C.2.1 dX12_value_4 (by decide) ?_
  refine lv_icmp_eq (tgt := 51) C.1 C.2.1 dX12_value_6 (by decide) (fun c_6 => ?_) (fun c_6 => ?_)
  · skip
    refine lv_iconst (v := (-1)) C.1 C.2.1 dX12_value_51 (by decide) ?_
    refine g_iret C M hr hlk ?_ (Nat.le_of_ble_eq_true rfl) (Nat.le_of_ble_eq_true rfl) dX12_value_52
    refine ⟨fun h => absurd h (by simp only [valOk, c_6, Bool.false_eq_true, not_true_eq_false, not_false_eq_true, and_true, true_and, false_and, and_false]), fun _ => ⟨rfl, rfl⟩⟩
  · skip
    have hlt : n < 60 := by have := ct_ne 60 c_6; omega
    refine lv_iload_n C.1 C.2.1 dX12_value_9 rfl (lv_at hl 1 rfl) ?_
    refine lv_iconst (v := 0) C.1 C.2.1 dX12_value_10 (by decide) ?_
    refine lv_bipush (v := 9) C.1 C.2.1 dX12_value_11 (by decide) ?_
    refine g_calli M (g_runS (As := [.int g, .int 0, .int 9]) (rest := []) C M (m_in l E σ Z g 0 9) clX12_in stX12_in lk12_131 rfl ⟨Nat.le_of_ble_eq_true rfl, Nat.le_of_ble_eq_true rfl⟩ hl.1 rfl (Nat.le_of_ble_eq_true rfl) dX12_value_13 ⟨Nat.le_of_ble_eq_true rfl, Nat.le_of_ble_eq_true rfl⟩) (fun r1 u H locs hR M => ?_)
    refine W.widen (k := 0) (n := 0) (Nat.le_of_ble_eq_true rfl) (Nat.le_of_ble_eq_true rfl) ?_
    obtain ⟨rfl, rfl⟩ := hR
    have M : hM E A s H locs σ Z := M
    refine lv_if_eq (tgt := 51) C.1 C.2.1 dX12_value_16 (by decide) (fun c_16 => ?_) (fun c_16 => ?_)
    · skip
      have c_16 : ¬ inB g 0 9 = true := bz_0.mp c_16
      refine lv_iconst (v := (-1)) C.1 C.2.1 dX12_value_51 (by decide) ?_
      refine g_iret C M hr hlk ?_ (Nat.le_of_ble_eq_true rfl) (Nat.le_of_ble_eq_true rfl) dX12_value_52
      refine ⟨fun h => absurd h (by simp only [valOk, c_6, c_16, Bool.false_eq_true, not_true_eq_false, not_false_eq_true, and_true, true_and, false_and, and_false]), fun _ => ⟨rfl, rfl⟩⟩
    · skip
      have c_16 : inB g 0 9 = true := bz_ne0.mp c_16
      refine lv_iload_n C.1 C.2.1 dX12_value_19 rfl (lv_at hl 2 rfl) ?_
      refine lv_iconst (v := 0) C.1 C.2.1 dX12_value_20 (by decide) ?_
      refine lv_ldc (v := 1000000) C.1 C.2.1 C.2.2.2.1 (C.2.2.2.2.1.1.use kc12_155 rfl) dX12_value_21 ?_
      refine g_calli M (g_runS (As := [.int c9, .int 0, .int 1000000]) (rest := []) C M (m_in l E σ Z c9 0 1000000) clX12_in stX12_in lk12_131 rfl ⟨Nat.le_of_ble_eq_true rfl, Nat.le_of_ble_eq_true rfl⟩ hl.1 rfl (Nat.le_of_ble_eq_true rfl) dX12_value_23 ⟨Nat.le_of_ble_eq_true rfl, Nat.le_of_ble_eq_true rfl⟩) (fun r2 u H locs hR M => ?_)
      refine W.widen (k := 0) (n := 0) (Nat.le_of_ble_eq_true rfl) (Nat.le_of_ble_eq_true rfl) ?_
      obtain ⟨rfl, rfl⟩ := hR
      have M : hM E A s H locs σ Z := M
      refine lv_if_eq (tgt := 51) C.1 C.2.1 dX12_value_26 (by decide) (fun c_26 => ?_) (fun c_26 => ?_)
      · skip
        have c_26 : ¬ inB c9 0 1000000 = true := bz_0.mp c_26
        refine lv_iconst (v := (-1)) C.1 C.2.1 dX12_value_51 (by decide) ?_
        refine g_iret C M hr hlk ?_ (Nat.le_of_ble_eq_true rfl) (Nat.le_of_ble_eq_true rfl) dX12_value_52
        refine ⟨fun h => absurd h (by simp only [valOk, c_6, c_16, c_26, Bool.false_eq_true, not_true_eq_false, not_false_eq_true, and_true, true_and, false_and, and_false]), fun _ => ⟨rfl, rfl⟩⟩
      · skip
        have c_26 : inB c9 0 1000000 = true := bz_ne0.mp c_26
        refine lv_iload_n C.1 C.2.1 dX12_value_29 rfl (lv_at hl 3 rfl) ?_
        refine lv_iconst (v := 0) C.1 C.2.1 dX12_value_30 (by decide) ?_
        refine lv_ldc (v := 1000000) C.1 C.2.1 C.2.2.2.1 (C.2.2.2.2.1.1.use kc12_155 rfl) dX12_value_31 ?_
        refine g_calli M (g_runS (As := [.int r9, .int 0, .int 1000000]) (rest := []) C M (m_in l E σ Z r9 0 1000000) clX12_in stX12_in lk12_131 rfl ⟨Nat.le_of_ble_eq_true rfl, Nat.le_of_ble_eq_true rfl⟩ hl.1 rfl (Nat.le_of_ble_eq_true rfl) dX12_value_33 ⟨Nat.le_of_ble_eq_true rfl, Nat.le_of_ble_eq_true rfl⟩) (fun r3 u H locs hR M => ?_)
        refine W.widen (k := 0) (n := 0) (Nat.le_of_ble_eq_true rfl) (Nat.le_of_ble_eq_true rfl) ?_
        obtain ⟨rfl, rfl⟩ := hR
        have M : hM E A s H locs σ Z := M
        refine lv_if_eq (tgt := 51) C.1 C.2.1 dX12_value_36 (by decide) (fun c_36 => ?_) (fun c_36 => ?_)
        · skip
          have c_36 : ¬ inB r9 0 1000000 = true := bz_0.mp c_36
          refine lv_iconst (v := (-1)) C.1 C.2.1 dX12_value_51 (by decide) ?_
          refine g_iret C M hr hlk ?_ (Nat.le_of_ble_eq_true rfl) (Nat.le_of_ble_eq_true rfl) dX12_value_52
          refine ⟨fun h => absurd h (by simp only [valOk, c_6, c_16, c_26, c_36, Bool.false_eq_true, not_true_eq_false, not_false_eq_true, and_true, true_and, false_and, and_false]), fun _ => ⟨rfl, rfl⟩⟩
        · skip
          have c_36 : inB r9 0 1000000 = true := bz_ne0.mp c_36
          refine lv_iload C.1 C.2.1 dX12_value_39 (lv_at hl 4 rfl) ?_
          refine lv_iconst (v := 0) C.1 C.2.1 dX12_value_41 (by decide) ?_
          refine lv_sipush (v := 5000) C.1 C.2.1 dX12_value_42 (by decide) ?_
          refine g_calli M (g_runS (As := [.int day, .int 0, .int 5000]) (rest := []) C M (m_in l E σ Z day 0 5000) clX12_in stX12_in lk12_131 rfl ⟨Nat.le_of_ble_eq_true rfl, Nat.le_of_ble_eq_true rfl⟩ hl.1 rfl (Nat.le_of_ble_eq_true rfl) dX12_value_45 ⟨Nat.le_of_ble_eq_true rfl, Nat.le_of_ble_eq_true rfl⟩) (fun r4 u H locs hR M => ?_)
          refine W.widen (k := 0) (n := 0) (Nat.le_of_ble_eq_true rfl) (Nat.le_of_ble_eq_true rfl) ?_
          obtain ⟨rfl, rfl⟩ := hR
          have M : hM E A s H locs σ Z := M
          refine lv_if_ne (tgt := 53) C.1 C.2.1 dX12_value_48 (by decide) (fun c_48 => ?_) (fun c_48 => ?_)
          · skip
            have c_48 : inB day 0 5000 = true := bz_ne0.mp c_48
            refine lv_aload_n C.1 C.2.1 dX12_value_53 rfl (lv_at hl 0 rfl) ?_
            refine g_getA C M 43 12 (by decide) rfl rfl (by decide) fl12_37 dX12_value_54 ?_
            refine lv_aload_n C.1 C.2.1 dX12_value_57 rfl (lv_at hl 0 rfl) ?_
            refine g_getI C M 43 11 (by decide) rfl rfl (by decide) fl12_152 (v := nI n) hn dX12_value_58 ?_
            refine lv_iload_n C.1 C.2.1 dX12_value_61 rfl (lv_at hl 1 rfl) ?_
            refine g_iast C M 43 12 (by decide) rfl n (nI_clamp (by omega)) (vp_in_nI (by omega) (by decide)) dX12_value_62 (fun H locs M => ?_)
            have M : hM E A s H locs (sA σ 43 12 0 (upd (hA σ 43 12 0) n g)) Z := M
            refine lv_aload_n C.1 C.2.1 dX12_value_63 rfl (lv_at hl 0 rfl) ?_
            refine g_getA C M 43 13 (by decide) rfl rfl (by decide) fl12_40 dX12_value_64 ?_
            refine lv_aload_n C.1 C.2.1 dX12_value_67 rfl (lv_at hl 0 rfl) ?_
            refine g_getI C M 43 11 (by decide) rfl rfl (by decide) fl12_152 (v := nI n) hn dX12_value_68 ?_
            refine lv_iload_n C.1 C.2.1 dX12_value_71 rfl (lv_at hl 2 rfl) ?_
            refine g_iast C M 43 13 (by decide) rfl n (nI_clamp (by omega)) (vp_in_nI (by omega) (by decide)) dX12_value_72 (fun H locs M => ?_)
            have M : hM E A s H locs (sA (sA σ 43 12 0 (upd (hA σ 43 12 0) n g)) 43 13 0 (upd (hA σ 43 13 0) n c9)) Z := M
            refine lv_aload_n C.1 C.2.1 dX12_value_73 rfl (lv_at hl 0 rfl) ?_
            refine g_getA C M 43 14 (by decide) rfl rfl (by decide) fl12_43 dX12_value_74 ?_
            refine lv_aload_n C.1 C.2.1 dX12_value_77 rfl (lv_at hl 0 rfl) ?_
            refine g_getI C M 43 11 (by decide) rfl rfl (by decide) fl12_152 (v := nI n) hn dX12_value_78 ?_
            refine lv_iload_n C.1 C.2.1 dX12_value_81 rfl (lv_at hl 3 rfl) ?_
            refine g_iast C M 43 14 (by decide) rfl n (nI_clamp (by omega)) (vp_in_nI (by omega) (by decide)) dX12_value_82 (fun H locs M => ?_)
            have M : hM E A s H locs (sA (sA (sA σ 43 12 0 (upd (hA σ 43 12 0) n g)) 43 13 0 (upd (hA σ 43 13 0) n c9)) 43 14 0 (upd (hA σ 43 14 0) n r9)) Z := M
            refine lv_aload_n C.1 C.2.1 dX12_value_83 rfl (lv_at hl 0 rfl) ?_
            refine g_getA C M 43 15 (by decide) rfl rfl (by decide) fl12_46 dX12_value_84 ?_
            refine lv_aload_n C.1 C.2.1 dX12_value_87 rfl (lv_at hl 0 rfl) ?_
            refine g_getI C M 43 11 (by decide) rfl rfl (by decide) fl12_152 (v := nI n) hn dX12_value_88 ?_
            refine lv_iload C.1 C.2.1 dX12_value_91 (lv_at hl 4 rfl) ?_
            refine g_iast C M 43 15 (by decide) rfl n (nI_clamp (by omega)) (vp_in_nI (by omega) (by decide)) dX12_value_93 (fun H locs M => ?_)
            have M : hM E A s H locs (sA (sA (sA (sA σ 43 12 0 (upd (hA σ 43 12 0) n g)) 43 13 0 (upd (hA σ 43 13 0) n c9)) 43 14 0 (upd (hA σ 43 14 0) n r9)) 43 15 0 (upd (hA σ 43 15 0) n day)) Z := M
            refine lv_aload_n C.1 C.2.1 dX12_value_94 rfl (lv_at hl 0 rfl) ?_
            refine g_getA C M 43 16 (by decide) rfl rfl (by decide) fl12_49 dX12_value_95 ?_
            refine lv_aload_n C.1 C.2.1 dX12_value_98 rfl (lv_at hl 0 rfl) ?_
            refine g_getI C M 43 11 (by decide) rfl rfl (by decide) fl12_152 (v := nI n) hn dX12_value_99 ?_
            refine lv_aload_n C.1 C.2.1 dX12_value_102 rfl (lv_at hl 0 rfl) ?_
            refine g_getI C M 43 1 (by decide) rfl rfl (by decide) fl12_128 (v := hI σ 43 1) rfl dX12_value_103 ?_
            refine g_iast C M 43 16 (by decide) rfl n (nI_clamp (by omega)) (vp_in_nI (by omega) (by decide)) dX12_value_106 (fun H locs M => ?_)
            have M : hM E A s H locs (sA (sA (sA (sA (sA σ 43 12 0 (upd (hA σ 43 12 0) n g)) 43 13 0 (upd (hA σ 43 13 0) n c9)) 43 14 0 (upd (hA σ 43 14 0) n r9)) 43 15 0 (upd (hA σ 43 15 0) n day)) 43 16 0 (upd (hA σ 43 16 0) n (hI σ 43 1))) Z := M
            refine lv_aload_n C.1 C.2.1 dX12_value_107 rfl (lv_at hl 0 rfl) ?_
            refine lv_dup C.1 C.2.1 dX12_value_108 rfl ?_
            refine g_getI C M 43 11 (by decide) rfl rfl (by decide) fl12_152 (v := nI n) hn dX12_value_109 ?_
            refine lv_iconst (v := 1) C.1 C.2.1 dX12_value_112 (by decide) ?_
            refine lv_iadd C.1 C.2.1 dX12_value_113 ?_
            refine g_rei (v := nI (n + 1)) (nI_1 _) ?_
            refine g_putI C M 43 11 (by decide) rfl rfl (by decide) fl12_152 rfl rfl dX12_value_114 (fun H locs M => ?_)
            refine lv_aload_n C.1 C.2.1 dX12_value_117 rfl (lv_at hl 0 rfl) ?_
            refine g_getI C M 43 11 (by decide) rfl rfl (by decide) fl12_152 (v := nI (n + 1)) rfl dX12_value_118 ?_
            refine g_iret C M hr hlk ?_ (Nat.le_of_ble_eq_true rfl) (Nat.le_of_ble_eq_true rfl) dX12_value_121
            refine ⟨fun _ => ⟨rfl, rfl⟩, fun h => absurd (by simp only [valOk, c_6, c_16, c_26, c_36, c_48, not_true_eq_false, not_false_eq_true, and_self]) h⟩
          · skip
            have c_48 : ¬ inB day 0 5000 = true := bz_0.mp c_48
            refine lv_iconst (v := (-1)) C.1 C.2.1 dX12_value_51 (by decide) ?_
            refine g_iret C M hr hlk ?_ (Nat.le_of_ble_eq_true rfl) (Nat.le_of_ble_eq_true rfl) dX12_value_52
            refine ⟨fun h => absurd h (by simp only [valOk, c_6, c_16, c_26, c_36, c_48, Bool.false_eq_true, not_true_eq_false, not_false_eq_true, and_true, true_and, false_and, and_false]), fun _ => ⟨rfl, rfl⟩⟩

set_option maxHeartbeats 4000000 in
set_option maxRecDepth 100000 in
theorem m_earlier (l : Launch) (E : hEnv) (σ : hMem) (Z : va_W) (n : Nat) (hn : hI σ 43 17 = nI n) (hn40 : n ≤ 40) (m9 a day : Int32) : hMet l yX12_earlier cX12_earlier 4 (some .int) (1, 0, 0, 22) E σ Z [.ref (hO E 43), .int m9, .int a, .int day] (hQi E (fun r u => (casOk n m9 a day → r = nI n ∧ u = (mCas σ n m9 a day, Z)) ∧ (¬ (casOk n m9 a day) → r = -1 ∧ u = (σ, Z)))) := by
  refine hMet.of (by decide) (Nat.le_of_ble_eq_true rfl) (fun p e s m below meth c A ls C M hr hlk hl => ?_)
  have hl : lv_has ls 4 [(0, .ref (hO E 43)), (1, .int m9), (2, .int a), (3, .int day)] := hl
  refine lv_aload_n C.1 C.2.1 dX12_earlier_0 rfl (lv_at hl 0 rfl) ?_
  refine g_getI C M 43 17 (by decide) rfl rfl (by decide) fl12_156 (v := nI n) hn dX12_earlier_1 ?_
  refine lv_bipush (v := 40) C.1 C.2.1 dX12_earlier_4 (by decide) ?_
  refine lv_icmp_eq (tgt := 41) C.1 C.2.1 dX12_earlier_6 (by decide) (fun c_6 => ?_) (fun c_6 => ?_)
  · skip
    refine lv_iconst (v := (-1)) C.1 C.2.1 dX12_earlier_41 (by decide) ?_
    refine g_iret C M hr hlk ?_ (Nat.le_of_ble_eq_true rfl) (Nat.le_of_ble_eq_true rfl) dX12_earlier_42
    refine ⟨fun h => absurd h (by simp only [casOk, c_6, Bool.false_eq_true, not_true_eq_false, not_false_eq_true, and_true, true_and, false_and, and_false]), fun _ => ⟨rfl, rfl⟩⟩
  · skip
    have hlt : n < 40 := by have := ct_ne 40 c_6; omega
    refine lv_iload_n C.1 C.2.1 dX12_earlier_9 rfl (lv_at hl 1 rfl) ?_
    refine lv_iconst (v := 0) C.1 C.2.1 dX12_earlier_10 (by decide) ?_
    refine lv_ldc (v := 99999) C.1 C.2.1 C.2.2.2.1 (C.2.2.2.2.1.1.use kc12_159 rfl) dX12_earlier_11 ?_
    refine g_calli M (g_runS (As := [.int m9, .int 0, .int 99999]) (rest := []) C M (m_in l E σ Z m9 0 99999) clX12_in stX12_in lk12_131 rfl ⟨Nat.le_of_ble_eq_true rfl, Nat.le_of_ble_eq_true rfl⟩ hl.1 rfl (Nat.le_of_ble_eq_true rfl) dX12_earlier_13 ⟨Nat.le_of_ble_eq_true rfl, Nat.le_of_ble_eq_true rfl⟩) (fun r1 u H locs hR M => ?_)
    refine W.widen (k := 0) (n := 0) (Nat.le_of_ble_eq_true rfl) (Nat.le_of_ble_eq_true rfl) ?_
    obtain ⟨rfl, rfl⟩ := hR
    have M : hM E A s H locs σ Z := M
    refine lv_if_eq (tgt := 41) C.1 C.2.1 dX12_earlier_16 (by decide) (fun c_16 => ?_) (fun c_16 => ?_)
    · skip
      have c_16 : ¬ inB m9 0 99999 = true := bz_0.mp c_16
      refine lv_iconst (v := (-1)) C.1 C.2.1 dX12_earlier_41 (by decide) ?_
      refine g_iret C M hr hlk ?_ (Nat.le_of_ble_eq_true rfl) (Nat.le_of_ble_eq_true rfl) dX12_earlier_42
      refine ⟨fun h => absurd h (by simp only [casOk, c_6, c_16, Bool.false_eq_true, not_true_eq_false, not_false_eq_true, and_true, true_and, false_and, and_false]), fun _ => ⟨rfl, rfl⟩⟩
    · skip
      have c_16 : inB m9 0 99999 = true := bz_ne0.mp c_16
      refine lv_iload_n C.1 C.2.1 dX12_earlier_19 rfl (lv_at hl 2 rfl) ?_
      refine lv_iconst (v := 0) C.1 C.2.1 dX12_earlier_20 (by decide) ?_
      refine lv_sipush (v := 1000) C.1 C.2.1 dX12_earlier_21 (by decide) ?_
      refine g_calli M (g_runS (As := [.int a, .int 0, .int 1000]) (rest := []) C M (m_in l E σ Z a 0 1000) clX12_in stX12_in lk12_131 rfl ⟨Nat.le_of_ble_eq_true rfl, Nat.le_of_ble_eq_true rfl⟩ hl.1 rfl (Nat.le_of_ble_eq_true rfl) dX12_earlier_24 ⟨Nat.le_of_ble_eq_true rfl, Nat.le_of_ble_eq_true rfl⟩) (fun r2 u H locs hR M => ?_)
      refine W.widen (k := 0) (n := 0) (Nat.le_of_ble_eq_true rfl) (Nat.le_of_ble_eq_true rfl) ?_
      obtain ⟨rfl, rfl⟩ := hR
      have M : hM E A s H locs σ Z := M
      refine lv_if_eq (tgt := 41) C.1 C.2.1 dX12_earlier_27 (by decide) (fun c_27 => ?_) (fun c_27 => ?_)
      · skip
        have c_27 : ¬ inB a 0 1000 = true := bz_0.mp c_27
        refine lv_iconst (v := (-1)) C.1 C.2.1 dX12_earlier_41 (by decide) ?_
        refine g_iret C M hr hlk ?_ (Nat.le_of_ble_eq_true rfl) (Nat.le_of_ble_eq_true rfl) dX12_earlier_42
        refine ⟨fun h => absurd h (by simp only [casOk, c_6, c_16, c_27, Bool.false_eq_true, not_true_eq_false, not_false_eq_true, and_true, true_and, false_and, and_false]), fun _ => ⟨rfl, rfl⟩⟩
      · skip
        have c_27 : inB a 0 1000 = true := bz_ne0.mp c_27
        refine lv_iload_n C.1 C.2.1 dX12_earlier_30 rfl (lv_at hl 3 rfl) ?_
        refine lv_iconst (v := 0) C.1 C.2.1 dX12_earlier_31 (by decide) ?_
        refine lv_sipush (v := 5000) C.1 C.2.1 dX12_earlier_32 (by decide) ?_
        refine g_calli M (g_runS (As := [.int day, .int 0, .int 5000]) (rest := []) C M (m_in l E σ Z day 0 5000) clX12_in stX12_in lk12_131 rfl ⟨Nat.le_of_ble_eq_true rfl, Nat.le_of_ble_eq_true rfl⟩ hl.1 rfl (Nat.le_of_ble_eq_true rfl) dX12_earlier_35 ⟨Nat.le_of_ble_eq_true rfl, Nat.le_of_ble_eq_true rfl⟩) (fun r3 u H locs hR M => ?_)
        refine W.widen (k := 0) (n := 0) (Nat.le_of_ble_eq_true rfl) (Nat.le_of_ble_eq_true rfl) ?_
        obtain ⟨rfl, rfl⟩ := hR
        have M : hM E A s H locs σ Z := M
        refine lv_if_ne (tgt := 43) C.1 C.2.1 dX12_earlier_38 (by decide) (fun c_38 => ?_) (fun c_38 => ?_)
        · skip
          have c_38 : inB day 0 5000 = true := bz_ne0.mp c_38
          refine lv_aload_n C.1 C.2.1 dX12_earlier_43 rfl (lv_at hl 0 rfl) ?_
          refine g_getA C M 43 18 (by decide) rfl rfl (by decide) fl12_52 dX12_earlier_44 ?_
          refine lv_aload_n C.1 C.2.1 dX12_earlier_47 rfl (lv_at hl 0 rfl) ?_
          refine g_getI C M 43 17 (by decide) rfl rfl (by decide) fl12_156 (v := nI n) hn dX12_earlier_48 ?_
          refine lv_iload_n C.1 C.2.1 dX12_earlier_51 rfl (lv_at hl 1 rfl) ?_
          refine g_iast C M 43 18 (by decide) rfl n (nI_clamp (by omega)) (vp_in_nI (by omega) (by decide)) dX12_earlier_52 (fun H locs M => ?_)
          have M : hM E A s H locs (sA σ 43 18 0 (upd (hA σ 43 18 0) n m9)) Z := M
          refine lv_aload_n C.1 C.2.1 dX12_earlier_53 rfl (lv_at hl 0 rfl) ?_
          refine g_getA C M 43 19 (by decide) rfl rfl (by decide) fl12_55 dX12_earlier_54 ?_
          refine lv_aload_n C.1 C.2.1 dX12_earlier_57 rfl (lv_at hl 0 rfl) ?_
          refine g_getI C M 43 17 (by decide) rfl rfl (by decide) fl12_156 (v := nI n) hn dX12_earlier_58 ?_
          refine lv_iload_n C.1 C.2.1 dX12_earlier_61 rfl (lv_at hl 2 rfl) ?_
          refine g_iast C M 43 19 (by decide) rfl n (nI_clamp (by omega)) (vp_in_nI (by omega) (by decide)) dX12_earlier_62 (fun H locs M => ?_)
          have M : hM E A s H locs (sA (sA σ 43 18 0 (upd (hA σ 43 18 0) n m9)) 43 19 0 (upd (hA σ 43 19 0) n a)) Z := M
          refine lv_aload_n C.1 C.2.1 dX12_earlier_63 rfl (lv_at hl 0 rfl) ?_
          refine g_getA C M 43 20 (by decide) rfl rfl (by decide) fl12_58 dX12_earlier_64 ?_
          refine lv_aload_n C.1 C.2.1 dX12_earlier_67 rfl (lv_at hl 0 rfl) ?_
          refine g_getI C M 43 17 (by decide) rfl rfl (by decide) fl12_156 (v := nI n) hn dX12_earlier_68 ?_
          refine lv_iload_n C.1 C.2.1 dX12_earlier_71 rfl (lv_at hl 3 rfl) ?_
          refine g_iast C M 43 20 (by decide) rfl n (nI_clamp (by omega)) (vp_in_nI (by omega) (by decide)) dX12_earlier_72 (fun H locs M => ?_)
          have M : hM E A s H locs (sA (sA (sA σ 43 18 0 (upd (hA σ 43 18 0) n m9)) 43 19 0 (upd (hA σ 43 19 0) n a)) 43 20 0 (upd (hA σ 43 20 0) n day)) Z := M
          refine lv_aload_n C.1 C.2.1 dX12_earlier_73 rfl (lv_at hl 0 rfl) ?_
          refine g_getA C M 43 21 (by decide) rfl rfl (by decide) fl12_61 dX12_earlier_74 ?_
          refine lv_aload_n C.1 C.2.1 dX12_earlier_77 rfl (lv_at hl 0 rfl) ?_
          refine g_getI C M 43 17 (by decide) rfl rfl (by decide) fl12_156 (v := nI n) hn dX12_earlier_78 ?_
          refine lv_aload_n C.1 C.2.1 dX12_earlier_81 rfl (lv_at hl 0 rfl) ?_
          refine g_getI C M 43 1 (by decide) rfl rfl (by decide) fl12_128 (v := hI σ 43 1) rfl dX12_earlier_82 ?_
          refine g_iast C M 43 21 (by decide) rfl n (nI_clamp (by omega)) (vp_in_nI (by omega) (by decide)) dX12_earlier_85 (fun H locs M => ?_)
          have M : hM E A s H locs (sA (sA (sA (sA σ 43 18 0 (upd (hA σ 43 18 0) n m9)) 43 19 0 (upd (hA σ 43 19 0) n a)) 43 20 0 (upd (hA σ 43 20 0) n day)) 43 21 0 (upd (hA σ 43 21 0) n (hI σ 43 1))) Z := M
          refine lv_aload_n C.1 C.2.1 dX12_earlier_86 rfl (lv_at hl 0 rfl) ?_
          refine g_getA C M 43 22 (by decide) rfl rfl (by decide) fl12_64 dX12_earlier_87 ?_
          refine lv_aload_n C.1 C.2.1 dX12_earlier_90 rfl (lv_at hl 0 rfl) ?_
          refine g_getI C M 43 17 (by decide) rfl rfl (by decide) fl12_156 (v := nI n) hn dX12_earlier_91 ?_
          refine lv_iconst (v := (-1)) C.1 C.2.1 dX12_earlier_94 (by decide) ?_
          refine g_iast C M 43 22 (by decide) rfl n (nI_clamp (by omega)) (vp_in_nI (by omega) (by decide)) dX12_earlier_95 (fun H locs M => ?_)
          have M : hM E A s H locs (sA (sA (sA (sA (sA σ 43 18 0 (upd (hA σ 43 18 0) n m9)) 43 19 0 (upd (hA σ 43 19 0) n a)) 43 20 0 (upd (hA σ 43 20 0) n day)) 43 21 0 (upd (hA σ 43 21 0) n (hI σ 43 1))) 43 22 0 (upd (hA σ 43 22 0) n (-1))) Z := M
          refine lv_aload_n C.1 C.2.1 dX12_earlier_96 rfl (lv_at hl 0 rfl) ?_
          refine lv_dup C.1 C.2.1 dX12_earlier_97 rfl ?_
          refine g_getI C M 43 17 (by decide) rfl rfl (by decide) fl12_156 (v := nI n) hn dX12_earlier_98 ?_
          refine lv_iconst (v := 1) C.1 C.2.1 dX12_earlier_101 (by decide) ?_
          refine lv_iadd C.1 C.2.1 dX12_earlier_102 ?_
          refine g_rei (v := nI (n + 1)) (nI_1 _) ?_
          refine g_putI C M 43 17 (by decide) rfl rfl (by decide) fl12_156 rfl rfl dX12_earlier_103 (fun H locs M => ?_)
          refine lv_aload_n C.1 C.2.1 dX12_earlier_106 rfl (lv_at hl 0 rfl) ?_
          refine g_getI C M 43 17 (by decide) rfl rfl (by decide) fl12_156 (v := nI (n + 1)) rfl dX12_earlier_107 ?_
          refine lv_iconst (v := 1) C.1 C.2.1 dX12_earlier_110 (by decide) ?_
          refine lv_isub C.1 C.2.1 dX12_earlier_111 ?_
          refine g_rei (v := nI n) (nI_pred _) ?_
          refine g_iret C M hr hlk ?_ (Nat.le_of_ble_eq_true rfl) (Nat.le_of_ble_eq_true rfl) dX12_earlier_112
          refine ⟨fun _ => ⟨rfl, rfl⟩, fun h => absurd (by simp only [casOk, c_6, c_16, c_27, c_38, not_true_eq_false, not_false_eq_true, and_self]) h⟩
        · skip
          have c_38 : ¬ inB day 0 5000 = true := bz_0.mp c_38
          refine lv_iconst (v := (-1)) C.1 C.2.1 dX12_earlier_41 (by decide) ?_
          refine g_iret C M hr hlk ?_ (Nat.le_of_ble_eq_true rfl) (Nat.le_of_ble_eq_true rfl) dX12_earlier_42
          refine ⟨fun h => absurd h (by simp only [casOk, c_6, c_16, c_27, c_38, Bool.false_eq_true, not_true_eq_false, not_false_eq_true, and_true, true_and, false_and, and_false]), fun _ => ⟨rfl, rfl⟩⟩

def ovrOk (σ : hMem) (n : Nat) (k day : Int32) : Prop := inB k 0 (nI n - 1) = true ∧ inB day 0 5000 = true ∧ hA σ 43 22 0 k.toNatClampNeg = -1
def mOvr (σ : hMem) (k day : Int32) : hMem := sA (sA σ 43 22 0 (upd (hA σ 43 22 0) k.toNatClampNeg day)) 43 23 0 (upd (hA σ 43 23 0) k.toNatClampNeg (hI σ 43 1))
theorem vp_in_pre {x : Int32} {n N : Nat} (h : inB x 0 (nI n - 1) = true) (hn : n ≤ N) (hN : N < 2 ^ 30) : vp_in x N := by
  rw [inB_iff] at h
  rw [vp_in_iff]
  obtain ⟨h1, h2⟩ := h
  rw [Int32.lt_iff_toInt_lt] at h1 h2
  have e : (0 : Int32).toInt = 0 := rfl
  have e2 : (nI n - 1).toInt = (n : Int) - 1 := pk_sub_toInt (a := n) (b := 1) (by omega) (by omega)
  rw [e] at h1
  rw [e2] at h2
  omega

set_option maxHeartbeats 4000000 in
set_option maxRecDepth 100000 in
theorem m_overrule (l : Launch) (E : hEnv) (σ : hMem) (Z : va_W) (n : Nat) (hn : hI σ 43 17 = nI n) (hn40 : n ≤ 40) (k day : Int32) : hMet l yX12_overrule cX12_overrule 3 (some .boolean) (1, 0, 0, 22) E σ Z [.ref (hO E 43), .int k, .int day] (hQi E (fun r u => (ovrOk σ n k day → r = 1 ∧ u = (mOvr σ k day, Z)) ∧ (¬ (ovrOk σ n k day) → r = 0 ∧ u = (σ, Z)))) := by
  refine hMet.of (by decide) (Nat.le_of_ble_eq_true rfl) (fun p e s m below meth c A ls C M hr hlk hl => ?_)
  have hl : lv_has ls 3 [(0, .ref (hO E 43)), (1, .int k), (2, .int day)] := hl
  refine lv_iload_n C.1 C.2.1 dX12_overrule_0 rfl (lv_at hl 1 rfl) ?_
  refine lv_iconst (v := 0) C.1 C.2.1 dX12_overrule_1 (by decide) ?_
  refine lv_aload_n C.1 C.2.1 dX12_overrule_2 rfl (lv_at hl 0 rfl) ?_
  refine g_getI C M 43 17 (by decide) rfl rfl (by decide) fl12_156 (v := nI n) hn dX12_overrule_3 ?_
  refine lv_iconst (v := 1) C.1 C.2.1 dX12_overrule_6 (by decide) ?_
  refine lv_isub C.1 C.2.1 dX12_overrule_7 ?_
  refine g_calli M (g_runS (As := [.int k, .int 0, .int ((nI n) - 1)]) (rest := []) C M (m_in l E σ Z k 0 ((nI n) - 1)) clX12_in stX12_in lk12_131 rfl ⟨Nat.le_of_ble_eq_true rfl, Nat.le_of_ble_eq_true rfl⟩ hl.1 rfl (Nat.le_of_ble_eq_true rfl) dX12_overrule_8 ⟨Nat.le_of_ble_eq_true rfl, Nat.le_of_ble_eq_true rfl⟩) (fun r1 u H locs hR M => ?_)
  refine W.widen (k := 0) (n := 0) (Nat.le_of_ble_eq_true rfl) (Nat.le_of_ble_eq_true rfl) ?_
  obtain ⟨rfl, rfl⟩ := hR
  have M : hM E A s H locs σ Z := M
  refine lv_if_eq (tgt := 35) C.1 C.2.1 dX12_overrule_11 (by decide) (fun c_11 => ?_) (fun c_11 => ?_)
  · skip
    have c_11 : ¬ inB k 0 ((nI n) - 1) = true := bz_0.mp c_11
    refine lv_iconst (v := 0) C.1 C.2.1 dX12_overrule_35 (by decide) ?_
    refine g_zret rfl C M hr hlk ?_ (Nat.le_of_ble_eq_true rfl) (Nat.le_of_ble_eq_true rfl) dX12_overrule_36
    refine ⟨fun h => absurd h (by simp only [ovrOk, c_11, Bool.false_eq_true, not_true_eq_false, not_false_eq_true, and_true, true_and, false_and, and_false]), fun _ => ⟨rfl, rfl⟩⟩
  · skip
    have c_11 : inB k 0 ((nI n) - 1) = true := bz_ne0.mp c_11
    refine lv_iload_n C.1 C.2.1 dX12_overrule_14 rfl (lv_at hl 2 rfl) ?_
    refine lv_iconst (v := 0) C.1 C.2.1 dX12_overrule_15 (by decide) ?_
    refine lv_sipush (v := 5000) C.1 C.2.1 dX12_overrule_16 (by decide) ?_
    refine g_calli M (g_runS (As := [.int day, .int 0, .int 5000]) (rest := []) C M (m_in l E σ Z day 0 5000) clX12_in stX12_in lk12_131 rfl ⟨Nat.le_of_ble_eq_true rfl, Nat.le_of_ble_eq_true rfl⟩ hl.1 rfl (Nat.le_of_ble_eq_true rfl) dX12_overrule_19 ⟨Nat.le_of_ble_eq_true rfl, Nat.le_of_ble_eq_true rfl⟩) (fun r2 u H locs hR M => ?_)
    refine W.widen (k := 0) (n := 0) (Nat.le_of_ble_eq_true rfl) (Nat.le_of_ble_eq_true rfl) ?_
    obtain ⟨rfl, rfl⟩ := hR
    have M : hM E A s H locs σ Z := M
    refine lv_if_eq (tgt := 35) C.1 C.2.1 dX12_overrule_22 (by decide) (fun c_22 => ?_) (fun c_22 => ?_)
    · skip
      have c_22 : ¬ inB day 0 5000 = true := bz_0.mp c_22
      refine lv_iconst (v := 0) C.1 C.2.1 dX12_overrule_35 (by decide) ?_
      refine g_zret rfl C M hr hlk ?_ (Nat.le_of_ble_eq_true rfl) (Nat.le_of_ble_eq_true rfl) dX12_overrule_36
      refine ⟨fun h => absurd h (by simp only [ovrOk, c_11, c_22, Bool.false_eq_true, not_true_eq_false, not_false_eq_true, and_true, true_and, false_and, and_false]), fun _ => ⟨rfl, rfl⟩⟩
    · skip
      have c_22 : inB day 0 5000 = true := bz_ne0.mp c_22
      refine lv_aload_n C.1 C.2.1 dX12_overrule_25 rfl (lv_at hl 0 rfl) ?_
      refine g_getA C M 43 22 (by decide) rfl rfl (by decide) fl12_64 dX12_overrule_26 ?_
      refine lv_iload_n C.1 C.2.1 dX12_overrule_29 rfl (lv_at hl 1 rfl) ?_
      refine g_iald C M 43 22 (by decide) rfl k.toNatClampNeg rfl (by exact vp_in_pre c_11 hn40 (by decide)) (v := hA σ 43 22 0 k.toNatClampNeg) rfl dX12_overrule_30 ?_
      refine lv_iconst (v := (-1)) C.1 C.2.1 dX12_overrule_31 (by decide) ?_
      refine lv_icmp_eq (tgt := 37) C.1 C.2.1 dX12_overrule_32 (by decide) (fun c_32 => ?_) (fun c_32 => ?_)
      · skip
        refine lv_aload_n C.1 C.2.1 dX12_overrule_37 rfl (lv_at hl 0 rfl) ?_
        refine g_getA C M 43 22 (by decide) rfl rfl (by decide) fl12_64 dX12_overrule_38 ?_
        refine lv_iload_n C.1 C.2.1 dX12_overrule_41 rfl (lv_at hl 1 rfl) ?_
        refine lv_iload_n C.1 C.2.1 dX12_overrule_42 rfl (lv_at hl 2 rfl) ?_
        refine g_iast C M 43 22 (by decide) rfl k.toNatClampNeg rfl (by exact vp_in_pre c_11 hn40 (by decide)) dX12_overrule_43 (fun H locs M => ?_)
        have M : hM E A s H locs (sA σ 43 22 0 (upd (hA σ 43 22 0) k.toNatClampNeg day)) Z := M
        refine lv_aload_n C.1 C.2.1 dX12_overrule_44 rfl (lv_at hl 0 rfl) ?_
        refine g_getA C M 43 23 (by decide) rfl rfl (by decide) fl12_67 dX12_overrule_45 ?_
        refine lv_iload_n C.1 C.2.1 dX12_overrule_48 rfl (lv_at hl 1 rfl) ?_
        refine lv_aload_n C.1 C.2.1 dX12_overrule_49 rfl (lv_at hl 0 rfl) ?_
        refine g_getI C M 43 1 (by decide) rfl rfl (by decide) fl12_128 (v := hI σ 43 1) rfl dX12_overrule_50 ?_
        refine g_iast C M 43 23 (by decide) rfl k.toNatClampNeg rfl (by exact vp_in_pre c_11 hn40 (by decide)) dX12_overrule_53 (fun H locs M => ?_)
        have M : hM E A s H locs (sA (sA σ 43 22 0 (upd (hA σ 43 22 0) k.toNatClampNeg day)) 43 23 0 (upd (hA σ 43 23 0) k.toNatClampNeg (hI σ 43 1))) Z := M
        refine lv_iconst (v := 1) C.1 C.2.1 dX12_overrule_54 (by decide) ?_
        refine g_zret rfl C M hr hlk ?_ (Nat.le_of_ble_eq_true rfl) (Nat.le_of_ble_eq_true rfl) dX12_overrule_55
        refine ⟨fun _ => ⟨rfl, rfl⟩, fun h => absurd (by simp only [ovrOk, c_11, c_22, c_32, not_true_eq_false, not_false_eq_true, and_self]) h⟩
      · skip
        refine lv_iconst (v := 0) C.1 C.2.1 dX12_overrule_35 (by decide) ?_
        refine g_zret rfl C M hr hlk ?_ (Nat.le_of_ble_eq_true rfl) (Nat.le_of_ble_eq_true rfl) dX12_overrule_36
        refine ⟨fun h => absurd h (by simp only [ovrOk, c_11, c_22, c_32, Bool.false_eq_true, not_true_eq_false, not_false_eq_true, and_true, true_and, false_and, and_false]), fun _ => ⟨rfl, rfl⟩⟩

set_option maxHeartbeats 4000000 in
set_option maxRecDepth 100000 in
theorem m_suit (l : Launch) (E : hEnv) (σ : hMem) (Z : va_W) (m9 l9 : Int32) : hMet l yX12_suit cX12_suit 3 (some .boolean) (1, 0, 0, 22) E σ Z [.ref (hO E 43), .int m9, .int l9] (hQi E (fun r u => r = bz (inB m9 0 99999 = true ∧ inB l9 0 99 = true) ∧ u = (if inB m9 0 99999 = true ∧ inB l9 0 99 = true then sI (sI σ 43 24 m9) 43 25 l9 else σ, Z))) := by
  refine hMet.of (by decide) (Nat.le_of_ble_eq_true rfl) (fun p e s m below meth c A ls C M hr hlk hl => ?_)
  have hl : lv_has ls 3 [(0, .ref (hO E 43)), (1, .int m9), (2, .int l9)] := hl
  refine lv_iload_n C.1 C.2.1 dX12_suit_0 rfl (lv_at hl 1 rfl) ?_
  refine lv_iconst (v := 0) C.1 C.2.1 dX12_suit_1 (by decide) ?_
  refine lv_ldc (v := 99999) C.1 C.2.1 C.2.2.2.1 (C.2.2.2.2.1.1.use kc12_159 rfl) dX12_suit_2 ?_
  refine g_calli M (g_runS (As := [.int m9, .int 0, .int 99999]) (rest := []) C M (m_in l E σ Z m9 0 99999) clX12_in stX12_in lk12_131 rfl ⟨Nat.le_of_ble_eq_true rfl, Nat.le_of_ble_eq_true rfl⟩ hl.1 rfl (Nat.le_of_ble_eq_true rfl) dX12_suit_4 ⟨Nat.le_of_ble_eq_true rfl, Nat.le_of_ble_eq_true rfl⟩) (fun r1 u H locs hR M => ?_)
  refine W.widen (k := 0) (n := 0) (Nat.le_of_ble_eq_true rfl) (Nat.le_of_ble_eq_true rfl) ?_
  obtain ⟨rfl, rfl⟩ := hR
  have M : hM E A s H locs σ Z := M
  refine lv_if_eq (tgt := 20) C.1 C.2.1 dX12_suit_7 (by decide) (fun c_7 => ?_) (fun c_7 => ?_)
  · skip
    have c_7 : ¬ inB m9 0 99999 = true := bz_0.mp c_7
    refine lv_iconst (v := 0) C.1 C.2.1 dX12_suit_20 (by decide) ?_
    refine g_zret rfl C M hr hlk ?_ (Nat.le_of_ble_eq_true rfl) (Nat.le_of_ble_eq_true rfl) dX12_suit_21
    simp only [bz, c_7, not_false_eq_true, not_true_eq_false, and_self, and_true, true_and, and_false, false_and, or_true, true_or, or_false, false_or, Bool.false_eq_true, if_true, if_false, ↓reduceIte]
  · skip
    have c_7 : inB m9 0 99999 = true := bz_ne0.mp c_7
    refine lv_iload_n C.1 C.2.1 dX12_suit_10 rfl (lv_at hl 2 rfl) ?_
    refine lv_iconst (v := 0) C.1 C.2.1 dX12_suit_11 (by decide) ?_
    refine lv_bipush (v := 99) C.1 C.2.1 dX12_suit_12 (by decide) ?_
    refine g_calli M (g_runS (As := [.int l9, .int 0, .int 99]) (rest := []) C M (m_in l E σ Z l9 0 99) clX12_in stX12_in lk12_131 rfl ⟨Nat.le_of_ble_eq_true rfl, Nat.le_of_ble_eq_true rfl⟩ hl.1 rfl (Nat.le_of_ble_eq_true rfl) dX12_suit_14 ⟨Nat.le_of_ble_eq_true rfl, Nat.le_of_ble_eq_true rfl⟩) (fun r2 u H locs hR M => ?_)
    refine W.widen (k := 0) (n := 0) (Nat.le_of_ble_eq_true rfl) (Nat.le_of_ble_eq_true rfl) ?_
    obtain ⟨rfl, rfl⟩ := hR
    have M : hM E A s H locs σ Z := M
    refine lv_if_ne (tgt := 22) C.1 C.2.1 dX12_suit_17 (by decide) (fun c_17 => ?_) (fun c_17 => ?_)
    · skip
      have c_17 : inB l9 0 99 = true := bz_ne0.mp c_17
      refine lv_aload_n C.1 C.2.1 dX12_suit_22 rfl (lv_at hl 0 rfl) ?_
      refine lv_iload_n C.1 C.2.1 dX12_suit_23 rfl (lv_at hl 1 rfl) ?_
      refine g_putI C M 43 24 (by decide) rfl rfl (by decide) fl12_160 rfl rfl dX12_suit_24 (fun H locs M => ?_)
      refine lv_aload_n C.1 C.2.1 dX12_suit_27 rfl (lv_at hl 0 rfl) ?_
      refine lv_iload_n C.1 C.2.1 dX12_suit_28 rfl (lv_at hl 2 rfl) ?_
      refine g_putI C M 43 25 (by decide) rfl rfl (by decide) fl12_163 rfl rfl dX12_suit_29 (fun H locs M => ?_)
      refine lv_iconst (v := 1) C.1 C.2.1 dX12_suit_32 (by decide) ?_
      refine g_zret rfl C M hr hlk ?_ (Nat.le_of_ble_eq_true rfl) (Nat.le_of_ble_eq_true rfl) dX12_suit_33
      simp only [bz, c_7, c_17, not_false_eq_true, not_true_eq_false, and_self, and_true, true_and, and_false, false_and, or_true, true_or, or_false, false_or, Bool.false_eq_true, if_true, if_false, ↓reduceIte]
    · skip
      have c_17 : ¬ inB l9 0 99 = true := bz_0.mp c_17
      refine lv_iconst (v := 0) C.1 C.2.1 dX12_suit_20 (by decide) ?_
      refine g_zret rfl C M hr hlk ?_ (Nat.le_of_ble_eq_true rfl) (Nat.le_of_ble_eq_true rfl) dX12_suit_21
      simp only [bz, c_7, c_17, not_false_eq_true, not_true_eq_false, and_self, and_true, true_and, and_false, false_and, or_true, true_or, or_false, false_or, Bool.false_eq_true, if_true, if_false, ↓reduceIte]

set_option maxHeartbeats 4000000 in
set_option maxRecDepth 100000 in
theorem m_end (l : Launch) (E : hEnv) (σ : hMem) (Z : va_W) (k : Int32) : hMet l yX12_end cX12_end 2 (some .int) (0, 0, 0, 0) E σ Z [.ref (hO E 43), .int k] (hQi E (fun r u => r = (if ¬ k < 0 ∧ k ≤ hI σ 43 31 then k else -1) ∧ u = (if ¬ k < 0 ∧ k ≤ hI σ 43 31 then sI σ 43 31 k else σ, Z))) := by
  refine hMet.of (by decide) (Nat.le_of_ble_eq_true rfl) (fun p e s m below meth c A ls C M hr hlk hl => ?_)
  have hl : lv_has ls 2 [(0, .ref (hO E 43)), (1, .int k)] := hl
  refine lv_iload_n C.1 C.2.1 dX12_end_0 rfl (lv_at hl 1 rfl) ?_
  refine lv_if_lt (tgt := 12) C.1 C.2.1 dX12_end_1 (by decide) (fun c_1 => ?_) (fun c_1 => ?_)
  · skip
    refine lv_iconst (v := (-1)) C.1 C.2.1 dX12_end_12 (by decide) ?_
    refine g_iret C M hr hlk ?_ (Nat.le_of_ble_eq_true rfl) (Nat.le_of_ble_eq_true rfl) dX12_end_13
    simp only [bz, c_1, not_false_eq_true, not_true_eq_false, and_self, and_true, true_and, and_false, false_and, or_true, true_or, or_false, false_or, Bool.false_eq_true, if_true, if_false, ↓reduceIte]
  · skip
    refine lv_iload_n C.1 C.2.1 dX12_end_4 rfl (lv_at hl 1 rfl) ?_
    refine lv_aload_n C.1 C.2.1 dX12_end_5 rfl (lv_at hl 0 rfl) ?_
    refine g_getI C M 43 31 (by decide) rfl rfl (by decide) fl12_166 (v := hI σ 43 31) rfl dX12_end_6 ?_
    refine lv_icmp_le (tgt := 14) C.1 C.2.1 dX12_end_9 (by decide) (fun c_9 => ?_) (fun c_9 => ?_)
    · skip
      refine lv_aload_n C.1 C.2.1 dX12_end_14 rfl (lv_at hl 0 rfl) ?_
      refine lv_iload_n C.1 C.2.1 dX12_end_15 rfl (lv_at hl 1 rfl) ?_
      refine g_putI C M 43 31 (by decide) rfl rfl (by decide) fl12_166 rfl rfl dX12_end_16 (fun H locs M => ?_)
      refine lv_iload_n C.1 C.2.1 dX12_end_19 rfl (lv_at hl 1 rfl) ?_
      refine g_iret C M hr hlk ?_ (Nat.le_of_ble_eq_true rfl) (Nat.le_of_ble_eq_true rfl) dX12_end_20
      simp only [bz, c_1, c_9, not_false_eq_true, not_true_eq_false, and_self, and_true, true_and, and_false, false_and, or_true, true_or, or_false, false_or, Bool.false_eq_true, if_true, if_false, ↓reduceIte]
    · skip
      refine lv_iconst (v := (-1)) C.1 C.2.1 dX12_end_12 (by decide) ?_
      refine g_iret C M hr hlk ?_ (Nat.le_of_ble_eq_true rfl) (Nat.le_of_ble_eq_true rfl) dX12_end_13
      simp only [bz, c_1, c_9, not_false_eq_true, not_true_eq_false, and_self, and_true, true_and, and_false, false_and, or_true, true_or, or_false, false_or, Bool.false_eq_true, if_true, if_false, ↓reduceIte]

set_option maxHeartbeats 4000000 in
set_option maxRecDepth 100000 in
theorem m_fails (l : Launch) (E : hEnv) (σ : hMem) (Z : va_W) (kind place : Int32) : hMet l yX12_fails cX12_fails 3 none (0, 0, 0, 0) E σ Z [.ref (hO E 43), .int kind, .int place] (hQv E (fun u => u = (if hI σ 43 34 = 0 then sI σ 43 34 (kind + 4 * place) else σ, Z))) := by
  refine hMet.of (by decide) (Nat.le_of_ble_eq_true rfl) (fun p e s m below meth c A ls C M hr hlk hl => ?_)
  have hl : lv_has ls 3 [(0, .ref (hO E 43)), (1, .int kind), (2, .int place)] := hl
  refine lv_aload_n C.1 C.2.1 dX12_fails_0 rfl (lv_at hl 0 rfl) ?_
  refine g_getI C M 43 34 (by decide) rfl rfl (by decide) fl12_173 (v := hI σ 43 34) rfl dX12_fails_1 ?_
  refine lv_if_ne (tgt := 16) C.1 C.2.1 dX12_fails_4 (by decide) (fun c_4 => ?_) (fun c_4 => ?_)
  · skip
    refine g_vret C M hr hlk ?_ (Nat.le_of_ble_eq_true rfl) (Nat.le_of_ble_eq_true rfl) dX12_fails_16
    simp only [bz, c_4, not_false_eq_true, not_true_eq_false, and_self, and_true, true_and, and_false, false_and, or_true, true_or, or_false, false_or, Bool.false_eq_true, if_true, if_false, ↓reduceIte]
  · skip
    refine lv_aload_n C.1 C.2.1 dX12_fails_7 rfl (lv_at hl 0 rfl) ?_
    refine lv_iload_n C.1 C.2.1 dX12_fails_8 rfl (lv_at hl 1 rfl) ?_
    refine lv_iconst (v := 4) C.1 C.2.1 dX12_fails_9 (by decide) ?_
    refine lv_iload_n C.1 C.2.1 dX12_fails_10 rfl (lv_at hl 2 rfl) ?_
    refine lv_imul C.1 C.2.1 dX12_fails_11 ?_
    refine lv_iadd C.1 C.2.1 dX12_fails_12 ?_
    refine g_putI C M 43 34 (by decide) rfl rfl (by decide) fl12_173 rfl rfl dX12_fails_13 (fun H locs M => ?_)
    refine g_vret C M hr hlk ?_ (Nat.le_of_ble_eq_true rfl) (Nat.le_of_ble_eq_true rfl) dX12_fails_16
    simp only [bz, c_4, not_false_eq_true, not_true_eq_false, and_self, and_true, true_and, and_false, false_and, or_true, true_or, or_false, false_or, Bool.false_eq_true, if_true, if_false, ↓reduceIte]

/-- the best value told of a good, of the first k: its number, or -1 -/
def svB (g known day : Int32) (go vk vd : Nat → Int32) : Nat → Int32
  | 0 => -1
  | k + 1 => if go k = g ∧ ¬ known < vk k ∧ ¬ day < vd k ∧ (svB g known day go vk vd k = -1 ∨ ¬ vd k < vd (svB g known day go vk vd k).toNatClampNeg) then nI k else svB g known day go vk vd k
theorem svB_in (g known day : Int32) (go vk vd : Nat → Int32) : ∀ k, svB g known day go vk vd k = -1 ∨ ∃ j, j < k ∧ svB g known day go vk vd k = nI j
  | 0 => Or.inl rfl
  | k + 1 => by
    unfold svB
    split
    · exact Or.inr ⟨k, Nat.lt_succ_self k, rfl⟩
    · rcases svB_in g known day go vk vd k with h | ⟨j, h1, h2⟩
      · exact Or.inl h
      · exact Or.inr ⟨j, Nat.lt_succ_of_lt h1, h2⟩
theorem vp_in_or {x : Int32} {k N : Nat} (h : x = -1 ∨ ∃ j, j < k ∧ x = nI j) (hx : ¬ x = -1) (hk : k ≤ N) (hN : N < 2 ^ 31) : vp_in x N := by
  rcases h with h | ⟨j, h1, h2⟩
  · exact absurd h hx
  · rw [h2]
    exact vp_in_nI (by omega) hN
def mSvd (σ : hMem) (n : Nat) (g known day : Int32) : Int32 := if (svB g known day (hA σ 43 12 0) (hA σ 43 16 0) (hA σ 43 15 0) n) = -1 then 0 else if hA σ 43 14 0 (svB g known day (hA σ 43 12 0) (hA σ 43 16 0) (hA σ 43 15 0) n).toNatClampNeg ≤ hA σ 43 13 0 (svB g known day (hA σ 43 12 0) (hA σ 43 16 0) (hA σ 43 15 0) n).toNatClampNeg then hA σ 43 13 0 (svB g known day (hA σ 43 12 0) (hA σ 43 16 0) (hA σ 43 15 0) n).toNatClampNeg - hA σ 43 14 0 (svB g known day (hA σ 43 12 0) (hA σ 43 16 0) (hA σ 43 15 0) n).toNatClampNeg else 0

set_option maxHeartbeats 4000000 in
set_option maxRecDepth 100000 in
theorem m_saved (l : Launch) (E : hEnv) (σ : hMem) (Z : va_W) (n : Nat) (hn : hI σ 43 11 = nI n) (hn60 : n ≤ 60) (g known day : Int32) : hMet l yX12_saved cX12_saved 6 (some .int) (1, 0, 0, 22) E σ Z [.ref (hO E 43), .int g, .int known, .int day] (hQi E (fun r u => r = (if inB g 0 9 = true ∧ inB known 0 5000 = true ∧ inB day 0 5000 = true then mSvd σ n g known day else -1) ∧ u = (σ, Z))) := by
  refine hMet.of (by decide) (Nat.le_of_ble_eq_true rfl) (fun p e s m below meth c A ls C M hr hlk hl => ?_)
  have hl : lv_has ls 6 [(0, .ref (hO E 43)), (1, .int g), (2, .int known), (3, .int day)] := hl
  refine lv_iload_n C.1 C.2.1 dX12_saved_0 rfl (lv_at hl 1 rfl) ?_
  refine lv_iconst (v := 0) C.1 C.2.1 dX12_saved_1 (by decide) ?_
  refine lv_bipush (v := 9) C.1 C.2.1 dX12_saved_2 (by decide) ?_
  refine g_calli M (g_runS (As := [.int g, .int 0, .int 9]) (rest := []) C M (m_in l E σ Z g 0 9) clX12_in stX12_in lk12_131 rfl ⟨Nat.le_of_ble_eq_true rfl, Nat.le_of_ble_eq_true rfl⟩ hl.1 rfl (Nat.le_of_ble_eq_true rfl) dX12_saved_4 ⟨Nat.le_of_ble_eq_true rfl, Nat.le_of_ble_eq_true rfl⟩) (fun r1 u H locs hR M => ?_)
  refine W.widen (k := 0) (n := 0) (Nat.le_of_ble_eq_true rfl) (Nat.le_of_ble_eq_true rfl) ?_
  obtain ⟨rfl, rfl⟩ := hR
  have M : hM E A s H locs σ Z := M
  refine lv_if_eq (tgt := 32) C.1 C.2.1 dX12_saved_7 (by decide) (fun c_7 => ?_) (fun c_7 => ?_)
  · skip
    have c_7 : ¬ inB g 0 9 = true := bz_0.mp c_7
    refine lv_iconst (v := (-1)) C.1 C.2.1 dX12_saved_32 (by decide) ?_
    refine g_iret C M hr hlk ?_ (Nat.le_of_ble_eq_true rfl) (Nat.le_of_ble_eq_true rfl) dX12_saved_33
    simp only [mSvd, c_7, not_false_eq_true, not_true_eq_false, and_self, and_true, true_and, and_false, false_and, or_true, true_or, or_false, false_or, Bool.false_eq_true, if_true, if_false, ↓reduceIte]
  · skip
    have c_7 : inB g 0 9 = true := bz_ne0.mp c_7
    refine lv_iload_n C.1 C.2.1 dX12_saved_10 rfl (lv_at hl 2 rfl) ?_
    refine lv_iconst (v := 0) C.1 C.2.1 dX12_saved_11 (by decide) ?_
    refine lv_sipush (v := 5000) C.1 C.2.1 dX12_saved_12 (by decide) ?_
    refine g_calli M (g_runS (As := [.int known, .int 0, .int 5000]) (rest := []) C M (m_in l E σ Z known 0 5000) clX12_in stX12_in lk12_131 rfl ⟨Nat.le_of_ble_eq_true rfl, Nat.le_of_ble_eq_true rfl⟩ hl.1 rfl (Nat.le_of_ble_eq_true rfl) dX12_saved_15 ⟨Nat.le_of_ble_eq_true rfl, Nat.le_of_ble_eq_true rfl⟩) (fun r2 u H locs hR M => ?_)
    refine W.widen (k := 0) (n := 0) (Nat.le_of_ble_eq_true rfl) (Nat.le_of_ble_eq_true rfl) ?_
    obtain ⟨rfl, rfl⟩ := hR
    have M : hM E A s H locs σ Z := M
    refine lv_if_eq (tgt := 32) C.1 C.2.1 dX12_saved_18 (by decide) (fun c_18 => ?_) (fun c_18 => ?_)
    · skip
      have c_18 : ¬ inB known 0 5000 = true := bz_0.mp c_18
      refine lv_iconst (v := (-1)) C.1 C.2.1 dX12_saved_32 (by decide) ?_
      refine g_iret C M hr hlk ?_ (Nat.le_of_ble_eq_true rfl) (Nat.le_of_ble_eq_true rfl) dX12_saved_33
      simp only [mSvd, c_7, c_18, not_false_eq_true, not_true_eq_false, and_self, and_true, true_and, and_false, false_and, or_true, true_or, or_false, false_or, Bool.false_eq_true, if_true, if_false, ↓reduceIte]
    · skip
      have c_18 : inB known 0 5000 = true := bz_ne0.mp c_18
      refine lv_iload_n C.1 C.2.1 dX12_saved_21 rfl (lv_at hl 3 rfl) ?_
      refine lv_iconst (v := 0) C.1 C.2.1 dX12_saved_22 (by decide) ?_
      refine lv_sipush (v := 5000) C.1 C.2.1 dX12_saved_23 (by decide) ?_
      refine g_calli M (g_runS (As := [.int day, .int 0, .int 5000]) (rest := []) C M (m_in l E σ Z day 0 5000) clX12_in stX12_in lk12_131 rfl ⟨Nat.le_of_ble_eq_true rfl, Nat.le_of_ble_eq_true rfl⟩ hl.1 rfl (Nat.le_of_ble_eq_true rfl) dX12_saved_26 ⟨Nat.le_of_ble_eq_true rfl, Nat.le_of_ble_eq_true rfl⟩) (fun r3 u H locs hR M => ?_)
      refine W.widen (k := 0) (n := 0) (Nat.le_of_ble_eq_true rfl) (Nat.le_of_ble_eq_true rfl) ?_
      obtain ⟨rfl, rfl⟩ := hR
      have M : hM E A s H locs σ Z := M
      refine lv_if_ne (tgt := 34) C.1 C.2.1 dX12_saved_29 (by decide) (fun c_29 => ?_) (fun c_29 => ?_)
      · skip
        have c_29 : inB day 0 5000 = true := bz_ne0.mp c_29
        refine lv_iconst (v := (-1)) C.1 C.2.1 dX12_saved_34 (by decide) ?_
        refine lv_istore (lv' := [(4, .int (-1)), (0, .ref (hO E 43)), (1, .int g), (2, .int known), (3, .int day)]) C.1 C.2.1 dX12_saved_35 hl (by decide) rfl (fun ls hl => ?_)
        refine lv_iconst (v := 0) C.1 C.2.1 dX12_saved_37 (by decide) ?_
        refine lv_istore (lv' := [(5, .int 0), (4, .int (-1)), (0, .ref (hO E 43)), (1, .int g), (2, .int known), (3, .int day)]) C.1 C.2.1 dX12_saved_38 hl (by decide) rfl (fun ls hl => ?_)
        have L40 : ∀ (n9 : Nat) (k : Nat), (k ≤ n) → n - k < n9 → ∀ (H : Heap) (locs : List Loc) (ls : Array Slot), hM E A s H locs σ Z → lv_has ls 6 [(5, .int (nI k)), (4, .int (svB g known day (hA σ 43 12 0) (hA σ 43 16 0) (hA σ 43 15 0) k)), (0, .ref (hO E 43)), (1, .int g), (2, .int known), (3, .int day)] → W p l e (hRm (1, 0, 0, 22)) s m [.ref (hO E 43), .int g, .int known, .int day].toArray below meth c H locs 0 0 (MQ below (hQi E (fun r u => r = (if inB g 0 9 = true ∧ inB known 0 5000 = true ∧ inB day 0 5000 = true then mSvd σ n g known day else -1) ∧ u = (σ, Z)) A) [.ref (hO E 43), .int g, .int known, .int day].toArray s 0 0 A) (F0 m 40 ls []) := by
          intro n9
          induction n9 with
          | zero =>
            intro k hk hn9
            exact absurd hn9 (Nat.not_lt_zero _)
          | succ n9 ih40 =>
            intro k hk hn40 H locs ls M hl
            refine lv_iload C.1 C.2.1 dX12_saved_40 (lv_at hl 0 rfl) ?_
            refine lv_aload_n C.1 C.2.1 dX12_saved_42 rfl (lv_at hl 2 rfl) ?_
            refine g_getI C M 43 11 (by decide) rfl rfl (by decide) fl12_152 (v := nI n) hn dX12_saved_43 ?_
            refine lv_icmp_ge (tgt := 115) C.1 C.2.1 dX12_saved_46 (by decide) (fun c_46 => ?_) (fun c_46 => ?_)
            · skip
              have hkn : k = n := by have := ct_ge c_46; omega
              have hl : lv_has ls 6 [(5, .int (nI n)), (4, .int (svB g known day (hA σ 43 12 0) (hA σ 43 16 0) (hA σ 43 15 0) n)), (0, .ref (hO E 43)), (1, .int g), (2, .int known), (3, .int day)] := by first | exact hl | (rw [hkn] at hl; exact hl)
              have M : hM E A s H locs σ Z := by first | exact M | (rw [hkn] at M; exact M)
              refine lv_iload C.1 C.2.1 dX12_saved_115 (lv_at hl 1 rfl) ?_
              refine lv_iconst (v := (-1)) C.1 C.2.1 dX12_saved_117 (by decide) ?_
              refine lv_icmp_eq (tgt := 138) C.1 C.2.1 dX12_saved_118 (by decide) (fun c_118 => ?_) (fun c_118 => ?_)
              · skip
                refine lv_iconst (v := 0) C.1 C.2.1 dX12_saved_138 (by decide) ?_
                refine lv_goto (tgt := 157) C.1 C.2.1 dX12_saved_139 (by decide) ?_
                refine g_iret C M hr hlk ?_ (Nat.le_of_ble_eq_true rfl) (Nat.le_of_ble_eq_true rfl) dX12_saved_157
                simp only [mSvd, c_7, c_18, c_29, c_46, c_118, not_false_eq_true, not_true_eq_false, and_self, and_true, true_and, and_false, false_and, or_true, true_or, or_false, false_or, Bool.false_eq_true, if_true, if_false, ↓reduceIte]
              · skip
                refine lv_aload_n C.1 C.2.1 dX12_saved_121 rfl (lv_at hl 2 rfl) ?_
                refine g_getA C M 43 13 (by decide) rfl rfl (by decide) fl12_40 dX12_saved_122 ?_
                refine lv_iload C.1 C.2.1 dX12_saved_125 (lv_at hl 1 rfl) ?_
                refine g_iald C M 43 13 (by decide) rfl ((svB g known day (hA σ 43 12 0) (hA σ 43 16 0) (hA σ 43 15 0) n).toNatClampNeg) rfl (vp_in_or (svB_in _ _ _ _ _ _ n) c_118 (by omega) (by decide)) (v := hA σ 43 13 0 ((svB g known day (hA σ 43 12 0) (hA σ 43 16 0) (hA σ 43 15 0) n).toNatClampNeg)) rfl dX12_saved_127 ?_
                refine lv_aload_n C.1 C.2.1 dX12_saved_128 rfl (lv_at hl 2 rfl) ?_
                refine g_getA C M 43 14 (by decide) rfl rfl (by decide) fl12_43 dX12_saved_129 ?_
                refine lv_iload C.1 C.2.1 dX12_saved_132 (lv_at hl 1 rfl) ?_
                refine g_iald C M 43 14 (by decide) rfl ((svB g known day (hA σ 43 12 0) (hA σ 43 16 0) (hA σ 43 15 0) n).toNatClampNeg) rfl (vp_in_or (svB_in _ _ _ _ _ _ n) c_118 (by omega) (by decide)) (v := hA σ 43 14 0 ((svB g known day (hA σ 43 12 0) (hA σ 43 16 0) (hA σ 43 15 0) n).toNatClampNeg)) rfl dX12_saved_134 ?_
                refine lv_icmp_ge (tgt := 142) C.1 C.2.1 dX12_saved_135 (by decide) (fun c_135 => ?_) (fun c_135 => ?_)
                · skip
                  refine lv_aload_n C.1 C.2.1 dX12_saved_142 rfl (lv_at hl 2 rfl) ?_
                  refine g_getA C M 43 13 (by decide) rfl rfl (by decide) fl12_40 dX12_saved_143 ?_
                  refine lv_iload C.1 C.2.1 dX12_saved_146 (lv_at hl 1 rfl) ?_
                  refine g_iald C M 43 13 (by decide) rfl ((svB g known day (hA σ 43 12 0) (hA σ 43 16 0) (hA σ 43 15 0) n).toNatClampNeg) rfl (vp_in_or (svB_in _ _ _ _ _ _ n) c_118 (by omega) (by decide)) (v := hA σ 43 13 0 ((svB g known day (hA σ 43 12 0) (hA σ 43 16 0) (hA σ 43 15 0) n).toNatClampNeg)) rfl dX12_saved_148 ?_
                  refine lv_aload_n C.1 C.2.1 dX12_saved_149 rfl (lv_at hl 2 rfl) ?_
                  refine g_getA C M 43 14 (by decide) rfl rfl (by decide) fl12_43 dX12_saved_150 ?_
                  refine lv_iload C.1 C.2.1 dX12_saved_153 (lv_at hl 1 rfl) ?_
                  refine g_iald C M 43 14 (by decide) rfl ((svB g known day (hA σ 43 12 0) (hA σ 43 16 0) (hA σ 43 15 0) n).toNatClampNeg) rfl (vp_in_or (svB_in _ _ _ _ _ _ n) c_118 (by omega) (by decide)) (v := hA σ 43 14 0 ((svB g known day (hA σ 43 12 0) (hA σ 43 16 0) (hA σ 43 15 0) n).toNatClampNeg)) rfl dX12_saved_155 ?_
                  refine lv_isub C.1 C.2.1 dX12_saved_156 ?_
                  refine g_iret C M hr hlk ?_ (Nat.le_of_ble_eq_true rfl) (Nat.le_of_ble_eq_true rfl) dX12_saved_157
                  simp only [mSvd, c_7, c_18, c_29, c_46, c_118, c_135, not_false_eq_true, not_true_eq_false, and_self, and_true, true_and, and_false, false_and, or_true, true_or, or_false, false_or, Bool.false_eq_true, if_true, if_false, ↓reduceIte]
                · skip
                  refine lv_iconst (v := 0) C.1 C.2.1 dX12_saved_138 (by decide) ?_
                  refine lv_goto (tgt := 157) C.1 C.2.1 dX12_saved_139 (by decide) ?_
                  refine g_iret C M hr hlk ?_ (Nat.le_of_ble_eq_true rfl) (Nat.le_of_ble_eq_true rfl) dX12_saved_157
                  simp only [mSvd, c_7, c_18, c_29, c_46, c_118, c_135, not_false_eq_true, not_true_eq_false, and_self, and_true, true_and, and_false, false_and, or_true, true_or, or_false, false_or, Bool.false_eq_true, if_true, if_false, ↓reduceIte]
            · skip
              have hk1 : k < n := ct_nge c_46
              refine lv_aload_n C.1 C.2.1 dX12_saved_49 rfl (lv_at hl 2 rfl) ?_
              refine g_getA C M 43 12 (by decide) rfl rfl (by decide) fl12_37 dX12_saved_50 ?_
              refine lv_iload C.1 C.2.1 dX12_saved_53 (lv_at hl 0 rfl) ?_
              refine g_iald C M 43 12 (by decide) rfl k (nI_clamp (by omega)) (vp_in_nI (by omega) (by decide)) (v := hA σ 43 12 0 k) rfl dX12_saved_55 ?_
              refine lv_iload_n C.1 C.2.1 dX12_saved_56 rfl (lv_at hl 3 rfl) ?_
              refine lv_icmp_ne (tgt := 109) C.1 C.2.1 dX12_saved_57 (by decide) (fun c_57 => ?_) (fun c_57 => ?_)
              · skip
                refine lv_iinc (v := nI (k + 1)) (lv' := [(5, .int (nI (k + 1))), (4, .int (svB g known day (hA σ 43 12 0) (hA σ 43 16 0) (hA σ 43 15 0) k)), (0, .ref (hO E 43)), (1, .int g), (2, .int known), (3, .int day)]) C.1 C.2.1 dX12_saved_109 hl (k := 0) rfl (nI_succ _).symm (by decide) rfl (fun ls hl => ?_)
                refine lv_goto (tgt := 40) C.1 C.2.1 dX12_saved_112 (by decide) ?_
                have q4 : svB g known day (hA σ 43 12 0) (hA σ 43 16 0) (hA σ 43 15 0) k = svB g known day (hA σ 43 12 0) (hA σ 43 16 0) (hA σ 43 15 0) (k + 1) := by simp only [svB, c_7, c_18, c_29, c_46, c_57, not_false_eq_true, not_true_eq_false, and_self, and_true, true_and, and_false, false_and, or_true, true_or, or_false, false_or, Bool.false_eq_true, if_true, if_false, ↓reduceIte]
                have hl : lv_has ls 6 [(5, .int (nI (k + 1))), (4, .int (svB g known day (hA σ 43 12 0) (hA σ 43 16 0) (hA σ 43 15 0) (k + 1))), (0, .ref (hO E 43)), (1, .int g), (2, .int known), (3, .int day)] := by
                  rw [← q4]
                  exact lv_sub hl [0, 1, 2, 3, 4, 5] rfl
                exact ih40 (k + 1) hk1 (by omega) _ _ _ M hl
              · skip
                refine lv_aload_n C.1 C.2.1 dX12_saved_60 rfl (lv_at hl 2 rfl) ?_
                refine g_getA C M 43 16 (by decide) rfl rfl (by decide) fl12_49 dX12_saved_61 ?_
                refine lv_iload C.1 C.2.1 dX12_saved_64 (lv_at hl 0 rfl) ?_
                refine g_iald C M 43 16 (by decide) rfl k (nI_clamp (by omega)) (vp_in_nI (by omega) (by decide)) (v := hA σ 43 16 0 k) rfl dX12_saved_66 ?_
                refine lv_iload_n C.1 C.2.1 dX12_saved_67 rfl (lv_at hl 4 rfl) ?_
                refine lv_icmp_gt (tgt := 109) C.1 C.2.1 dX12_saved_68 (by decide) (fun c_68 => ?_) (fun c_68 => ?_)
                · skip
                  refine lv_iinc (v := nI (k + 1)) (lv' := [(5, .int (nI (k + 1))), (4, .int (svB g known day (hA σ 43 12 0) (hA σ 43 16 0) (hA σ 43 15 0) k)), (0, .ref (hO E 43)), (1, .int g), (2, .int known), (3, .int day)]) C.1 C.2.1 dX12_saved_109 hl (k := 0) rfl (nI_succ _).symm (by decide) rfl (fun ls hl => ?_)
                  refine lv_goto (tgt := 40) C.1 C.2.1 dX12_saved_112 (by decide) ?_
                  have q5 : svB g known day (hA σ 43 12 0) (hA σ 43 16 0) (hA σ 43 15 0) k = svB g known day (hA σ 43 12 0) (hA σ 43 16 0) (hA σ 43 15 0) (k + 1) := by simp only [svB, c_7, c_18, c_29, c_46, c_57, c_68, not_false_eq_true, not_true_eq_false, and_self, and_true, true_and, and_false, false_and, or_true, true_or, or_false, false_or, Bool.false_eq_true, if_true, if_false, ↓reduceIte]
                  have hl : lv_has ls 6 [(5, .int (nI (k + 1))), (4, .int (svB g known day (hA σ 43 12 0) (hA σ 43 16 0) (hA σ 43 15 0) (k + 1))), (0, .ref (hO E 43)), (1, .int g), (2, .int known), (3, .int day)] := by
                    rw [← q5]
                    exact lv_sub hl [0, 1, 2, 3, 4, 5] rfl
                  exact ih40 (k + 1) hk1 (by omega) _ _ _ M hl
                · skip
                  refine lv_aload_n C.1 C.2.1 dX12_saved_71 rfl (lv_at hl 2 rfl) ?_
                  refine g_getA C M 43 15 (by decide) rfl rfl (by decide) fl12_46 dX12_saved_72 ?_
                  refine lv_iload C.1 C.2.1 dX12_saved_75 (lv_at hl 0 rfl) ?_
                  refine g_iald C M 43 15 (by decide) rfl k (nI_clamp (by omega)) (vp_in_nI (by omega) (by decide)) (v := hA σ 43 15 0 k) rfl dX12_saved_77 ?_
                  refine lv_iload_n C.1 C.2.1 dX12_saved_78 rfl (lv_at hl 5 rfl) ?_
                  refine lv_icmp_gt (tgt := 109) C.1 C.2.1 dX12_saved_79 (by decide) (fun c_79 => ?_) (fun c_79 => ?_)
                  · skip
                    refine lv_iinc (v := nI (k + 1)) (lv' := [(5, .int (nI (k + 1))), (4, .int (svB g known day (hA σ 43 12 0) (hA σ 43 16 0) (hA σ 43 15 0) k)), (0, .ref (hO E 43)), (1, .int g), (2, .int known), (3, .int day)]) C.1 C.2.1 dX12_saved_109 hl (k := 0) rfl (nI_succ _).symm (by decide) rfl (fun ls hl => ?_)
                    refine lv_goto (tgt := 40) C.1 C.2.1 dX12_saved_112 (by decide) ?_
                    have q6 : svB g known day (hA σ 43 12 0) (hA σ 43 16 0) (hA σ 43 15 0) k = svB g known day (hA σ 43 12 0) (hA σ 43 16 0) (hA σ 43 15 0) (k + 1) := by simp only [svB, c_7, c_18, c_29, c_46, c_57, c_68, c_79, not_false_eq_true, not_true_eq_false, and_self, and_true, true_and, and_false, false_and, or_true, true_or, or_false, false_or, Bool.false_eq_true, if_true, if_false, ↓reduceIte]
                    have hl : lv_has ls 6 [(5, .int (nI (k + 1))), (4, .int (svB g known day (hA σ 43 12 0) (hA σ 43 16 0) (hA σ 43 15 0) (k + 1))), (0, .ref (hO E 43)), (1, .int g), (2, .int known), (3, .int day)] := by
                      rw [← q6]
                      exact lv_sub hl [0, 1, 2, 3, 4, 5] rfl
                    exact ih40 (k + 1) hk1 (by omega) _ _ _ M hl
                  · skip
                    refine lv_iload C.1 C.2.1 dX12_saved_82 (lv_at hl 1 rfl) ?_
                    refine lv_iconst (v := (-1)) C.1 C.2.1 dX12_saved_84 (by decide) ?_
                    refine lv_icmp_eq (tgt := 105) C.1 C.2.1 dX12_saved_85 (by decide) (fun c_85 => ?_) (fun c_85 => ?_)
                    · skip
                      refine lv_iload C.1 C.2.1 dX12_saved_105 (lv_at hl 0 rfl) ?_
                      refine lv_istore (lv' := [(4, .int (nI k)), (5, .int (nI k)), (0, .ref (hO E 43)), (1, .int g), (2, .int known), (3, .int day)]) C.1 C.2.1 dX12_saved_107 hl (by decide) rfl (fun ls hl => ?_)
                      refine lv_iinc (v := nI (k + 1)) (lv' := [(5, .int (nI (k + 1))), (4, .int (nI k)), (0, .ref (hO E 43)), (1, .int g), (2, .int known), (3, .int day)]) C.1 C.2.1 dX12_saved_109 hl (k := 1) rfl (nI_succ _).symm (by decide) rfl (fun ls hl => ?_)
                      refine lv_goto (tgt := 40) C.1 C.2.1 dX12_saved_112 (by decide) ?_
                      have q7 : nI k = svB g known day (hA σ 43 12 0) (hA σ 43 16 0) (hA σ 43 15 0) (k + 1) := by simp only [svB, c_7, c_18, c_29, c_46, c_57, c_68, c_79, c_85, not_false_eq_true, not_true_eq_false, and_self, and_true, true_and, and_false, false_and, or_true, true_or, or_false, false_or, Bool.false_eq_true, if_true, if_false, ↓reduceIte]
                      have hl : lv_has ls 6 [(5, .int (nI (k + 1))), (4, .int (svB g known day (hA σ 43 12 0) (hA σ 43 16 0) (hA σ 43 15 0) (k + 1))), (0, .ref (hO E 43)), (1, .int g), (2, .int known), (3, .int day)] := by
                        rw [← q7]
                        exact lv_sub hl [0, 1, 2, 3, 4, 5] rfl
                      exact ih40 (k + 1) hk1 (by omega) _ _ _ M hl
                    · skip
                      refine lv_aload_n C.1 C.2.1 dX12_saved_88 rfl (lv_at hl 2 rfl) ?_
                      refine g_getA C M 43 15 (by decide) rfl rfl (by decide) fl12_46 dX12_saved_89 ?_
                      refine lv_iload C.1 C.2.1 dX12_saved_92 (lv_at hl 0 rfl) ?_
                      refine g_iald C M 43 15 (by decide) rfl k (nI_clamp (by omega)) (vp_in_nI (by omega) (by decide)) (v := hA σ 43 15 0 k) rfl dX12_saved_94 ?_
                      refine lv_aload_n C.1 C.2.1 dX12_saved_95 rfl (lv_at hl 2 rfl) ?_
                      refine g_getA C M 43 15 (by decide) rfl rfl (by decide) fl12_46 dX12_saved_96 ?_
                      refine lv_iload C.1 C.2.1 dX12_saved_99 (lv_at hl 1 rfl) ?_
                      refine g_iald C M 43 15 (by decide) rfl ((svB g known day (hA σ 43 12 0) (hA σ 43 16 0) (hA σ 43 15 0) k).toNatClampNeg) rfl (vp_in_or (svB_in _ _ _ _ _ _ k) c_85 (by omega) (by decide)) (v := hA σ 43 15 0 ((svB g known day (hA σ 43 12 0) (hA σ 43 16 0) (hA σ 43 15 0) k).toNatClampNeg)) rfl dX12_saved_101 ?_
                      refine lv_icmp_lt (tgt := 109) C.1 C.2.1 dX12_saved_102 (by decide) (fun c_102 => ?_) (fun c_102 => ?_)
                      · skip
                        refine lv_iinc (v := nI (k + 1)) (lv' := [(5, .int (nI (k + 1))), (4, .int (svB g known day (hA σ 43 12 0) (hA σ 43 16 0) (hA σ 43 15 0) k)), (0, .ref (hO E 43)), (1, .int g), (2, .int known), (3, .int day)]) C.1 C.2.1 dX12_saved_109 hl (k := 0) rfl (nI_succ _).symm (by decide) rfl (fun ls hl => ?_)
                        refine lv_goto (tgt := 40) C.1 C.2.1 dX12_saved_112 (by decide) ?_
                        have q8 : svB g known day (hA σ 43 12 0) (hA σ 43 16 0) (hA σ 43 15 0) k = svB g known day (hA σ 43 12 0) (hA σ 43 16 0) (hA σ 43 15 0) (k + 1) := by simp only [svB, c_7, c_18, c_29, c_46, c_57, c_68, c_79, c_85, c_102, not_false_eq_true, not_true_eq_false, and_self, and_true, true_and, and_false, false_and, or_true, true_or, or_false, false_or, Bool.false_eq_true, if_true, if_false, ↓reduceIte]
                        have hl : lv_has ls 6 [(5, .int (nI (k + 1))), (4, .int (svB g known day (hA σ 43 12 0) (hA σ 43 16 0) (hA σ 43 15 0) (k + 1))), (0, .ref (hO E 43)), (1, .int g), (2, .int known), (3, .int day)] := by
                          rw [← q8]
                          exact lv_sub hl [0, 1, 2, 3, 4, 5] rfl
                        exact ih40 (k + 1) hk1 (by omega) _ _ _ M hl
                      · skip
                        refine lv_iload C.1 C.2.1 dX12_saved_105 (lv_at hl 0 rfl) ?_
                        refine lv_istore (lv' := [(4, .int (nI k)), (5, .int (nI k)), (0, .ref (hO E 43)), (1, .int g), (2, .int known), (3, .int day)]) C.1 C.2.1 dX12_saved_107 hl (by decide) rfl (fun ls hl => ?_)
                        refine lv_iinc (v := nI (k + 1)) (lv' := [(5, .int (nI (k + 1))), (4, .int (nI k)), (0, .ref (hO E 43)), (1, .int g), (2, .int known), (3, .int day)]) C.1 C.2.1 dX12_saved_109 hl (k := 1) rfl (nI_succ _).symm (by decide) rfl (fun ls hl => ?_)
                        refine lv_goto (tgt := 40) C.1 C.2.1 dX12_saved_112 (by decide) ?_
                        have q9 : nI k = svB g known day (hA σ 43 12 0) (hA σ 43 16 0) (hA σ 43 15 0) (k + 1) := by simp only [svB, c_7, c_18, c_29, c_46, c_57, c_68, c_79, c_85, c_102, not_false_eq_true, not_true_eq_false, and_self, and_true, true_and, and_false, false_and, or_true, true_or, or_false, false_or, Bool.false_eq_true, if_true, if_false, ↓reduceIte]
                        have hl : lv_has ls 6 [(5, .int (nI (k + 1))), (4, .int (svB g known day (hA σ 43 12 0) (hA σ 43 16 0) (hA σ 43 15 0) (k + 1))), (0, .ref (hO E 43)), (1, .int g), (2, .int known), (3, .int day)] := by
                          rw [← q9]
                          exact lv_sub hl [0, 1, 2, 3, 4, 5] rfl
                        exact ih40 (k + 1) hk1 (by omega) _ _ _ M hl
        have q10 : 0 = nI 0 := by rfl
        have q11 : (-1) = svB g known day (hA σ 43 12 0) (hA σ 43 16 0) (hA σ 43 15 0) 0 := by rfl
        have hl : lv_has ls 6 [(5, .int (nI 0)), (4, .int (svB g known day (hA σ 43 12 0) (hA σ 43 16 0) (hA σ 43 15 0) 0)), (0, .ref (hO E 43)), (1, .int g), (2, .int known), (3, .int day)] := by
          rw [← q10, ← q11]
          exact lv_sub hl [0, 1, 2, 3, 4, 5] rfl
        exact L40 ((n - 0) + 1) 0 (Nat.zero_le _) (Nat.lt_succ_self _) _ _ _ M hl
      · skip
        have c_29 : ¬ inB day 0 5000 = true := bz_0.mp c_29
        refine lv_iconst (v := (-1)) C.1 C.2.1 dX12_saved_32 (by decide) ?_
        refine g_iret C M hr hlk ?_ (Nat.le_of_ble_eq_true rfl) (Nat.le_of_ble_eq_true rfl) dX12_saved_33
        simp only [mSvd, c_7, c_18, c_29, not_false_eq_true, not_true_eq_false, and_self, and_true, true_and, and_false, false_and, or_true, true_or, or_false, false_or, Bool.false_eq_true, if_true, if_false, ↓reduceIte]
end
section
def mPut (σ : hMem) (t : Nat) (x : Int32) : hMem := sI (sA (sI (sA (sI (sA (sI (sA σ 43 30 0 (upd (hA σ 43 30 0) t ((x >>> (24 &&& 31)).toInt8.toInt32))) 43 31 (nI (t + 1))) 43 30 0 (upd (upd (hA σ 43 30 0) t ((x >>> (24 &&& 31)).toInt8.toInt32)) (t + 1) ((x >>> (16 &&& 31)).toInt8.toInt32))) 43 31 (nI ((t + 1) + 1))) 43 30 0 (upd (upd (upd (hA σ 43 30 0) t ((x >>> (24 &&& 31)).toInt8.toInt32)) (t + 1) ((x >>> (16 &&& 31)).toInt8.toInt32)) ((t + 1) + 1) ((x >>> (8 &&& 31)).toInt8.toInt32))) 43 31 (nI (((t + 1) + 1) + 1))) 43 30 0 (upd (upd (upd (upd (hA σ 43 30 0) t ((x >>> (24 &&& 31)).toInt8.toInt32)) (t + 1) ((x >>> (16 &&& 31)).toInt8.toInt32)) ((t + 1) + 1) ((x >>> (8 &&& 31)).toInt8.toInt32)) (((t + 1) + 1) + 1) ((x >>> (0 &&& 31)).toInt8.toInt32))) 43 31 (nI (t + 1 + 1 + 1 + 1))

set_option maxHeartbeats 4000000 in
set_option maxRecDepth 100000 in
theorem m_put (l : Launch) (E : hEnv) (σ : hMem) (Z : va_W) (t : Nat) (ht : hI σ 43 31 = nI t) (ht4 : t + 4 ≤ 300) (x : Int32) : hMet l yX12_put cX12_put 3 none (0, 0, 0, 0) E σ Z [.ref (hO E 43), .int x] (hQv E (fun u => u = (mPut σ t x, Z))) := by
  refine hMet.of (by decide) (Nat.le_of_ble_eq_true rfl) (fun p e s m below meth c A ls C M hr hlk hl => ?_)
  have hl : lv_has ls 3 [(0, .ref (hO E 43)), (1, .int x)] := hl
  refine lv_bipush (v := 24) C.1 C.2.1 dX12_put_0 (by decide) ?_
  refine lv_istore_n (lv' := [(2, .int 24), (0, .ref (hO E 43)), (1, .int x)]) C.1 C.2.1 dX12_put_2 rfl hl (by decide) rfl (fun ls hl => ?_)
  refine lv_iload_n C.1 C.2.1 dX12_put_3 rfl (lv_at hl 0 rfl) ?_
  refine lv_if_lt (tgt := 36) C.1 C.2.1 dX12_put_4 (by decide) (fun h9 => absurd h9 (by decide)) (fun _ => ?_)
  refine lv_aload_n C.1 C.2.1 dX12_put_7 rfl (lv_at hl 1 rfl) ?_
  refine g_getA C M 43 30 (by decide) rfl rfl (by decide) fl12_81 dX12_put_8 ?_
  refine lv_aload_n C.1 C.2.1 dX12_put_11 rfl (lv_at hl 1 rfl) ?_
  refine g_getI C M 43 31 (by decide) rfl rfl (by decide) fl12_166 (v := nI t) ht dX12_put_12 ?_
  refine lv_iload_n C.1 C.2.1 dX12_put_15 rfl (lv_at hl 2 rfl) ?_
  refine lv_iload_n C.1 C.2.1 dX12_put_16 rfl (lv_at hl 0 rfl) ?_
  refine lv_ishr C.1 C.2.1 dX12_put_17 ?_
  refine lv_i2b C.1 C.2.1 dX12_put_18 rfl ?_
  refine g_bast C M 43 30 (by decide) rfl (pk_vb _) t (nI_clamp (by omega)) (vp_in_nI (by omega) (by decide)) dX12_put_19 (fun H locs M => ?_)
  have M : hM E A s H locs (sA σ 43 30 0 (upd (hA σ 43 30 0) t ((x >>> (24 &&& 31)).toInt8.toInt32))) Z := M
  refine lv_aload_n C.1 C.2.1 dX12_put_20 rfl (lv_at hl 1 rfl) ?_
  refine lv_dup C.1 C.2.1 dX12_put_21 rfl ?_
  refine g_getI C M 43 31 (by decide) rfl rfl (by decide) fl12_166 (v := nI t) ht dX12_put_22 ?_
  refine lv_iconst (v := 1) C.1 C.2.1 dX12_put_25 (by decide) ?_
  refine lv_iadd C.1 C.2.1 dX12_put_26 ?_
  refine g_rei (v := nI (t + 1)) (nI_1 _) ?_
  refine g_putI C M 43 31 (by decide) rfl rfl (by decide) fl12_166 rfl rfl dX12_put_27 (fun H locs M => ?_)
  refine lv_iinc (v := 16) (lv' := [(2, .int 16), (0, .ref (hO E 43)), (1, .int x)]) C.1 C.2.1 dX12_put_30 hl (k := 0) rfl (by decide) (by decide) rfl (fun ls hl => ?_)
  refine lv_goto (tgt := 3) C.1 C.2.1 dX12_put_33 (by decide) ?_
  refine lv_iload_n C.1 C.2.1 dX12_put_3 rfl (lv_at hl 0 rfl) ?_
  refine lv_if_lt (tgt := 36) C.1 C.2.1 dX12_put_4 (by decide) (fun h9 => absurd h9 (by decide)) (fun _ => ?_)
  refine lv_aload_n C.1 C.2.1 dX12_put_7 rfl (lv_at hl 1 rfl) ?_
  refine g_getA C M 43 30 (by decide) rfl rfl (by decide) fl12_81 dX12_put_8 ?_
  refine lv_aload_n C.1 C.2.1 dX12_put_11 rfl (lv_at hl 1 rfl) ?_
  refine g_getI C M 43 31 (by decide) rfl rfl (by decide) fl12_166 (v := nI (t + 1)) rfl dX12_put_12 ?_
  refine lv_iload_n C.1 C.2.1 dX12_put_15 rfl (lv_at hl 2 rfl) ?_
  refine lv_iload_n C.1 C.2.1 dX12_put_16 rfl (lv_at hl 0 rfl) ?_
  refine lv_ishr C.1 C.2.1 dX12_put_17 ?_
  refine lv_i2b C.1 C.2.1 dX12_put_18 rfl ?_
  refine g_bast C M 43 30 (by decide) rfl (pk_vb _) (t + 1) (nI_clamp (by omega)) (vp_in_nI (by omega) (by decide)) dX12_put_19 (fun H locs M => ?_)
  have M : hM E A s H locs (sA (sI (sA σ 43 30 0 (upd (hA σ 43 30 0) t ((x >>> (24 &&& 31)).toInt8.toInt32))) 43 31 (nI (t + 1))) 43 30 0 (upd (upd (hA σ 43 30 0) t ((x >>> (24 &&& 31)).toInt8.toInt32)) (t + 1) ((x >>> (16 &&& 31)).toInt8.toInt32))) Z := M
  refine lv_aload_n C.1 C.2.1 dX12_put_20 rfl (lv_at hl 1 rfl) ?_
  refine lv_dup C.1 C.2.1 dX12_put_21 rfl ?_
  refine g_getI C M 43 31 (by decide) rfl rfl (by decide) fl12_166 (v := nI (t + 1)) rfl dX12_put_22 ?_
  refine lv_iconst (v := 1) C.1 C.2.1 dX12_put_25 (by decide) ?_
  refine lv_iadd C.1 C.2.1 dX12_put_26 ?_
  refine g_rei (v := nI ((t + 1) + 1)) (nI_1 _) ?_
  refine g_putI C M 43 31 (by decide) rfl rfl (by decide) fl12_166 rfl rfl dX12_put_27 (fun H locs M => ?_)
  refine lv_iinc (v := 8) (lv' := [(2, .int 8), (0, .ref (hO E 43)), (1, .int x)]) C.1 C.2.1 dX12_put_30 hl (k := 0) rfl (by decide) (by decide) rfl (fun ls hl => ?_)
  refine lv_goto (tgt := 3) C.1 C.2.1 dX12_put_33 (by decide) ?_
  refine lv_iload_n C.1 C.2.1 dX12_put_3 rfl (lv_at hl 0 rfl) ?_
  refine lv_if_lt (tgt := 36) C.1 C.2.1 dX12_put_4 (by decide) (fun h9 => absurd h9 (by decide)) (fun _ => ?_)
  refine lv_aload_n C.1 C.2.1 dX12_put_7 rfl (lv_at hl 1 rfl) ?_
  refine g_getA C M 43 30 (by decide) rfl rfl (by decide) fl12_81 dX12_put_8 ?_
  refine lv_aload_n C.1 C.2.1 dX12_put_11 rfl (lv_at hl 1 rfl) ?_
  refine g_getI C M 43 31 (by decide) rfl rfl (by decide) fl12_166 (v := nI ((t + 1) + 1)) rfl dX12_put_12 ?_
  refine lv_iload_n C.1 C.2.1 dX12_put_15 rfl (lv_at hl 2 rfl) ?_
  refine lv_iload_n C.1 C.2.1 dX12_put_16 rfl (lv_at hl 0 rfl) ?_
  refine lv_ishr C.1 C.2.1 dX12_put_17 ?_
  refine lv_i2b C.1 C.2.1 dX12_put_18 rfl ?_
  refine g_bast C M 43 30 (by decide) rfl (pk_vb _) ((t + 1) + 1) (nI_clamp (by omega)) (vp_in_nI (by omega) (by decide)) dX12_put_19 (fun H locs M => ?_)
  have M : hM E A s H locs (sA (sI (sA (sI (sA σ 43 30 0 (upd (hA σ 43 30 0) t ((x >>> (24 &&& 31)).toInt8.toInt32))) 43 31 (nI (t + 1))) 43 30 0 (upd (upd (hA σ 43 30 0) t ((x >>> (24 &&& 31)).toInt8.toInt32)) (t + 1) ((x >>> (16 &&& 31)).toInt8.toInt32))) 43 31 (nI ((t + 1) + 1))) 43 30 0 (upd (upd (upd (hA σ 43 30 0) t ((x >>> (24 &&& 31)).toInt8.toInt32)) (t + 1) ((x >>> (16 &&& 31)).toInt8.toInt32)) ((t + 1) + 1) ((x >>> (8 &&& 31)).toInt8.toInt32))) Z := M
  refine lv_aload_n C.1 C.2.1 dX12_put_20 rfl (lv_at hl 1 rfl) ?_
  refine lv_dup C.1 C.2.1 dX12_put_21 rfl ?_
  refine g_getI C M 43 31 (by decide) rfl rfl (by decide) fl12_166 (v := nI ((t + 1) + 1)) rfl dX12_put_22 ?_
  refine lv_iconst (v := 1) C.1 C.2.1 dX12_put_25 (by decide) ?_
  refine lv_iadd C.1 C.2.1 dX12_put_26 ?_
  refine g_rei (v := nI (((t + 1) + 1) + 1)) (nI_1 _) ?_
  refine g_putI C M 43 31 (by decide) rfl rfl (by decide) fl12_166 rfl rfl dX12_put_27 (fun H locs M => ?_)
  refine lv_iinc (v := 0) (lv' := [(2, .int 0), (0, .ref (hO E 43)), (1, .int x)]) C.1 C.2.1 dX12_put_30 hl (k := 0) rfl (by decide) (by decide) rfl (fun ls hl => ?_)
  refine lv_goto (tgt := 3) C.1 C.2.1 dX12_put_33 (by decide) ?_
  refine lv_iload_n C.1 C.2.1 dX12_put_3 rfl (lv_at hl 0 rfl) ?_
  refine lv_if_lt (tgt := 36) C.1 C.2.1 dX12_put_4 (by decide) (fun h9 => absurd h9 (by decide)) (fun _ => ?_)
  refine lv_aload_n C.1 C.2.1 dX12_put_7 rfl (lv_at hl 1 rfl) ?_
  refine g_getA C M 43 30 (by decide) rfl rfl (by decide) fl12_81 dX12_put_8 ?_
  refine lv_aload_n C.1 C.2.1 dX12_put_11 rfl (lv_at hl 1 rfl) ?_
  refine g_getI C M 43 31 (by decide) rfl rfl (by decide) fl12_166 (v := nI (((t + 1) + 1) + 1)) rfl dX12_put_12 ?_
  refine lv_iload_n C.1 C.2.1 dX12_put_15 rfl (lv_at hl 2 rfl) ?_
  refine lv_iload_n C.1 C.2.1 dX12_put_16 rfl (lv_at hl 0 rfl) ?_
  refine lv_ishr C.1 C.2.1 dX12_put_17 ?_
  refine lv_i2b C.1 C.2.1 dX12_put_18 rfl ?_
  refine g_bast C M 43 30 (by decide) rfl (pk_vb _) (((t + 1) + 1) + 1) (nI_clamp (by omega)) (vp_in_nI (by omega) (by decide)) dX12_put_19 (fun H locs M => ?_)
  have M : hM E A s H locs (sA (sI (sA (sI (sA (sI (sA σ 43 30 0 (upd (hA σ 43 30 0) t ((x >>> (24 &&& 31)).toInt8.toInt32))) 43 31 (nI (t + 1))) 43 30 0 (upd (upd (hA σ 43 30 0) t ((x >>> (24 &&& 31)).toInt8.toInt32)) (t + 1) ((x >>> (16 &&& 31)).toInt8.toInt32))) 43 31 (nI ((t + 1) + 1))) 43 30 0 (upd (upd (upd (hA σ 43 30 0) t ((x >>> (24 &&& 31)).toInt8.toInt32)) (t + 1) ((x >>> (16 &&& 31)).toInt8.toInt32)) ((t + 1) + 1) ((x >>> (8 &&& 31)).toInt8.toInt32))) 43 31 (nI (((t + 1) + 1) + 1))) 43 30 0 (upd (upd (upd (upd (hA σ 43 30 0) t ((x >>> (24 &&& 31)).toInt8.toInt32)) (t + 1) ((x >>> (16 &&& 31)).toInt8.toInt32)) ((t + 1) + 1) ((x >>> (8 &&& 31)).toInt8.toInt32)) (((t + 1) + 1) + 1) ((x >>> (0 &&& 31)).toInt8.toInt32))) Z := M
  refine lv_aload_n C.1 C.2.1 dX12_put_20 rfl (lv_at hl 1 rfl) ?_
  refine lv_dup C.1 C.2.1 dX12_put_21 rfl ?_
  refine g_getI C M 43 31 (by decide) rfl rfl (by decide) fl12_166 (v := nI (((t + 1) + 1) + 1)) rfl dX12_put_22 ?_
  refine lv_iconst (v := 1) C.1 C.2.1 dX12_put_25 (by decide) ?_
  refine lv_iadd C.1 C.2.1 dX12_put_26 ?_
  refine g_rei (v := nI ((((t + 1) + 1) + 1) + 1)) (nI_1 _) ?_
  refine g_putI C M 43 31 (by decide) rfl rfl (by decide) fl12_166 rfl rfl dX12_put_27 (fun H locs M => ?_)
  refine lv_iinc (v := (-8)) (lv' := [(2, .int (-8)), (0, .ref (hO E 43)), (1, .int x)]) C.1 C.2.1 dX12_put_30 hl (k := 0) rfl (by decide) (by decide) rfl (fun ls hl => ?_)
  refine lv_goto (tgt := 3) C.1 C.2.1 dX12_put_33 (by decide) ?_
  refine lv_iload_n C.1 C.2.1 dX12_put_3 rfl (lv_at hl 0 rfl) ?_
  refine lv_if_lt (tgt := 36) C.1 C.2.1 dX12_put_4 (by decide) (fun _ => ?_) (fun h9 => absurd (by decide) h9)
  refine g_vret C M hr hlk ?_ (Nat.le_of_ble_eq_true rfl) (Nat.le_of_ble_eq_true rfl) dX12_put_36
  rfl

theorem mPut_t (σ : hMem) (t : Nat) (x : Int32) : hI (mPut σ t x) 43 31 = nI (t + 4) := rfl
def mFeed (σ : hMem) (t : Nat) (a b c d e : Int32) : hMem := mPut (mPut (mPut (mPut (mPut σ t a) (t + 4) b) (t + 4 + 4) c) (t + 4 + 4 + 4) d) (t + 4 + 4 + 4 + 4) e

set_option maxHeartbeats 4000000 in
set_option maxRecDepth 100000 in
theorem m_feed (l : Launch) (E : hEnv) (σ : hMem) (Z : va_W) (t : Nat) (ht : hI σ 43 31 = nI t) (ht3 : t ≤ 300) (a9 b9 c9 d9 e9 : Int32) : hMet l yX12_feed cX12_feed 6 (some .int) (1, 0, 0, 22) E σ Z [.ref (hO E 43), .int a9, .int b9, .int c9, .int d9, .int e9] (hQi E (fun r u => r = (if t + 20 ≤ 300 then nI (t + 20) else -1) ∧ u = (if t + 20 ≤ 300 then mFeed σ t a9 b9 c9 d9 e9 else σ, Z))) := by
  refine hMet.of (by decide) (Nat.le_of_ble_eq_true rfl) (fun p e s m below meth c A ls C M hr hlk hl => ?_)
  have hl : lv_has ls 6 [(0, .ref (hO E 43)), (1, .int a9), (2, .int b9), (3, .int c9), (4, .int d9), (5, .int e9)] := hl
  refine lv_aload_n C.1 C.2.1 dX12_feed_0 rfl (lv_at hl 0 rfl) ?_
  refine g_getI C M 43 31 (by decide) rfl rfl (by decide) fl12_166 (v := nI t) ht dX12_feed_1 ?_
  refine lv_bipush (v := 20) C.1 C.2.1 dX12_feed_4 (by decide) ?_
  refine lv_iadd C.1 C.2.1 dX12_feed_6 ?_
  refine g_rei (v := nI (t + 20)) (nI_add _ 20) ?_
  refine lv_sipush (v := 300) C.1 C.2.1 dX12_feed_7 (by decide) ?_
  refine lv_icmp_le (tgt := 15) C.1 C.2.1 dX12_feed_10 (by decide) (fun c_10 => ?_) (fun c_10 => ?_)
  · skip
    have h20 : t + 20 ≤ 300 := ct_ge c_10
    refine lv_aload_n C.1 C.2.1 dX12_feed_15 rfl (lv_at hl 0 rfl) ?_
    refine lv_iload_n C.1 C.2.1 dX12_feed_16 rfl (lv_at hl 1 rfl) ?_
    refine g_callv M (g_runV (As := [.int a9]) (rest := []) C M 43 (m_put l E σ Z t ht (by omega) a9) clX12_put ivX12_put lk12_169 (by decide) rfl rfl ⟨Nat.le_of_ble_eq_true rfl, Nat.le_of_ble_eq_true rfl⟩ hl.1 rfl (Nat.le_of_ble_eq_true rfl) dX12_feed_17 ⟨Nat.le_of_ble_eq_true rfl, Nat.le_of_ble_eq_true rfl⟩) (fun u H locs hR M => ?_)
    refine W.widen (k := 0) (n := 0) (Nat.le_of_ble_eq_true rfl) (Nat.le_of_ble_eq_true rfl) ?_
    subst hR
    have M : hM E A s H locs (mPut σ t a9) Z := M
    refine lv_aload_n C.1 C.2.1 dX12_feed_20 rfl (lv_at hl 0 rfl) ?_
    refine lv_iload_n C.1 C.2.1 dX12_feed_21 rfl (lv_at hl 2 rfl) ?_
    refine g_callv M (g_runV (As := [.int b9]) (rest := []) C M 43 (m_put l E (mPut σ t a9) Z (t + 4) (mPut_t _ _ _) (by omega) b9) clX12_put ivX12_put lk12_169 (by decide) rfl rfl ⟨Nat.le_of_ble_eq_true rfl, Nat.le_of_ble_eq_true rfl⟩ hl.1 rfl (Nat.le_of_ble_eq_true rfl) dX12_feed_22 ⟨Nat.le_of_ble_eq_true rfl, Nat.le_of_ble_eq_true rfl⟩) (fun u H locs hR M => ?_)
    refine W.widen (k := 0) (n := 0) (Nat.le_of_ble_eq_true rfl) (Nat.le_of_ble_eq_true rfl) ?_
    subst hR
    have M : hM E A s H locs (mPut (mPut σ t a9) (t + 4) b9) Z := M
    refine lv_aload_n C.1 C.2.1 dX12_feed_25 rfl (lv_at hl 0 rfl) ?_
    refine lv_iload_n C.1 C.2.1 dX12_feed_26 rfl (lv_at hl 3 rfl) ?_
    refine g_callv M (g_runV (As := [.int c9]) (rest := []) C M 43 (m_put l E (mPut (mPut σ t a9) (t + 4) b9) Z (t + 4 + 4) (mPut_t _ _ _) (by omega) c9) clX12_put ivX12_put lk12_169 (by decide) rfl rfl ⟨Nat.le_of_ble_eq_true rfl, Nat.le_of_ble_eq_true rfl⟩ hl.1 rfl (Nat.le_of_ble_eq_true rfl) dX12_feed_27 ⟨Nat.le_of_ble_eq_true rfl, Nat.le_of_ble_eq_true rfl⟩) (fun u H locs hR M => ?_)
    refine W.widen (k := 0) (n := 0) (Nat.le_of_ble_eq_true rfl) (Nat.le_of_ble_eq_true rfl) ?_
    subst hR
    have M : hM E A s H locs (mPut (mPut (mPut σ t a9) (t + 4) b9) (t + 4 + 4) c9) Z := M
    refine lv_aload_n C.1 C.2.1 dX12_feed_30 rfl (lv_at hl 0 rfl) ?_
    refine lv_iload C.1 C.2.1 dX12_feed_31 (lv_at hl 4 rfl) ?_
    refine g_callv M (g_runV (As := [.int d9]) (rest := []) C M 43 (m_put l E (mPut (mPut (mPut σ t a9) (t + 4) b9) (t + 4 + 4) c9) Z (t + 4 + 4 + 4) (mPut_t _ _ _) (by omega) d9) clX12_put ivX12_put lk12_169 (by decide) rfl rfl ⟨Nat.le_of_ble_eq_true rfl, Nat.le_of_ble_eq_true rfl⟩ hl.1 rfl (Nat.le_of_ble_eq_true rfl) dX12_feed_33 ⟨Nat.le_of_ble_eq_true rfl, Nat.le_of_ble_eq_true rfl⟩) (fun u H locs hR M => ?_)
    refine W.widen (k := 0) (n := 0) (Nat.le_of_ble_eq_true rfl) (Nat.le_of_ble_eq_true rfl) ?_
    subst hR
    have M : hM E A s H locs (mPut (mPut (mPut (mPut σ t a9) (t + 4) b9) (t + 4 + 4) c9) (t + 4 + 4 + 4) d9) Z := M
    refine lv_aload_n C.1 C.2.1 dX12_feed_36 rfl (lv_at hl 0 rfl) ?_
    refine lv_iload C.1 C.2.1 dX12_feed_37 (lv_at hl 5 rfl) ?_
    refine g_callv M (g_runV (As := [.int e9]) (rest := []) C M 43 (m_put l E (mPut (mPut (mPut (mPut σ t a9) (t + 4) b9) (t + 4 + 4) c9) (t + 4 + 4 + 4) d9) Z (t + 4 + 4 + 4 + 4) (mPut_t _ _ _) (by omega) e9) clX12_put ivX12_put lk12_169 (by decide) rfl rfl ⟨Nat.le_of_ble_eq_true rfl, Nat.le_of_ble_eq_true rfl⟩ hl.1 rfl (Nat.le_of_ble_eq_true rfl) dX12_feed_39 ⟨Nat.le_of_ble_eq_true rfl, Nat.le_of_ble_eq_true rfl⟩) (fun u H locs hR M => ?_)
    refine W.widen (k := 0) (n := 0) (Nat.le_of_ble_eq_true rfl) (Nat.le_of_ble_eq_true rfl) ?_
    subst hR
    have M : hM E A s H locs (mPut (mPut (mPut (mPut (mPut σ t a9) (t + 4) b9) (t + 4 + 4) c9) (t + 4 + 4 + 4) d9) (t + 4 + 4 + 4 + 4) e9) Z := M
    refine lv_aload_n C.1 C.2.1 dX12_feed_42 rfl (lv_at hl 0 rfl) ?_
    refine g_getI C M 43 31 (by decide) rfl rfl (by decide) fl12_166 (v := nI (t + 20)) (mPut_t _ _ _) dX12_feed_43 ?_
    refine g_iret C M hr hlk ?_ (Nat.le_of_ble_eq_true rfl) (Nat.le_of_ble_eq_true rfl) dX12_feed_46
    rw [if_pos h20, if_pos h20]; exact ⟨rfl, rfl⟩
  · skip
    have h20 : ¬ t + 20 ≤ 300 := by have := ct_nge (n := t + 20) (k := 300) c_10; omega
    refine lv_iconst (v := (-1)) C.1 C.2.1 dX12_feed_13 (by decide) ?_
    refine g_iret C M hr hlk ?_ (Nat.le_of_ble_eq_true rfl) (Nat.le_of_ble_eq_true rfl) dX12_feed_14
    rw [if_neg h20, if_neg h20]; exact ⟨rfl, rfl⟩
end
section
def mHw (a b c d : Int64) (k : Nat) : Int32 := ((if 16 ≤ nI k then (if 32 ≤ nI k then (if 48 ≤ nI k then d else c) else b) else a) >>> ((nI (4 * (k % 16))).toInt64 &&& 63) &&& 15).toInt32
def shtOk (n : Int32) (N : Nat) (w : Nat → Int32) : Prop := n = nI N ∧ 1 ≤ N ∧ N ≤ 60 ∧ ∀ k, k < N → inB (w k) 1 9 = true
def mSht (σ : hMem) (N : Nat) (w : Nat → Int32) : hMem := sI (sI (sA σ 43 37 0 (pre w (hA σ 43 37 0) N)) 43 36 (nI N)) 43 35 1

set_option maxHeartbeats 4000000 in
set_option maxRecDepth 100000 in
theorem m_sheet (l : Launch) (E : hEnv) (σ : hMem) (Z : va_W) (n : Int32) (a b c9 d : Int64) : hMet l yX12_sheet cX12_sheet 14 (some .boolean) (1, 1, 60, 22) E σ Z [.ref (hO E 43), .int n, .long a, .long b, .long c9, .long d] (hQi E (fun r u => (∃ N, shtOk n N (mHw a b c9 d) ∧ r = 1 ∧ u = (mSht σ N (mHw a b c9 d), Z)) ∨ ((∀ N, ¬ shtOk n N (mHw a b c9 d)) ∧ r = 0 ∧ u = (σ, Z)))) := by
  refine hMet.of (by decide) (Nat.le_of_ble_eq_true rfl) (fun p e s m below meth c A ls C M hr hlk hl => ?_)
  have hl : lv_has ls 14 [(0, .ref (hO E 43)), (1, .int n), (2, .long a), (4, .long b), (6, .long c9), (8, .long d)] := hl
  refine lv_iload_n C.1 C.2.1 dX12_sheet_0 rfl (lv_at hl 1 rfl) ?_
  refine lv_iconst (v := 1) C.1 C.2.1 dX12_sheet_1 (by decide) ?_
  refine lv_bipush (v := 60) C.1 C.2.1 dX12_sheet_2 (by decide) ?_
  refine g_calli M (g_runS (As := [.int n, .int 1, .int 60]) (rest := []) C M (m_in l E σ Z n 1 60) clX12_in stX12_in lk12_131 rfl ⟨Nat.le_of_ble_eq_true rfl, Nat.le_of_ble_eq_true rfl⟩ hl.1 rfl (Nat.le_of_ble_eq_true rfl) dX12_sheet_4 ⟨Nat.le_of_ble_eq_true rfl, Nat.le_of_ble_eq_true rfl⟩) (fun r1 u H locs hR M => ?_)
  refine W.widen (k := 0) (n := 0) (Nat.le_of_ble_eq_true rfl) (Nat.le_of_ble_eq_true rfl) ?_
  obtain ⟨rfl, rfl⟩ := hR
  have M : hM E A s H locs σ Z := M
  refine lv_if_ne (tgt := 12) C.1 C.2.1 dX12_sheet_7 (by decide) (fun c_7 => ?_) (fun c_7 => ?_)
  · skip
    have c_7 : inB n 1 60 = true := bz_ne0.mp c_7
    obtain ⟨N, hN1, hN60, hN⟩ := nI_in1 (lo := 1) c_7 (hi := 60) rfl (by decide) (by decide)
    have hl : lv_has ls 14 [(0, .ref (hO E 43)), (1, .int (nI N)), (2, .long a), (4, .long b), (6, .long c9), (8, .long d)] := by rw [← hN]; exact hl
    refine lv_bipush (v := 60) C.1 C.2.1 dX12_sheet_12 (by decide) ?_
    refine g_newi C M (k := 60) ac_int (by decide) (by decide) (by decide) (Nat.le_of_ble_eq_true rfl) (Nat.le_of_ble_eq_true rfl) dX12_sheet_14 (fun a2 H M => ?_)
    have M : hM E A s H locs σ (Z ++ [(a2, .inl (E.2.1 0, 60, .inl (fun _ => 0)))]) := M
    refine lv_astore (lv' := [(10, .ref a2), (0, .ref (hO E 43)), (1, .int (nI N)), (2, .long a), (4, .long b), (6, .long c9), (8, .long d)]) C.1 C.2.1 dX12_sheet_16 hl (by decide) rfl (fun ls hl => ?_)
    refine lv_iconst (v := 0) C.1 C.2.1 dX12_sheet_18 (by decide) ?_
    refine lv_istore (lv' := [(11, .int 0), (10, .ref a2), (0, .ref (hO E 43)), (1, .int (nI N)), (2, .long a), (4, .long b), (6, .long c9), (8, .long d)]) C.1 C.2.1 dX12_sheet_19 hl (by decide) rfl (fun ls hl => ?_)
    have L21 : ∀ (n9 : Nat) (k : Nat), (k ≤ N) → (∀ i, i < k → inB (mHw a b c9 d i) 1 9 = true) → N - k < n9 → ∀ (H : Heap) (locs : List Loc) (ls : Array Slot), hM E A s H locs σ (Z ++ [(a2, .inl (E.2.1 0, 60, .inl (pre (mHw a b c9 d) (fun _ => 0) k)))]) → lv_has ls 14 [(11, .int (nI k)), (0, .ref (hO E 43)), (1, .int (nI N)), (2, .long a), (4, .long b), (6, .long c9), (8, .long d), (10, .ref a2)] → W p l e (hRm (1, 1, 60, 22)) s m [.ref (hO E 43), .int n, .long a, .long b, .long c9, .long d].toArray below meth c H locs 1 60 (MQ below (hQi E (fun r u => (∃ N, shtOk n N (mHw a b c9 d) ∧ r = 1 ∧ u = (mSht σ N (mHw a b c9 d), Z)) ∨ ((∀ N, ¬ shtOk n N (mHw a b c9 d)) ∧ r = 0 ∧ u = (σ, Z))) A) [.ref (hO E 43), .int n, .long a, .long b, .long c9, .long d].toArray s 1 60 A) (F0 m 21 ls []) := by
      intro n9
      induction n9 with
      | zero =>
        intro k hk hw hn9
        exact absurd hn9 (Nat.not_lt_zero _)
      | succ n9 ih21 =>
        intro k hk hw hn21 H locs ls M hl
        refine lv_iload C.1 C.2.1 dX12_sheet_21 (lv_at hl 0 rfl) ?_
        refine lv_iload_n C.1 C.2.1 dX12_sheet_23 rfl (lv_at hl 2 rfl) ?_
        refine lv_icmp_ge (tgt := 108) C.1 C.2.1 dX12_sheet_24 (by decide) (fun c_24 => ?_) (fun c_24 => ?_)
        · skip
          have hkn : k = N := by have := ct_ge c_24; omega
          have hl : lv_has ls 14 [(11, .int (nI N)), (0, .ref (hO E 43)), (1, .int (nI N)), (2, .long a), (4, .long b), (6, .long c9), (8, .long d), (10, .ref a2)] := by first | exact hl | (rw [hkn] at hl; exact hl)
          have M : hM E A s H locs σ (Z ++ [(a2, .inl (E.2.1 0, 60, .inl (pre (mHw a b c9 d) (fun _ => 0) N)))]) := by first | exact M | (rw [hkn] at M; exact M)
          have hw9 : ∀ i, i < N → inB (mHw a b c9 d i) 1 9 = true := by rw [← hkn]; exact hw
          refine lv_iconst (v := 0) C.1 C.2.1 dX12_sheet_108 (by decide) ?_
          refine lv_istore (lv' := [(11, .int 0), (0, .ref (hO E 43)), (1, .int (nI N)), (2, .long a), (4, .long b), (6, .long c9), (8, .long d), (10, .ref a2)]) C.1 C.2.1 dX12_sheet_109 hl (by decide) rfl (fun ls hl => ?_)
          have L111 : ∀ (n9 : Nat) (k : Nat), (k ≤ N) → N - k < n9 → ∀ (H : Heap) (locs : List Loc) (ls : Array Slot), hM E A s H locs (sA σ 43 37 0 (pre (mHw a b c9 d) (hA σ 43 37 0) k)) (Z ++ [(a2, .inl (E.2.1 0, 60, .inl (pre (mHw a b c9 d) (fun _ => 0) N)))]) → lv_has ls 14 [(11, .int (nI k)), (0, .ref (hO E 43)), (1, .int (nI N)), (10, .ref a2)] → W p l e (hRm (1, 1, 60, 22)) s m [.ref (hO E 43), .int n, .long a, .long b, .long c9, .long d].toArray below meth c H locs 1 60 (MQ below (hQi E (fun r u => (∃ N, shtOk n N (mHw a b c9 d) ∧ r = 1 ∧ u = (mSht σ N (mHw a b c9 d), Z)) ∨ ((∀ N, ¬ shtOk n N (mHw a b c9 d)) ∧ r = 0 ∧ u = (σ, Z))) A) [.ref (hO E 43), .int n, .long a, .long b, .long c9, .long d].toArray s 1 60 A) (F0 m 111 ls []) := by
            intro n9
            induction n9 with
            | zero =>
              intro k hk hn9
              exact absurd hn9 (Nat.not_lt_zero _)
            | succ n9 ih111 =>
              intro k hk hn111 H locs ls M hl
              refine lv_iload C.1 C.2.1 dX12_sheet_111 (lv_at hl 0 rfl) ?_
              refine lv_iload_n C.1 C.2.1 dX12_sheet_113 rfl (lv_at hl 2 rfl) ?_
              refine lv_icmp_ge (tgt := 135) C.1 C.2.1 dX12_sheet_114 (by decide) (fun c_114 => ?_) (fun c_114 => ?_)
              · skip
                have hkn : k = N := by have := ct_ge c_114; omega
                have hl : lv_has ls 14 [(11, .int (nI N)), (0, .ref (hO E 43)), (1, .int (nI N)), (10, .ref a2)] := by first | exact hl | (rw [hkn] at hl; exact hl)
                have M : hM E A s H locs (sA σ 43 37 0 (pre (mHw a b c9 d) (hA σ 43 37 0) N)) (Z ++ [(a2, .inl (E.2.1 0, 60, .inl (pre (mHw a b c9 d) (fun _ => 0) N)))]) := by first | exact M | (rw [hkn] at M; exact M)
                refine lv_aload_n C.1 C.2.1 dX12_sheet_135 rfl (lv_at hl 1 rfl) ?_
                refine lv_iload_n C.1 C.2.1 dX12_sheet_136 rfl (lv_at hl 2 rfl) ?_
                refine g_putI C M 43 36 (by decide) rfl rfl (by decide) fl12_259 rfl rfl dX12_sheet_137 (fun H locs M => ?_)
                refine lv_aload_n C.1 C.2.1 dX12_sheet_140 rfl (lv_at hl 1 rfl) ?_
                refine lv_iconst (v := 1) C.1 C.2.1 dX12_sheet_141 (by decide) ?_
                refine g_putZ C M 43 35 (Or.inr rfl) (by decide) rfl rfl (by decide) fl12_262 rfl rfl dX12_sheet_142 (fun H locs M => ?_)
                refine lv_iconst (v := 1) C.1 C.2.1 dX12_sheet_145 (by decide) ?_
                refine g_zret rfl C M.drop hr hlk ?_ (Nat.le_of_ble_eq_true rfl) (Nat.le_of_ble_eq_true rfl) dX12_sheet_146
                exact Or.inl ⟨N, ⟨hN, hN1, hN60, hw9⟩, rfl, rfl⟩
              · skip
                have hk1 : k < N := ct_nge c_114
                refine lv_aload_n C.1 C.2.1 dX12_sheet_117 rfl (lv_at hl 1 rfl) ?_
                refine g_getA C M 43 37 (by decide) rfl rfl (by decide) fl12_85 dX12_sheet_118 ?_
                refine lv_iload C.1 C.2.1 dX12_sheet_121 (lv_at hl 0 rfl) ?_
                refine lv_aload C.1 C.2.1 dX12_sheet_123 (lv_at hl 3 rfl) ?_
                refine lv_iload C.1 C.2.1 dX12_sheet_125 (lv_at hl 0 rfl) ?_
                refine g_xiald C M Z.length zat0 k (nI_clamp (by omega)) (vp_in_nI (by omega) (by decide)) (v := (pre (mHw a b c9 d) (fun _ => 0) N) k) rfl dX12_sheet_127 ?_
                refine g_iast C M 43 37 (by decide) rfl k (nI_clamp (by omega)) (vp_in_nI (by omega) (by decide)) dX12_sheet_128 (fun H locs M => ?_)
                have M : hM E A s H locs (sA (sA σ 43 37 0 (pre (mHw a b c9 d) (hA σ 43 37 0) k)) 43 37 0 (upd (pre (mHw a b c9 d) (hA σ 43 37 0) k) k ((pre (mHw a b c9 d) (fun _ => 0) N) k))) (Z ++ [(a2, .inl (E.2.1 0, 60, .inl (pre (mHw a b c9 d) (fun _ => 0) N)))]) := M
                refine lv_iinc (v := nI (k + 1)) (lv' := [(11, .int (nI (k + 1))), (0, .ref (hO E 43)), (1, .int (nI N)), (10, .ref a2)]) C.1 C.2.1 dX12_sheet_129 hl (k := 0) rfl (nI_succ _).symm (by decide) rfl (fun ls hl => ?_)
                refine lv_goto (tgt := 111) C.1 C.2.1 dX12_sheet_132 (by decide) ?_
                have q3 : (sA (sA σ 43 37 0 (pre (mHw a b c9 d) (hA σ 43 37 0) k)) 43 37 0 (upd (pre (mHw a b c9 d) (hA σ 43 37 0) k) k ((pre (mHw a b c9 d) (fun _ => 0) N) k))) = (sA σ 43 37 0 (pre (mHw a b c9 d) (hA σ 43 37 0) (k + 1))) := by first | exact (sA_self _ _ _ _).trans (by rw [← pre_0]) | (rw [sA_sA, pre_lt hk1, pre_s])
                rw [q3] at M
                exact ih111 (k + 1) hk1 (by omega) _ _ _ M (lv_sub hl [0, 1, 2, 3] rfl)
          have q4 : 0 = nI 0 := by rfl
          have hl : lv_has ls 14 [(11, .int (nI 0)), (0, .ref (hO E 43)), (1, .int (nI N)), (10, .ref a2)] := by
            rw [← q4]
            exact lv_sub hl [0, 1, 2, 7] rfl
          have q5 : σ = (sA σ 43 37 0 (pre (mHw a b c9 d) (hA σ 43 37 0) 0)) := by first | exact (sA_self _ _ _ _).trans (by rw [← pre_0]) | (rw [sA_sA, pre_lt hk1, pre_s])
          rw [q5] at M
          exact L111 ((N - 0) + 1) 0 (Nat.zero_le _) (Nat.lt_succ_self _) _ _ _ M hl
        · skip
          have hk1 : k < N := ct_nge c_24
          refine lv_iload C.1 C.2.1 dX12_sheet_27 (lv_at hl 0 rfl) ?_
          refine lv_bipush (v := 16) C.1 C.2.1 dX12_sheet_29 (by decide) ?_
          have J7 : ∀ (v6 : Int64) (ev6 : v6 = (if 16 ≤ (nI k) then (if 32 ≤ (nI k) then (if 48 ≤ (nI k) then d else c9) else b) else a)) (H : Heap) (locs : List Loc) (ls : Array Slot), hM E A s H locs σ (Z ++ [(a2, .inl (E.2.1 0, 60, .inl (pre (mHw a b c9 d) (fun _ => 0) k)))]) → lv_has ls 14 [(11, .int (nI k)), (0, .ref (hO E 43)), (1, .int (nI N)), (2, .long a), (4, .long b), (6, .long c9), (8, .long d), (10, .ref a2)] → W p l e (hRm (1, 1, 60, 22)) s m [.ref (hO E 43), .int n, .long a, .long b, .long c9, .long d].toArray below meth c H locs 1 60 (MQ below (hQi E (fun r u => (∃ N, shtOk n N (mHw a b c9 d) ∧ r = 1 ∧ u = (mSht σ N (mHw a b c9 d), Z)) ∨ ((∀ N, ¬ shtOk n N (mHw a b c9 d)) ∧ r = 0 ∧ u = (σ, Z))) A) [.ref (hO E 43), .int n, .long a, .long b, .long c9, .long d].toArray s 1 60 A) (F0 m 64 ls [.long v6]) := by
            intro v6 ev6 H locs ls M hl
            subst ev6
            refine lv_lstore (lv' := [(12, .long (if 16 ≤ (nI k) then (if 32 ≤ (nI k) then (if 48 ≤ (nI k) then d else c9) else b) else a)), (11, .int (nI k)), (0, .ref (hO E 43)), (1, .int (nI N)), (2, .long a), (4, .long b), (6, .long c9), (8, .long d), (10, .ref a2)]) C.1 C.2.1 dX12_sheet_64 hl (by decide) rfl (fun ls hl => ?_)
            refine lv_aload C.1 C.2.1 dX12_sheet_66 (lv_at hl 8 rfl) ?_
            refine lv_iload C.1 C.2.1 dX12_sheet_68 (lv_at hl 1 rfl) ?_
            refine lv_lload C.1 C.2.1 dX12_sheet_70 (lv_at hl 0 rfl) ?_
            refine lv_iconst (v := 4) C.1 C.2.1 dX12_sheet_72 (by decide) ?_
            refine lv_iload C.1 C.2.1 dX12_sheet_73 (lv_at hl 1 rfl) ?_
            refine lv_bipush (v := 16) C.1 C.2.1 dX12_sheet_75 (by decide) ?_
            refine lv_irem C.1 C.2.1 dX12_sheet_77 (by decide) ?_
            refine g_rei (v := nI (k % 16)) (pk_rem (d := 16) (by omega) (by decide) (by decide)) ?_
            refine lv_imul C.1 C.2.1 dX12_sheet_78 ?_
            refine g_rei (v := nI (4 * (k % 16))) (pk_mul 4 _) ?_
            refine lv_lshr C.1 C.2.1 dX12_sheet_79 rfl ?_
            refine lv_ldc2 (v := 15) C.1 C.2.1 C.2.2.2.1 (C.2.2.2.2.1.1.use kc12_257 rfl) dX12_sheet_80 ?_
            refine lv_land C.1 C.2.1 dX12_sheet_83 ?_
            refine lv_l2i C.1 C.2.1 dX12_sheet_84 rfl ?_
            refine g_rei (v := mHw a b c9 d k) rfl ?_
            refine g_xiast C M Z.length zat0 k (nI_clamp (by omega)) (vp_in_nI (by omega) (by decide)) dX12_sheet_85 (fun H locs M => ?_)
            have M : hM E A s H locs σ (Z ++ [(a2, .inl (E.2.1 0, 60, .inl (upd (pre (mHw a b c9 d) (fun _ => 0) k) k (mHw a b c9 d k))))]) := by rw [zset0] at M; exact M
            refine lv_aload C.1 C.2.1 dX12_sheet_86 (lv_at hl 8 rfl) ?_
            refine lv_iload C.1 C.2.1 dX12_sheet_88 (lv_at hl 1 rfl) ?_
            refine g_xiald C M Z.length zat0 k (nI_clamp (by omega)) (vp_in_nI (by omega) (by decide)) (v := (mHw a b c9 d k)) pk_us dX12_sheet_90 ?_
            refine lv_iconst (v := 1) C.1 C.2.1 dX12_sheet_91 (by decide) ?_
            refine lv_bipush (v := 9) C.1 C.2.1 dX12_sheet_92 (by decide) ?_
            refine g_calli M (g_runS (As := [.int (mHw a b c9 d k), .int 1, .int 9]) (rest := []) C M (m_in l E σ (Z ++ [(a2, .inl (E.2.1 0, 60, .inl (upd (pre (mHw a b c9 d) (fun _ => 0) k) k (mHw a b c9 d k))))]) (mHw a b c9 d k) 1 9) clX12_in stX12_in lk12_131 rfl ⟨Nat.le_of_ble_eq_true rfl, Nat.le_of_ble_eq_true rfl⟩ hl.1 rfl (Nat.le_of_ble_eq_true rfl) dX12_sheet_94 ⟨Nat.le_of_ble_eq_true rfl, Nat.le_of_ble_eq_true rfl⟩) (fun r8 u H locs hR M => ?_)
            refine W.widen (k := 1) (n := 60) (Nat.le_of_ble_eq_true rfl) (Nat.le_of_ble_eq_true rfl) ?_
            obtain ⟨rfl, rfl⟩ := hR
            have M : hM E A s H locs σ (Z ++ [(a2, .inl (E.2.1 0, 60, .inl (upd (pre (mHw a b c9 d) (fun _ => 0) k) k (mHw a b c9 d k))))]) := M
            refine lv_if_ne (tgt := 102) C.1 C.2.1 dX12_sheet_97 (by decide) (fun c_97 => ?_) (fun c_97 => ?_)
            · skip
              have c_97 : inB (mHw a b c9 d k) 1 9 = true := bz_ne0.mp c_97
              refine lv_iinc (v := nI (k + 1)) (lv' := [(11, .int (nI (k + 1))), (12, .long (if 16 ≤ (nI k) then (if 32 ≤ (nI k) then (if 48 ≤ (nI k) then d else c9) else b) else a)), (0, .ref (hO E 43)), (1, .int (nI N)), (2, .long a), (4, .long b), (6, .long c9), (8, .long d), (10, .ref a2)]) C.1 C.2.1 dX12_sheet_102 hl (k := 1) rfl (nI_succ _).symm (by decide) rfl (fun ls hl => ?_)
              refine lv_goto (tgt := 21) C.1 C.2.1 dX12_sheet_105 (by decide) ?_
              have q9 : (upd (pre (mHw a b c9 d) (fun _ => 0) k) k (mHw a b c9 d k) : Nat → Int32) = pre (mHw a b c9 d) (fun _ => 0) (k + 1) := by first | exact pre_s _ _ _ | exact pre_0 _ _
              rw [q9] at M
              exact ih21 (k + 1) hk1 (fun i hi => by rcases Nat.lt_succ_iff_lt_or_eq.mp hi with h | h; exact hw i h; rw [h]; exact c_97) (by omega) _ _ _ M (lv_sub hl [0, 2, 3, 4, 5, 6, 7, 8] rfl)
            · skip
              have c_97 : ¬ inB (mHw a b c9 d k) 1 9 = true := bz_0.mp c_97
              refine lv_iconst (v := 0) C.1 C.2.1 dX12_sheet_100 (by decide) ?_
              refine g_zret rfl C M.drop hr hlk ?_ (Nat.le_of_ble_eq_true rfl) (Nat.le_of_ble_eq_true rfl) dX12_sheet_101
              exact Or.inr ⟨fun N9 hb => c_97 (hb.2.2.2 k (by have := (nI_eq (by omega) (by have := hb.2.2.1; omega)).mp (hN.symm.trans hb.1); omega)), rfl, rfl⟩
          refine lv_icmp_ge (tgt := 38) C.1 C.2.1 dX12_sheet_31 (by decide) (fun c_31 => ?_) (fun c_31 => ?_)
          · skip
            refine lv_iload C.1 C.2.1 dX12_sheet_38 (lv_at hl 0 rfl) ?_
            refine lv_bipush (v := 32) C.1 C.2.1 dX12_sheet_40 (by decide) ?_
            refine lv_icmp_ge (tgt := 50) C.1 C.2.1 dX12_sheet_42 (by decide) (fun c_42 => ?_) (fun c_42 => ?_)
            · skip
              refine lv_iload C.1 C.2.1 dX12_sheet_50 (lv_at hl 0 rfl) ?_
              refine lv_bipush (v := 48) C.1 C.2.1 dX12_sheet_52 (by decide) ?_
              refine lv_icmp_ge (tgt := 62) C.1 C.2.1 dX12_sheet_54 (by decide) (fun c_54 => ?_) (fun c_54 => ?_)
              · skip
                refine lv_lload C.1 C.2.1 dX12_sheet_62 (lv_at hl 6 rfl) ?_
                exact J7 _ (by simp [c_31, c_42, c_54]) _ _ _ M (lv_sub hl [0, 1, 2, 3, 4, 5, 6, 7] rfl)
              · skip
                refine lv_lload C.1 C.2.1 dX12_sheet_57 (lv_at hl 5 rfl) ?_
                refine lv_goto (tgt := 64) C.1 C.2.1 dX12_sheet_59 (by decide) ?_
                exact J7 _ (by simp [c_31, c_42, c_54]) _ _ _ M (lv_sub hl [0, 1, 2, 3, 4, 5, 6, 7] rfl)
            · skip
              refine lv_lload C.1 C.2.1 dX12_sheet_45 (lv_at hl 4 rfl) ?_
              refine lv_goto (tgt := 64) C.1 C.2.1 dX12_sheet_47 (by decide) ?_
              exact J7 _ (by simp [c_31, c_42]) _ _ _ M (lv_sub hl [0, 1, 2, 3, 4, 5, 6, 7] rfl)
          · skip
            refine lv_lload_n C.1 C.2.1 dX12_sheet_34 rfl (lv_at hl 3 rfl) ?_
            refine lv_goto (tgt := 64) C.1 C.2.1 dX12_sheet_35 (by decide) ?_
            exact J7 _ (by simp [c_31]) _ _ _ M (lv_sub hl [0, 1, 2, 3, 4, 5, 6, 7] rfl)
    have q10 : 0 = nI 0 := by rfl
    have hl : lv_has ls 14 [(11, .int (nI 0)), (0, .ref (hO E 43)), (1, .int (nI N)), (2, .long a), (4, .long b), (6, .long c9), (8, .long d), (10, .ref a2)] := by
      rw [← q10]
      exact lv_sub hl [0, 2, 3, 4, 5, 6, 7, 1] rfl
    have q11 : (fun _ => 0 : Nat → Int32) = pre (mHw a b c9 d) (fun _ => 0) 0 := by first | exact pre_s _ _ _ | exact pre_0 _ _
    rw [q11] at M
    exact L21 ((N - 0) + 1) 0 (Nat.zero_le _) (fun i hi => absurd hi (Nat.not_lt_zero _)) (Nat.lt_succ_self _) _ _ _ M hl
  · skip
    have c_7 : ¬ inB n 1 60 = true := bz_0.mp c_7
    refine lv_iconst (v := 0) C.1 C.2.1 dX12_sheet_10 (by decide) ?_
    refine g_zret rfl C M hr hlk ?_ (Nat.le_of_ble_eq_true rfl) (Nat.le_of_ble_eq_true rfl) dX12_sheet_11
    exact Or.inr ⟨fun N9 hb => c_7 (by rw [hb.1]; exact in_of hb.2.1 hb.2.2.1), rfl, rfl⟩
end
