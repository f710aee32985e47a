-- ===== PART A: goes FIRST, ahead of the names: the tables' words, and 'selects' of the private methods out of them =====
/-- a private method of a class that the tables say can be made, by its rows of tables_1 -/
def lw_okq (q : MethodName × Nat) : Prop := (q.1.cls ≠ "java/lang/invoke/MethodHandle" ∧ q.1.cls ≠ "java/lang/invoke/VarHandle") ∧ Cond.instantiable q.1.cls q.2 ∈ tables_1 ∧ Cond.privateMethod q.1 ∈ tables_1 ∧ Cond.instanceMethod q.1 ∈ tables_1
theorem lw_p0 : lw_okq (⟨"SalvageCourt$Tale", "settleBelief", "()V"⟩, 15) := ⟨⟨by decide +kernel, by decide +kernel⟩, List.mem_of_getElem? (i := 29) (by decide +kernel), List.mem_of_getElem? (i := 464) (by decide +kernel), List.mem_of_getElem? (i := 465) (by decide +kernel)⟩
theorem lw_p1 : lw_okq (⟨"SalvageCourt$Tale", "takes", "(LSalvageCourt$Bounds;I)Z"⟩, 15) := ⟨⟨by decide +kernel, by decide +kernel⟩, List.mem_of_getElem? (i := 29) (by decide +kernel), List.mem_of_getElem? (i := 474) (by decide +kernel), List.mem_of_getElem? (i := 475) (by decide +kernel)⟩
theorem lw_p2 : lw_okq (⟨"SalvageCourt$Bounds", "limit", "(III)V"⟩, 1) := ⟨⟨by decide +kernel, by decide +kernel⟩, List.mem_of_getElem? (i := 35) (by decide +kernel), List.mem_of_getElem? (i := 482) (by decide +kernel), List.mem_of_getElem? (i := 483) (by decide +kernel)⟩
theorem lw_p3 : lw_okq (⟨"SalvageCourt$Tale", "settleQuarrel", "()V"⟩, 15) := ⟨⟨by decide +kernel, by decide +kernel⟩, List.mem_of_getElem? (i := 29) (by decide +kernel), List.mem_of_getElem? (i := 516) (by decide +kernel), List.mem_of_getElem? (i := 517) (by decide +kernel)⟩
theorem lw_p4 : lw_okq (⟨"SalvageCourt$Tale", "firstToBreak", "(I)I"⟩, 15) := ⟨⟨by decide +kernel, by decide +kernel⟩, List.mem_of_getElem? (i := 29) (by decide +kernel), List.mem_of_getElem? (i := 520) (by decide +kernel), List.mem_of_getElem? (i := 521) (by decide +kernel)⟩
theorem lw_p5 : lw_okq (⟨"SalvageCourt$Tape", "skipBlanks", "()V"⟩, 6) := ⟨⟨by decide +kernel, by decide +kernel⟩, List.mem_of_getElem? (i := 156) (by decide +kernel), List.mem_of_getElem? (i := 606) (by decide +kernel), List.mem_of_getElem? (i := 607) (by decide +kernel)⟩
theorem lw_p6 : lw_okq (⟨"SalvageCourt$Tape", "readClause", "(LSalvageCourt$Law;)V"⟩, 6) := ⟨⟨by decide +kernel, by decide +kernel⟩, List.mem_of_getElem? (i := 156) (by decide +kernel), List.mem_of_getElem? (i := 610) (by decide +kernel), List.mem_of_getElem? (i := 611) (by decide +kernel)⟩
theorem lw_p7 : lw_okq (⟨"SalvageCourt$Tape", "readWord", "(Ljava/lang/String;)I"⟩, 6) := ⟨⟨by decide +kernel, by decide +kernel⟩, List.mem_of_getElem? (i := 156) (by decide +kernel), List.mem_of_getElem? (i := 615) (by decide +kernel), List.mem_of_getElem? (i := 616) (by decide +kernel)⟩
theorem lw_p8 : lw_okq (⟨"SalvageCourt$Tape", "numberOfWord", "(Ljava/lang/String;)I"⟩, 6) := ⟨⟨by decide +kernel, by decide +kernel⟩, List.mem_of_getElem? (i := 156) (by decide +kernel), List.mem_of_getElem? (i := 622) (by decide +kernel), List.mem_of_getElem? (i := 623) (by decide +kernel)⟩
theorem lw_p9 : lw_okq (⟨"SalvageCourt$Tape", "refuse", "(II)V"⟩, 6) := ⟨⟨by decide +kernel, by decide +kernel⟩, List.mem_of_getElem? (i := 156) (by decide +kernel), List.mem_of_getElem? (i := 674) (by decide +kernel), List.mem_of_getElem? (i := 675) (by decide +kernel)⟩
theorem lw_p10 : lw_okq (⟨"SalvageCourt$Tape", "tellOnce", "(I)V"⟩, 6) := ⟨⟨by decide +kernel, by decide +kernel⟩, List.mem_of_getElem? (i := 156) (by decide +kernel), List.mem_of_getElem? (i := 678) (by decide +kernel), List.mem_of_getElem? (i := 679) (by decide +kernel)⟩
theorem lw_p11 : lw_okq (⟨"SalvageCourt$Tape", "readWeight", "(LSalvageCourt$Law;)V"⟩, 6) := ⟨⟨by decide +kernel, by decide +kernel⟩, List.mem_of_getElem? (i := 156) (by decide +kernel), List.mem_of_getElem? (i := 682) (by decide +kernel), List.mem_of_getElem? (i := 683) (by decide +kernel)⟩
theorem lw_p12 : lw_okq (⟨"SalvageCourt$Tape", "readNumber", "(I)I"⟩, 6) := ⟨⟨by decide +kernel, by decide +kernel⟩, List.mem_of_getElem? (i := 156) (by decide +kernel), List.mem_of_getElem? (i := 687) (by decide +kernel), List.mem_of_getElem? (i := 688) (by decide +kernel)⟩
theorem lw_p13 : lw_okq (⟨"SalvageCourt$Tape", "readSemicolon", "()V"⟩, 6) := ⟨⟨by decide +kernel, by decide +kernel⟩, List.mem_of_getElem? (i := 156) (by decide +kernel), List.mem_of_getElem? (i := 693) (by decide +kernel), List.mem_of_getElem? (i := 694) (by decide +kernel)⟩
theorem lw_p14 : lw_okq (⟨"SalvageCourt$Law", "givenOf", "([II)I"⟩, 7) := ⟨⟨by decide +kernel, by decide +kernel⟩, List.mem_of_getElem? (i := 307) (by decide +kernel), List.mem_of_getElem? (i := 759) (by decide +kernel), List.mem_of_getElem? (i := 760) (by decide +kernel)⟩
theorem lw_p15 : lw_okq (⟨"SalvageCourt$Judgement", "greatestRest", "()I"⟩, 11) := ⟨⟨by decide +kernel, by decide +kernel⟩, List.mem_of_getElem? (i := 209) (by decide +kernel), List.mem_of_getElem? (i := 790) (by decide +kernel), List.mem_of_getElem? (i := 791) (by decide +kernel)⟩
def lw_privs_1 : List (MethodName × Nat) := [(⟨"SalvageCourt$Tale", "settleBelief", "()V"⟩, 15), (⟨"SalvageCourt$Tale", "takes", "(LSalvageCourt$Bounds;I)Z"⟩, 15), (⟨"SalvageCourt$Bounds", "limit", "(III)V"⟩, 1), (⟨"SalvageCourt$Tale", "settleQuarrel", "()V"⟩, 15), (⟨"SalvageCourt$Tale", "firstToBreak", "(I)I"⟩, 15), (⟨"SalvageCourt$Tape", "skipBlanks", "()V"⟩, 6), (⟨"SalvageCourt$Tape", "readClause", "(LSalvageCourt$Law;)V"⟩, 6), (⟨"SalvageCourt$Tape", "readWord", "(Ljava/lang/String;)I"⟩, 6), (⟨"SalvageCourt$Tape", "numberOfWord", "(Ljava/lang/String;)I"⟩, 6), (⟨"SalvageCourt$Tape", "refuse", "(II)V"⟩, 6), (⟨"SalvageCourt$Tape", "tellOnce", "(I)V"⟩, 6), (⟨"SalvageCourt$Tape", "readWeight", "(LSalvageCourt$Law;)V"⟩, 6), (⟨"SalvageCourt$Tape", "readNumber", "(I)I"⟩, 6), (⟨"SalvageCourt$Tape", "readSemicolon", "()V"⟩, 6), (⟨"SalvageCourt$Law", "givenOf", "([II)I"⟩, 7), (⟨"SalvageCourt$Judgement", "greatestRest", "()I"⟩, 11)]
theorem lw_r1 : ∀ q ∈ lw_privs_1, lw_okq q := List.forall_mem_cons.mpr ⟨lw_p0, List.forall_mem_cons.mpr ⟨lw_p1, List.forall_mem_cons.mpr ⟨lw_p2, List.forall_mem_cons.mpr ⟨lw_p3, List.forall_mem_cons.mpr ⟨lw_p4, List.forall_mem_cons.mpr ⟨lw_p5, List.forall_mem_cons.mpr ⟨lw_p6, List.forall_mem_cons.mpr ⟨lw_p7, List.forall_mem_cons.mpr ⟨lw_p8, List.forall_mem_cons.mpr ⟨lw_p9, List.forall_mem_cons.mpr ⟨lw_p10, List.forall_mem_cons.mpr ⟨lw_p11, List.forall_mem_cons.mpr ⟨lw_p12, List.forall_mem_cons.mpr ⟨lw_p13, List.forall_mem_cons.mpr ⟨lw_p14, List.forall_mem_cons.mpr ⟨lw_p15, fun _ h => absurd h List.not_mem_nil⟩⟩⟩⟩⟩⟩⟩⟩⟩⟩⟩⟩⟩⟩⟩⟩
theorem lw_p16 : lw_okq (⟨"SalvageCourt$Part", "payHands", "(LSalvageCourt$Crew;)V"⟩, 10) := ⟨⟨by decide +kernel, by decide +kernel⟩, List.mem_of_getElem? (i := 216) (by decide +kernel), List.mem_of_getElem? (i := 813) (by decide +kernel), List.mem_of_getElem? (i := 814) (by decide +kernel)⟩
theorem lw_p17 : lw_okq (⟨"SalvageCourtModel", "believe", "()V"⟩, 59) := ⟨⟨by decide +kernel, by decide +kernel⟩, List.mem_of_getElem? (i := 847) (by decide +kernel), List.mem_of_getElem? (i := 1053) (by decide +kernel), List.mem_of_getElem? (i := 1054) (by decide +kernel)⟩
theorem lw_p18 : lw_okq (⟨"SalvageCourtModel", "canBe", "()Z"⟩, 59) := ⟨⟨by decide +kernel, by decide +kernel⟩, List.mem_of_getElem? (i := 847) (by decide +kernel), List.mem_of_getElem? (i := 1057) (by decide +kernel), List.mem_of_getElem? (i := 1058) (by decide +kernel)⟩
theorem lw_p19 : lw_okq (⟨"SalvageCourtModel", "put", "(I)V"⟩, 59) := ⟨⟨by decide +kernel, by decide +kernel⟩, List.mem_of_getElem? (i := 847) (by decide +kernel), List.mem_of_getElem? (i := 1102) (by decide +kernel), List.mem_of_getElem? (i := 1103) (by decide +kernel)⟩
theorem lw_p20 : lw_okq (⟨"SalvageCourtModel", "isEnd", "()Z"⟩, 59) := ⟨⟨by decide +kernel, by decide +kernel⟩, List.mem_of_getElem? (i := 847) (by decide +kernel), List.mem_of_getElem? (i := 1114) (by decide +kernel), List.mem_of_getElem? (i := 1115) (by decide +kernel)⟩
theorem lw_p21 : lw_okq (⟨"SalvageCourtModel", "clause", "([I[Z)V"⟩, 59) := ⟨⟨by decide +kernel, by decide +kernel⟩, List.mem_of_getElem? (i := 847) (by decide +kernel), List.mem_of_getElem? (i := 1118) (by decide +kernel), List.mem_of_getElem? (i := 1119) (by decide +kernel)⟩
theorem lw_p22 : lw_okq (⟨"SalvageCourtModel", "word", "()V"⟩, 59) := ⟨⟨by decide +kernel, by decide +kernel⟩, List.mem_of_getElem? (i := 847) (by decide +kernel), List.mem_of_getElem? (i := 1122) (by decide +kernel), List.mem_of_getElem? (i := 1123) (by decide +kernel)⟩
theorem lw_p23 : lw_okq (⟨"SalvageCourtModel", "fails", "(II)V"⟩, 59) := ⟨⟨by decide +kernel, by decide +kernel⟩, List.mem_of_getElem? (i := 847) (by decide +kernel), List.mem_of_getElem? (i := 1126) (by decide +kernel), List.mem_of_getElem? (i := 1127) (by decide +kernel)⟩
theorem lw_p24 : lw_okq (⟨"SalvageCourtModel", "is", "(Ljava/lang/String;)Z"⟩, 59) := ⟨⟨by decide +kernel, by decide +kernel⟩, List.mem_of_getElem? (i := 847) (by decide +kernel), List.mem_of_getElem? (i := 1131) (by decide +kernel), List.mem_of_getElem? (i := 1132) (by decide +kernel)⟩
theorem lw_p25 : lw_okq (⟨"SalvageCourtModel", "markOf", "(I)Ljava/lang/String;"⟩, 59) := ⟨⟨by decide +kernel, by decide +kernel⟩, List.mem_of_getElem? (i := 847) (by decide +kernel), List.mem_of_getElem? (i := 1137) (by decide +kernel), List.mem_of_getElem? (i := 1138) (by decide +kernel)⟩
theorem lw_p26 : lw_okq (⟨"SalvageCourtModel", "number", "(II)I"⟩, 59) := ⟨⟨by decide +kernel, by decide +kernel⟩, List.mem_of_getElem? (i := 847) (by decide +kernel), List.mem_of_getElem? (i := 1146) (by decide +kernel), List.mem_of_getElem? (i := 1147) (by decide +kernel)⟩
theorem lw_p27 : lw_okq (⟨"SalvageCourtModel", "clauseOf", "(I)Ljava/lang/String;"⟩, 59) := ⟨⟨by decide +kernel, by decide +kernel⟩, List.mem_of_getElem? (i := 847) (by decide +kernel), List.mem_of_getElem? (i := 1150) (by decide +kernel), List.mem_of_getElem? (i := 1151) (by decide +kernel)⟩
theorem lw_p28 : lw_okq (⟨"SalvageCourtModel", "gives", "()I"⟩, 59) := ⟨⟨by decide +kernel, by decide +kernel⟩, List.mem_of_getElem? (i := 847) (by decide +kernel), List.mem_of_getElem? (i := 1159) (by decide +kernel), List.mem_of_getElem? (i := 1160) (by decide +kernel)⟩
theorem lw_p29 : lw_okq (⟨"SalvageCourtModel", "distance", "(I[I)I"⟩, 59) := ⟨⟨by decide +kernel, by decide +kernel⟩, List.mem_of_getElem? (i := 847) (by decide +kernel), List.mem_of_getElem? (i := 1181) (by decide +kernel), List.mem_of_getElem? (i := 1182) (by decide +kernel)⟩
theorem lw_p30 : lw_okq (⟨"SalvageCourtModel", "rated", "([I)I"⟩, 59) := ⟨⟨by decide +kernel, by decide +kernel⟩, List.mem_of_getElem? (i := 847) (by decide +kernel), List.mem_of_getElem? (i := 1185) (by decide +kernel), List.mem_of_getElem? (i := 1186) (by decide +kernel)⟩
theorem lw_p31 : lw_okq (⟨"SalvageCourtModel", "parts", "([I)V"⟩, 59) := ⟨⟨by decide +kernel, by decide +kernel⟩, List.mem_of_getElem? (i := 847) (by decide +kernel), List.mem_of_getElem? (i := 1190) (by decide +kernel), List.mem_of_getElem? (i := 1191) (by decide +kernel)⟩
def lw_privs_2 : List (MethodName × Nat) := [(⟨"SalvageCourt$Part", "payHands", "(LSalvageCourt$Crew;)V"⟩, 10), (⟨"SalvageCourtModel", "believe", "()V"⟩, 59), (⟨"SalvageCourtModel", "canBe", "()Z"⟩, 59), (⟨"SalvageCourtModel", "put", "(I)V"⟩, 59), (⟨"SalvageCourtModel", "isEnd", "()Z"⟩, 59), (⟨"SalvageCourtModel", "clause", "([I[Z)V"⟩, 59), (⟨"SalvageCourtModel", "word", "()V"⟩, 59), (⟨"SalvageCourtModel", "fails", "(II)V"⟩, 59), (⟨"SalvageCourtModel", "is", "(Ljava/lang/String;)Z"⟩, 59), (⟨"SalvageCourtModel", "markOf", "(I)Ljava/lang/String;"⟩, 59), (⟨"SalvageCourtModel", "number", "(II)I"⟩, 59), (⟨"SalvageCourtModel", "clauseOf", "(I)Ljava/lang/String;"⟩, 59), (⟨"SalvageCourtModel", "gives", "()I"⟩, 59), (⟨"SalvageCourtModel", "distance", "(I[I)I"⟩, 59), (⟨"SalvageCourtModel", "rated", "([I)I"⟩, 59), (⟨"SalvageCourtModel", "parts", "([I)V"⟩, 59)]
theorem lw_r2 : ∀ q ∈ lw_privs_2, lw_okq q := List.forall_mem_cons.mpr ⟨lw_p16, List.forall_mem_cons.mpr ⟨lw_p17, List.forall_mem_cons.mpr ⟨lw_p18, List.forall_mem_cons.mpr ⟨lw_p19, List.forall_mem_cons.mpr ⟨lw_p20, List.forall_mem_cons.mpr ⟨lw_p21, List.forall_mem_cons.mpr ⟨lw_p22, List.forall_mem_cons.mpr ⟨lw_p23, List.forall_mem_cons.mpr ⟨lw_p24, List.forall_mem_cons.mpr ⟨lw_p25, List.forall_mem_cons.mpr ⟨lw_p26, List.forall_mem_cons.mpr ⟨lw_p27, List.forall_mem_cons.mpr ⟨lw_p28, List.forall_mem_cons.mpr ⟨lw_p29, List.forall_mem_cons.mpr ⟨lw_p30, List.forall_mem_cons.mpr ⟨lw_p31, fun _ h => absurd h List.not_mem_nil⟩⟩⟩⟩⟩⟩⟩⟩⟩⟩⟩⟩⟩⟩⟩⟩
theorem lw_p32 : lw_okq (⟨"SalvageCourtModel", "aboard", "(I[I)V"⟩, 59) := ⟨⟨by decide +kernel, by decide +kernel⟩, List.mem_of_getElem? (i := 847) (by decide +kernel), List.mem_of_getElem? (i := 1195) (by decide +kernel), List.mem_of_getElem? (i := 1196) (by decide +kernel)⟩
def lw_privs_3 : List (MethodName × Nat) := [(⟨"SalvageCourtModel", "aboard", "(I[I)V"⟩, 59)]
theorem lw_r3 : ∀ q ∈ lw_privs_3, lw_okq q := List.forall_mem_cons.mpr ⟨lw_p32, fun _ h => absurd h List.not_mem_nil⟩
def lw_privs : List (MethodName × Nat) := lw_privs_1 ++ (lw_privs_2 ++ (lw_privs_3))
def lw_tbl : List Cond := k2_sels lw_privs ++ tables_1
theorem lw_privs_ok : ∀ q ∈ lw_privs, lw_okq q := by
  show ∀ q ∈ lw_privs_1 ++ (lw_privs_2 ++ (lw_privs_3)), lw_okq q
  exact List.forall_mem_append.mpr ⟨lw_r1, List.forall_mem_append.mpr ⟨lw_r2, lw_r3⟩⟩
def R_law : String := "SalvageCourtLaw"
def RX0 : String := "SalvageCourt$Bounds"
def TX0 : u_T := fun k => match k with
  | _ => ("SalvageCourt$Bounds", "most", "[I", true)
def tyX0 : Nat → FieldType := fun k => match k with
  | _ => .array .int
theorem nmX0 : ∀ a, a < 1 → ∀ b, b < 1 → a ≠ b → (TX0 a).2.1 ≠ (TX0 b).2.1 := by decide +kernel
theorem tyX0_ok : ∀ k, k < 1 → parseFieldDescriptor (TX0 k).2.2.1 = some (tyX0 k) := by decide +kernel
abbrev cX0_init : ByteArray := prog_2_method_1_code
def yX0_init : MethodName := ⟨RX0, "<init>", "()V"⟩
abbrev cX0_clear : ByteArray := prog_2_method_2_code
def yX0_clear : MethodName := ⟨RX0, "clear", "()V"⟩
abbrev cX0_greatest : ByteArray := prog_2_method_3_code
def yX0_greatest : MethodName := ⟨RX0, "greatest", "(II)I"⟩
abbrev cX0_least : ByteArray := prog_2_method_4_code
def yX0_least : MethodName := ⟨RX0, "least", "(II)I"⟩
abbrev cX0_narrow : ByteArray := prog_2_method_5_code
def yX0_narrow : MethodName := ⟨RX0, "narrow", "(IIII)Z"⟩
abbrev cX0_limit : ByteArray := prog_2_method_6_code
def yX0_limit : MethodName := ⟨RX0, "limit", "(III)V"⟩
def RX1 : String := "SalvageCourt$Cases"
def TX1 : u_T := fun k => match k with
  | 0 => ("SalvageCourt$Cases", "marks", "[I", true)
  | 1 => ("SalvageCourt$Cases", "awards", "[I", true)
  | 2 => ("SalvageCourt$Cases", "times", "LSalvageCourt$Times;", true)
  | 3 => ("SalvageCourt$Cases", "overruled", "LSalvageCourt$Times;", true)
  | _ => ("SalvageCourt$Cases", "told", "I", false)
def tyX1 : Nat → FieldType := fun k => match k with
  | 0 => .array .int
  | 1 => .array .int
  | 2 => .object "SalvageCourt$Times"
  | 3 => .object "SalvageCourt$Times"
  | _ => .int
theorem nmX1 : ∀ a, a < 5 → ∀ b, b < 5 → a ≠ b → (TX1 a).2.1 ≠ (TX1 b).2.1 := by decide +kernel
theorem tyX1_ok : ∀ k, k < 5 → parseFieldDescriptor (TX1 k).2.2.1 = some (tyX1 k) := by decide +kernel
abbrev cX1_init : ByteArray := prog_3_method_1_code
def yX1_init : MethodName := ⟨RX1, "<init>", "()V"⟩
abbrev cX1_add : ByteArray := prog_3_method_2_code
def yX1_add : MethodName := ⟨RX1, "add", "(IIII)I"⟩
abbrev cX1_setOverruled : ByteArray := prog_3_method_3_code
def yX1_setOverruled : MethodName := ⟨RX1, "setOverruled", "(III)Z"⟩
abbrev cX1_findLike : ByteArray := prog_3_method_4_code
def yX1_findLike : MethodName := ⟨RX1, "findLike", "(LSalvageCourt$Law;III[I)I"⟩
abbrev cX1_sortAwards : ByteArray := prog_3_method_5_code
def yX1_sortAwards : MethodName := ⟨RX1, "sortAwards", "([II[I)V"⟩
def RX2 : String := "SalvageCourt$Crew"
def TX2 : u_T := fun k => match k with
  | 0 => ("SalvageCourt$Crew", "weights", "[I", true)
  | 1 => ("SalvageCourt$Crew", "hands", "I", false)
  | _ => ("SalvageCourt$Crew", "allWeights", "I", false)
def tyX2 : Nat → FieldType := fun k => match k with
  | 0 => .array .int
  | 1 => .int
  | _ => .int
theorem nmX2 : ∀ a, a < 3 → ∀ b, b < 3 → a ≠ b → (TX2 a).2.1 ≠ (TX2 b).2.1 := by decide +kernel
theorem tyX2_ok : ∀ k, k < 3 → parseFieldDescriptor (TX2 k).2.2.1 = some (tyX2 k) := by decide +kernel
abbrev cX2_init : ByteArray := prog_4_method_1_code
def yX2_init : MethodName := ⟨RX2, "<init>", "()V"⟩
abbrev cX2_clear : ByteArray := prog_4_method_2_code
def yX2_clear : MethodName := ⟨RX2, "clear", "()V"⟩
abbrev cX2_add : ByteArray := prog_4_method_3_code
def yX2_add : MethodName := ⟨RX2, "add", "(I)V"⟩
abbrev cX2_copy : ByteArray := prog_4_method_4_code
def yX2_copy : MethodName := ⟨RX2, "copy", "(LSalvageCourt$Crew;)V"⟩
def RX3 : String := "SalvageCourt$Goods"
def TX3 : u_T := fun k => match k with
  | 0 => ("SalvageCourt$Goods", "goodOf", "[I", true)
  | 1 => ("SalvageCourt$Goods", "worth", "[I", true)
  | 2 => ("SalvageCourt$Goods", "times", "LSalvageCourt$Times;", true)
  | _ => ("SalvageCourt$Goods", "told", "I", false)
def tyX3 : Nat → FieldType := fun k => match k with
  | 0 => .array .int
  | 1 => .array .int
  | 2 => .object "SalvageCourt$Times"
  | _ => .int
theorem nmX3 : ∀ a, a < 4 → ∀ b, b < 4 → a ≠ b → (TX3 a).2.1 ≠ (TX3 b).2.1 := by decide +kernel
theorem tyX3_ok : ∀ k, k < 4 → parseFieldDescriptor (TX3 k).2.2.1 = some (tyX3 k) := by decide +kernel
abbrev cX3_init : ByteArray := prog_5_method_1_code
def yX3_init : MethodName := ⟨RX3, "<init>", "()V"⟩
abbrev cX3_add : ByteArray := prog_5_method_2_code
def yX3_add : MethodName := ⟨RX3, "add", "(IIII)I"⟩
abbrev cX3_worthOf : ByteArray := prog_5_method_3_code
def yX3_worthOf : MethodName := ⟨RX3, "worthOf", "(III)I"⟩
abbrev cX3_worthOfAll : ByteArray := prog_5_method_4_code
def yX3_worthOfAll : MethodName := ⟨RX3, "worthOfAll", "(II)J"⟩
def RX4 : String := "SalvageCourt$Judgement"
def TX4 : u_T := fun k => match k with
  | 0 => ("SalvageCourt$Judgement", "likes", "[I", true)
  | 1 => ("SalvageCourt$Judgement", "awards", "[I", true)
  | 2 => ("SalvageCourt$Judgement", "parts", "[LSalvageCourt$Part;", true)
  | 3 => ("SalvageCourt$Judgement", "law", "I", false)
  | 4 => ("SalvageCourt$Judgement", "likeCount", "I", false)
  | 5 => ("SalvageCourt$Judgement", "rate", "I", false)
  | 6 => ("SalvageCourt$Judgement", "saved", "J", false)
  | 7 => ("SalvageCourt$Judgement", "given", "J", false)
  | 8 => ("SalvageCourt$Judgement", "goesBack", "J", false)
  | 9 => ("SalvageCourt$Judgement", "shipCount", "I", false)
  | _ => ("SalvageCourt$Judgement", "allWeights", "J", false)
def tyX4 : Nat → FieldType := fun k => match k with
  | 0 => .array .int
  | 1 => .array .int
  | 2 => .array (.object "SalvageCourt$Part")
  | 3 => .int
  | 4 => .int
  | 5 => .int
  | 6 => .long
  | 7 => .long
  | 8 => .long
  | 9 => .int
  | _ => .long
theorem nmX4 : ∀ a, a < 11 → ∀ b, b < 11 → a ≠ b → (TX4 a).2.1 ≠ (TX4 b).2.1 := by decide +kernel
theorem tyX4_ok : ∀ k, k < 11 → parseFieldDescriptor (TX4 k).2.2.1 = some (tyX4 k) := by decide +kernel
abbrev cX4_init : ByteArray := prog_6_method_1_code
def yX4_init : MethodName := ⟨RX4, "<init>", "()V"⟩
abbrev cX4_weighShips : ByteArray := prog_6_method_2_code
def yX4_weighShips : MethodName := ⟨RX4, "weighShips", "([LSalvageCourt$Ship;ILSalvageCourt$Tale;)V"⟩
abbrev cX4_partAmongShips : ByteArray := prog_6_method_3_code
def yX4_partAmongShips : MethodName := ⟨RX4, "partAmongShips", "()V"⟩
abbrev cX4_greatestRest : ByteArray := prog_6_method_4_code
def yX4_greatestRest : MethodName := ⟨RX4, "greatestRest", "()I"⟩
abbrev cX4_settle : ByteArray := prog_6_method_5_code
def yX4_settle : MethodName := ⟨RX4, "settle", "([LSalvageCourt$Ship;LSalvageCourt$Law;)V"⟩
def RX5 : String := "SalvageCourt$Law"
def TX5 : u_T := fun k => match k with
  | 0 => ("SalvageCourt$Law", "weights", "[I", true)
  | 1 => ("SalvageCourt$Law", "like", "I", false)
  | 2 => ("SalvageCourt$Law", "give", "I", false)
  | 3 => ("SalvageCourt$Law", "otherwise", "I", false)
  | 4 => ("SalvageCourt$Law", "life", "I", false)
  | 5 => ("SalvageCourt$Law", "late", "I", false)
  | _ => ("SalvageCourt$Law", "after", "I", false)
def tyX5 : Nat → FieldType := fun k => match k with
  | 0 => .array .int
  | 1 => .int
  | 2 => .int
  | 3 => .int
  | 4 => .int
  | 5 => .int
  | _ => .int
theorem nmX5 : ∀ a, a < 7 → ∀ b, b < 7 → a ≠ b → (TX5 a).2.1 ≠ (TX5 b).2.1 := by decide +kernel
theorem tyX5_ok : ∀ k, k < 7 → parseFieldDescriptor (TX5 k).2.2.1 = some (tyX5 k) := by decide +kernel
abbrev cX5_init : ByteArray := prog_7_method_1_code
def yX5_init : MethodName := ⟨RX5, "<init>", "()V"⟩
abbrev cX5_clear : ByteArray := prog_7_method_2_code
def yX5_clear : MethodName := ⟨RX5, "clear", "()V"⟩
abbrev cX5_distance : ByteArray := prog_7_method_3_code
def yX5_distance : MethodName := ⟨RX5, "distance", "(II)I"⟩
abbrev cX5_rateOf : ByteArray := prog_7_method_4_code
def yX5_rateOf : MethodName := ⟨RX5, "rateOf", "([III)I"⟩
abbrev cX5_givenOf : ByteArray := prog_7_method_5_code
def yX5_givenOf : MethodName := ⟨RX5, "givenOf", "([II)I"⟩
abbrev cX5_mean : ByteArray := prog_7_method_6_code
def yX5_mean : MethodName := ⟨RX5, "mean", "([II)I"⟩
def RX6 : String := "SalvageCourt$Part"
def TX6 : u_T := fun k => match k with
  | 0 => ("SalvageCourt$Part", "handCoins", "[J", true)
  | 1 => ("SalvageCourt$Part", "hours", "J", false)
  | 2 => ("SalvageCourt$Part", "weight", "J", false)
  | 3 => ("SalvageCourt$Part", "rest", "J", false)
  | 4 => ("SalvageCourt$Part", "coins", "J", false)
  | 5 => ("SalvageCourt$Part", "lost", "J", false)
  | 6 => ("SalvageCourt$Part", "owner", "J", false)
  | 7 => ("SalvageCourt$Part", "master", "J", false)
  | 8 => ("SalvageCourt$Part", "crew", "J", false)
  | _ => ("SalvageCourt$Part", "hands", "I", false)
def tyX6 : Nat → FieldType := fun k => match k with
  | 0 => .array .long
  | 1 => .long
  | 2 => .long
  | 3 => .long
  | 4 => .long
  | 5 => .long
  | 6 => .long
  | 7 => .long
  | 8 => .long
  | _ => .int
theorem nmX6 : ∀ a, a < 10 → ∀ b, b < 10 → a ≠ b → (TX6 a).2.1 ≠ (TX6 b).2.1 := by decide +kernel
theorem tyX6_ok : ∀ k, k < 10 → parseFieldDescriptor (TX6 k).2.2.1 = some (tyX6 k) := by decide +kernel
abbrev cX6_init : ByteArray := prog_8_method_1_code
def yX6_init : MethodName := ⟨RX6, "<init>", "()V"⟩
abbrev cX6_loseLate : ByteArray := prog_8_method_2_code
def yX6_loseLate : MethodName := ⟨RX6, "loseLate", "(ILSalvageCourt$Law;)V"⟩
abbrev cX6_pay : ByteArray := prog_8_method_3_code
def yX6_pay : MethodName := ⟨RX6, "pay", "(LSalvageCourt$Ship;)V"⟩
abbrev cX6_payHands : ByteArray := prog_8_method_4_code
def yX6_payHands : MethodName := ⟨RX6, "payHands", "(LSalvageCourt$Crew;)V"⟩
def RX7 : String := "SalvageCourt$Ship"
def TX7 : u_T := fun k => match k with
  | 0 => ("SalvageCourt$Ship", "crew", "LSalvageCourt$Crew;", true)
  | 1 => ("SalvageCourt$Ship", "tons", "I", false)
  | 2 => ("SalvageCourt$Ship", "came", "I", false)
  | 3 => ("SalvageCourt$Ship", "left", "I", false)
  | 4 => ("SalvageCourt$Ship", "claim", "I", false)
  | 5 => ("SalvageCourt$Ship", "owner", "I", false)
  | _ => ("SalvageCourt$Ship", "master", "I", false)
def tyX7 : Nat → FieldType := fun k => match k with
  | 0 => .object "SalvageCourt$Crew"
  | 1 => .int
  | 2 => .int
  | 3 => .int
  | 4 => .int
  | 5 => .int
  | _ => .int
theorem nmX7 : ∀ a, a < 7 → ∀ b, b < 7 → a ≠ b → (TX7 a).2.1 ≠ (TX7 b).2.1 := by decide +kernel
theorem tyX7_ok : ∀ k, k < 7 → parseFieldDescriptor (TX7 k).2.2.1 = some (tyX7 k) := by decide +kernel
abbrev cX7_init : ByteArray := prog_9_method_1_code
def yX7_init : MethodName := ⟨RX7, "<init>", "()V"⟩
def RX8 : String := "SalvageCourt$Tale"
def TX8 : u_T := fun k => match k with
  | 0 => ("SalvageCourt$Tale", "trusts", "[I", true)
  | 1 => ("SalvageCourt$Tale", "log", "[I", true)
  | 2 => ("SalvageCourt$Tale", "from", "[I", true)
  | 3 => ("SalvageCourt$Tale", "to", "[I", true)
  | 4 => ("SalvageCourt$Tale", "low", "[I", true)
  | 5 => ("SalvageCourt$Tale", "high", "[I", true)
  | 6 => ("SalvageCourt$Tale", "told", "I", false)
  | 7 => ("SalvageCourt$Tale", "believedBounds", "LSalvageCourt$Bounds;", true)
  | 8 => ("SalvageCourt$Tale", "isBelieved", "[Z", true)
  | 9 => ("SalvageCourt$Tale", "believedCount", "I", false)
  | 10 => ("SalvageCourt$Tale", "beliefStands", "Z", false)
  | 11 => ("SalvageCourt$Tale", "trialBounds", "LSalvageCourt$Bounds;", true)
  | 12 => ("SalvageCourt$Tale", "stays", "[Z", true)
  | 13 => ("SalvageCourt$Tale", "staying", "I", false)
  | _ => ("SalvageCourt$Tale", "quarrelStands", "Z", false)
def tyX8 : Nat → FieldType := fun k => match k with
  | 0 => .array .int
  | 1 => .array .int
  | 2 => .array .int
  | 3 => .array .int
  | 4 => .array .int
  | 5 => .array .int
  | 6 => .int
  | 7 => .object "SalvageCourt$Bounds"
  | 8 => .array .boolean
  | 9 => .int
  | 10 => .boolean
  | 11 => .object "SalvageCourt$Bounds"
  | 12 => .array .boolean
  | 13 => .int
  | _ => .boolean
theorem nmX8 : ∀ a, a < 15 → ∀ b, b < 15 → a ≠ b → (TX8 a).2.1 ≠ (TX8 b).2.1 := by decide +kernel
theorem tyX8_ok : ∀ k, k < 15 → parseFieldDescriptor (TX8 k).2.2.1 = some (tyX8 k) := by decide +kernel
abbrev cX8_init : ByteArray := prog_10_method_1_code
def yX8_init : MethodName := ⟨RX8, "<init>", "()V"⟩
abbrev cX8_setTrust : ByteArray := prog_10_method_2_code
def yX8_setTrust : MethodName := ⟨RX8, "setTrust", "(II)I"⟩
abbrev cX8_add : ByteArray := prog_10_method_3_code
def yX8_add : MethodName := ⟨RX8, "add", "(IIIII)I"⟩
abbrev cX8_has : ByteArray := prog_10_method_4_code
def yX8_has : MethodName := ⟨RX8, "has", "(I)Z"⟩
abbrev cX8_believes : ByteArray := prog_10_method_5_code
def yX8_believes : MethodName := ⟨RX8, "believes", "(I)Z"⟩
abbrev cX8_howManyBelieved : ByteArray := prog_10_method_6_code
def yX8_howManyBelieved : MethodName := ⟨RX8, "howManyBelieved", "()I"⟩
abbrev cX8_leastSpan : ByteArray := prog_10_method_7_code
def yX8_leastSpan : MethodName := ⟨RX8, "leastSpan", "(II)I"⟩
abbrev cX8_greatestSpan : ByteArray := prog_10_method_8_code
def yX8_greatestSpan : MethodName := ⟨RX8, "greatestSpan", "(II)I"⟩
abbrev cX8_quarrelSize : ByteArray := prog_10_method_9_code
def yX8_quarrelSize : MethodName := ⟨RX8, "quarrelSize", "()I"⟩
abbrev cX8_quarrelling : ByteArray := prog_10_method_10_code
def yX8_quarrelling : MethodName := ⟨RX8, "quarrelling", "(I)I"⟩
abbrev cX8_settleBelief : ByteArray := prog_10_method_11_code
def yX8_settleBelief : MethodName := ⟨RX8, "settleBelief", "()V"⟩
abbrev cX8_settleQuarrel : ByteArray := prog_10_method_12_code
def yX8_settleQuarrel : MethodName := ⟨RX8, "settleQuarrel", "()V"⟩
abbrev cX8_firstToBreak : ByteArray := prog_10_method_13_code
def yX8_firstToBreak : MethodName := ⟨RX8, "firstToBreak", "(I)I"⟩
abbrev cX8_takes : ByteArray := prog_10_method_14_code
def yX8_takes : MethodName := ⟨RX8, "takes", "(LSalvageCourt$Bounds;I)Z"⟩
def RX9 : String := "SalvageCourt$Tape"
def TX9 : u_T := fun k => match k with
  | 0 => ("SalvageCourt$Tape", "bytes", "[B", true)
  | 1 => ("SalvageCourt$Tape", "length", "I", false)
  | 2 => ("SalvageCourt$Tape", "place", "I", false)
  | 3 => ("SalvageCourt$Tape", "wordPlace", "I", false)
  | 4 => ("SalvageCourt$Tape", "told", "I", false)
  | _ => ("SalvageCourt$Tape", "fault", "I", false)
def tyX9 : Nat → FieldType := fun k => match k with
  | 0 => .array .byte
  | 1 => .int
  | 2 => .int
  | 3 => .int
  | 4 => .int
  | _ => .int
theorem nmX9 : ∀ a, a < 6 → ∀ b, b < 6 → a ≠ b → (TX9 a).2.1 ≠ (TX9 b).2.1 := by decide +kernel
theorem tyX9_ok : ∀ k, k < 6 → parseFieldDescriptor (TX9 k).2.2.1 = some (tyX9 k) := by decide +kernel
abbrev cX9_init : ByteArray := prog_11_method_1_code
def yX9_init : MethodName := ⟨RX9, "<init>", "()V"⟩
abbrev cX9_append : ByteArray := prog_11_method_2_code
def yX9_append : MethodName := ⟨RX9, "append", "(I)V"⟩
abbrev cX9_readInto : ByteArray := prog_11_method_3_code
def yX9_readInto : MethodName := ⟨RX9, "readInto", "(LSalvageCourt$Law;)I"⟩
abbrev cX9_readClause : ByteArray := prog_11_method_4_code
def yX9_readClause : MethodName := ⟨RX9, "readClause", "(LSalvageCourt$Law;)V"⟩
abbrev cX9_readWeight : ByteArray := prog_11_method_5_code
def yX9_readWeight : MethodName := ⟨RX9, "readWeight", "(LSalvageCourt$Law;)V"⟩
abbrev cX9_tellOnce : ByteArray := prog_11_method_6_code
def yX9_tellOnce : MethodName := ⟨RX9, "tellOnce", "(I)V"⟩
abbrev cX9_readWord : ByteArray := prog_11_method_7_code
def yX9_readWord : MethodName := ⟨RX9, "readWord", "(Ljava/lang/String;)I"⟩
abbrev cX9_numberOfWord : ByteArray := prog_11_method_8_code
def yX9_numberOfWord : MethodName := ⟨RX9, "numberOfWord", "(Ljava/lang/String;)I"⟩
abbrev cX9_readNumber : ByteArray := prog_11_method_9_code
def yX9_readNumber : MethodName := ⟨RX9, "readNumber", "(I)I"⟩
abbrev cX9_readSemicolon : ByteArray := prog_11_method_10_code
def yX9_readSemicolon : MethodName := ⟨RX9, "readSemicolon", "()V"⟩
abbrev cX9_skipBlanks : ByteArray := prog_11_method_11_code
def yX9_skipBlanks : MethodName := ⟨RX9, "skipBlanks", "()V"⟩
abbrev cX9_refuse : ByteArray := prog_11_method_12_code
def yX9_refuse : MethodName := ⟨RX9, "refuse", "(II)V"⟩
abbrev cX9_isBetween : ByteArray := prog_11_method_13_code
def yX9_isBetween : MethodName := ⟨RX9, "isBetween", "(BCC)Z"⟩
def RX10 : String := "SalvageCourt$Times"
def TX10 : u_T := fun k => match k with
  | 0 => ("SalvageCourt$Times", "since", "[I", true)
  | _ => ("SalvageCourt$Times", "knownSince", "[I", true)
def tyX10 : Nat → FieldType := fun k => match k with
  | 0 => .array .int
  | _ => .array .int
theorem nmX10 : ∀ a, a < 2 → ∀ b, b < 2 → a ≠ b → (TX10 a).2.1 ≠ (TX10 b).2.1 := by decide +kernel
theorem tyX10_ok : ∀ k, k < 2 → parseFieldDescriptor (TX10 k).2.2.1 = some (tyX10 k) := by decide +kernel
abbrev cX10_init : ByteArray := prog_12_method_1_code
def yX10_init : MethodName := ⟨RX10, "<init>", "(I)V"⟩
abbrev cX10_set : ByteArray := prog_12_method_2_code
def yX10_set : MethodName := ⟨RX10, "set", "(III)V"⟩
abbrev cX10_isSet : ByteArray := prog_12_method_3_code
def yX10_isSet : MethodName := ⟨RX10, "isSet", "(I)Z"⟩
abbrev cX10_holds : ByteArray := prog_12_method_4_code
def yX10_holds : MethodName := ⟨RX10, "holds", "(III)Z"⟩
abbrev cX10_supersedes : ByteArray := prog_12_method_5_code
def yX10_supersedes : MethodName := ⟨RX10, "supersedes", "(II)Z"⟩
abbrev cX10_latestOf : ByteArray := prog_12_method_6_code
def yX10_latestOf : MethodName := ⟨RX10, "latestOf", "(III)I"⟩
def RX11 : String := "SalvageCourt"
def TX11 : u_T := fun k => match k with
  | 0 => ("SalvageCourt", "tale", "LSalvageCourt$Tale;", true)
  | 1 => ("SalvageCourt", "goods", "LSalvageCourt$Goods;", true)
  | 2 => ("SalvageCourt", "cases", "LSalvageCourt$Cases;", true)
  | 3 => ("SalvageCourt", "tape", "LSalvageCourt$Tape;", true)
  | 4 => ("SalvageCourt", "laws", "[LSalvageCourt$Law;", true)
  | 5 => ("SalvageCourt", "lawTimes", "LSalvageCourt$Times;", true)
  | 6 => ("SalvageCourt", "sheet", "LSalvageCourt$Crew;", true)
  | 7 => ("SalvageCourt", "ships", "[LSalvageCourt$Ship;", true)
  | 8 => ("SalvageCourt", "latest", "LSalvageCourt$Judgement;", true)
  | 9 => ("SalvageCourt", "today", "I", false)
  | 10 => ("SalvageCourt", "suitMarks", "I", false)
  | 11 => ("SalvageCourt", "suitLives", "I", false)
  | 12 => ("SalvageCourt", "lawCount", "I", false)
  | _ => ("SalvageCourt", "shipCount", "I", false)
def tyX11 : Nat → FieldType := fun k => match k with
  | 0 => .object "SalvageCourt$Tale"
  | 1 => .object "SalvageCourt$Goods"
  | 2 => .object "SalvageCourt$Cases"
  | 3 => .object "SalvageCourt$Tape"
  | 4 => .array (.object "SalvageCourt$Law")
  | 5 => .object "SalvageCourt$Times"
  | 6 => .object "SalvageCourt$Crew"
  | 7 => .array (.object "SalvageCourt$Ship")
  | 8 => .object "SalvageCourt$Judgement"
  | 9 => .int
  | 10 => .int
  | 11 => .int
  | 12 => .int
  | _ => .int
theorem nmX11 : ∀ a, a < 14 → ∀ b, b < 14 → a ≠ b → (TX11 a).2.1 ≠ (TX11 b).2.1 := by decide +kernel
theorem tyX11_ok : ∀ k, k < 14 → parseFieldDescriptor (TX11 k).2.2.1 = some (tyX11 k) := by decide +kernel
abbrev cX11_init : ByteArray := prog_1_method_1_code
def yX11_init : MethodName := ⟨RX11, "<init>", "()V"⟩
abbrev cX11_clock : ByteArray := prog_1_method_2_code
def yX11_clock : MethodName := ⟨RX11, "clock", "(I)Z"⟩
abbrev cX11_trust : ByteArray := prog_1_method_3_code
def yX11_trust : MethodName := ⟨RX11, "trust", "(II)I"⟩
abbrev cX11_says : ByteArray := prog_1_method_4_code
def yX11_says : MethodName := ⟨RX11, "says", "(IIIII)I"⟩
abbrev cX11_believed : ByteArray := prog_1_method_5_code
def yX11_believed : MethodName := ⟨RX11, "believed", "(I)I"⟩
abbrev cX11_spans : ByteArray := prog_1_method_6_code
def yX11_spans : MethodName := ⟨RX11, "spans", "(III)I"⟩
abbrev cX11_quarrel : ByteArray := prog_1_method_7_code
def yX11_quarrel : MethodName := ⟨RX11, "quarrel", "()I"⟩
abbrev cX11_quarrels : ByteArray := prog_1_method_8_code
def yX11_quarrels : MethodName := ⟨RX11, "quarrels", "(I)I"⟩
abbrev cX11_value : ByteArray := prog_1_method_9_code
def yX11_value : MethodName := ⟨RX11, "value", "(IIII)I"⟩
abbrev cX11_earlier : ByteArray := prog_1_method_10_code
def yX11_earlier : MethodName := ⟨RX11, "earlier", "(III)I"⟩
abbrev cX11_overrule : ByteArray := prog_1_method_11_code
def yX11_overrule : MethodName := ⟨RX11, "overrule", "(II)Z"⟩
abbrev cX11_suit : ByteArray := prog_1_method_12_code
def yX11_suit : MethodName := ⟨RX11, "suit", "(II)Z"⟩
abbrev cX11_feed : ByteArray := prog_1_method_13_code
def yX11_feed : MethodName := ⟨RX11, "feed", "(IIIII)I"⟩
abbrev cX11_end : ByteArray := prog_1_method_14_code
def yX11_end : MethodName := ⟨RX11, "end", "(I)I"⟩
abbrev cX11_law : ByteArray := prog_1_method_15_code
def yX11_law : MethodName := ⟨RX11, "law", "(I)I"⟩
abbrev cX11_sheet : ByteArray := prog_1_method_16_code
def yX11_sheet : MethodName := ⟨RX11, "sheet", "(IJJJJ)Z"⟩
abbrev cX11_ship : ByteArray := prog_1_method_17_code
def yX11_ship : MethodName := ⟨RX11, "ship", "(IIIIII)I"⟩
abbrev cX11_judge : ByteArray := prog_1_method_18_code
def yX11_judge : MethodName := ⟨RX11, "judge", "(II)I"⟩
abbrev cX11_judged : ByteArray := prog_1_method_19_code
def yX11_judged : MethodName := ⟨RX11, "judged", "(I)J"⟩
abbrev cX11_like : ByteArray := prog_1_method_20_code
def yX11_like : MethodName := ⟨RX11, "like", "(I)I"⟩
abbrev cX11_share : ByteArray := prog_1_method_21_code
def yX11_share : MethodName := ⟨RX11, "share", "(II)J"⟩
abbrev cX11_hand : ByteArray := prog_1_method_22_code
def yX11_hand : MethodName := ⟨RX11, "hand", "(II)J"⟩
abbrev cX11_saved : ByteArray := prog_1_method_23_code
def yX11_saved : MethodName := ⟨RX11, "saved", "(III)I"⟩
abbrev cX11_count : ByteArray := prog_1_method_24_code
def yX11_count : MethodName := ⟨RX11, "count", "(I)I"⟩
abbrev cX11_isWithin : ByteArray := prog_1_method_25_code
def yX11_isWithin : MethodName := ⟨RX11, "isWithin", "(III)Z"⟩
abbrev cX11_isDay : ByteArray := prog_1_method_26_code
def yX11_isDay : MethodName := ⟨RX11, "isDay", "(I)Z"⟩
abbrev cX11_isThing : ByteArray := prog_1_method_27_code
def yX11_isThing : MethodName := ⟨RX11, "isThing", "(I)Z"⟩
abbrev cX11_isGood : ByteArray := prog_1_method_28_code
def yX11_isGood : MethodName := ⟨RX11, "isGood", "(I)Z"⟩
abbrev cX11_handWeight : ByteArray := prog_1_method_29_code
def yX11_handWeight : MethodName := ⟨RX11, "handWeight", "(IJJJJ)I"⟩
def RX12 : String := "SalvageCourtModel"
def TX12 : u_T := fun k => match k with
  | 0 => ("SalvageCourtModel", "thrown", "I", false)
  | 1 => ("SalvageCourtModel", "clock", "I", false)
  | 2 => ("SalvageCourtModel", "trust", "[I", true)
  | 3 => ("SalvageCourtModel", "sayings", "I", false)
  | 4 => ("SalvageCourtModel", "log", "[I", true)
  | 5 => ("SalvageCourtModel", "first", "[I", true)
  | 6 => ("SalvageCourtModel", "second", "[I", true)
  | 7 => ("SalvageCourtModel", "low", "[I", true)
  | 8 => ("SalvageCourtModel", "high", "[I", true)
  | 9 => ("SalvageCourtModel", "most", "[[J", true)
  | 10 => ("SalvageCourtModel", "isIn", "[Z", true)
  | 11 => ("SalvageCourtModel", "values", "I", false)
  | 12 => ("SalvageCourtModel", "good", "[I", true)
  | 13 => ("SalvageCourtModel", "coins", "[I", true)
  | 14 => ("SalvageCourtModel", "repairs", "[I", true)
  | 15 => ("SalvageCourtModel", "valueDay", "[I", true)
  | 16 => ("SalvageCourtModel", "valueKnown", "[I", true)
  | 17 => ("SalvageCourtModel", "cases", "I", false)
  | 18 => ("SalvageCourtModel", "marks", "[I", true)
  | 19 => ("SalvageCourtModel", "award", "[I", true)
  | 20 => ("SalvageCourtModel", "caseDay", "[I", true)
  | 21 => ("SalvageCourtModel", "caseKnown", "[I", true)
  | 22 => ("SalvageCourtModel", "overDay", "[I", true)
  | 23 => ("SalvageCourtModel", "overKnown", "[I", true)
  | 24 => ("SalvageCourtModel", "suitMarks", "I", false)
  | 25 => ("SalvageCourtModel", "lives", "I", false)
  | 26 => ("SalvageCourtModel", "laws", "I", false)
  | 27 => ("SalvageCourtModel", "lawDay", "[I", true)
  | 28 => ("SalvageCourtModel", "lawKnown", "[I", true)
  | 29 => ("SalvageCourtModel", "laid", "[[I", true)
  | 30 => ("SalvageCourtModel", "tape", "[B", true)
  | 31 => ("SalvageCourtModel", "taped", "I", false)
  | 32 => ("SalvageCourtModel", "at", "I", false)
  | 33 => ("SalvageCourtModel", "from", "I", false)
  | 34 => ("SalvageCourtModel", "fault", "I", false)
  | 35 => ("SalvageCourtModel", "hasSheet", "Z", false)
  | 36 => ("SalvageCourtModel", "sheetHands", "I", false)
  | 37 => ("SalvageCourtModel", "sheetWeight", "[I", true)
  | 38 => ("SalvageCourtModel", "ships", "I", false)
  | 39 => ("SalvageCourtModel", "tons", "[I", true)
  | 40 => ("SalvageCourtModel", "came", "[I", true)
  | 41 => ("SalvageCourtModel", "left", "[I", true)
  | 42 => ("SalvageCourtModel", "claim", "[I", true)
  | 43 => ("SalvageCourtModel", "owner", "[I", true)
  | 44 => ("SalvageCourtModel", "master", "[I", true)
  | 45 => ("SalvageCourtModel", "hands", "[I", true)
  | 46 => ("SalvageCourtModel", "weight", "[[I", true)
  | 47 => ("SalvageCourtModel", "isJudged", "Z", false)
  | 48 => ("SalvageCourtModel", "itsLaw", "I", false)
  | 49 => ("SalvageCourtModel", "likes", "I", false)
  | 50 => ("SalvageCourtModel", "rate", "I", false)
  | 51 => ("SalvageCourtModel", "itsShips", "I", false)
  | 52 => ("SalvageCourtModel", "like", "[I", true)
  | 53 => ("SalvageCourtModel", "all", "J", false)
  | 54 => ("SalvageCourtModel", "given", "J", false)
  | 55 => ("SalvageCourtModel", "back", "J", false)
  | 56 => ("SalvageCourtModel", "share", "[[J", true)
  | 57 => ("SalvageCourtModel", "hand", "[[J", true)
  | _ => ("SalvageCourtModel", "itsHands", "[I", true)
def tyX12 : Nat → FieldType := fun k => match k with
  | 0 => .int
  | 1 => .int
  | 2 => .array .int
  | 3 => .int
  | 4 => .array .int
  | 5 => .array .int
  | 6 => .array .int
  | 7 => .array .int
  | 8 => .array .int
  | 9 => .array (.array .long)
  | 10 => .array .boolean
  | 11 => .int
  | 12 => .array .int
  | 13 => .array .int
  | 14 => .array .int
  | 15 => .array .int
  | 16 => .array .int
  | 17 => .int
  | 18 => .array .int
  | 19 => .array .int
  | 20 => .array .int
  | 21 => .array .int
  | 22 => .array .int
  | 23 => .array .int
  | 24 => .int
  | 25 => .int
  | 26 => .int
  | 27 => .array .int
  | 28 => .array .int
  | 29 => .array (.array .int)
  | 30 => .array .byte
  | 31 => .int
  | 32 => .int
  | 33 => .int
  | 34 => .int
  | 35 => .boolean
  | 36 => .int
  | 37 => .array .int
  | 38 => .int
  | 39 => .array .int
  | 40 => .array .int
  | 41 => .array .int
  | 42 => .array .int
  | 43 => .array .int
  | 44 => .array .int
  | 45 => .array .int
  | 46 => .array (.array .int)
  | 47 => .boolean
  | 48 => .int
  | 49 => .int
  | 50 => .int
  | 51 => .int
  | 52 => .array .int
  | 53 => .long
  | 54 => .long
  | 55 => .long
  | 56 => .array (.array .long)
  | 57 => .array (.array .long)
  | _ => .array .int
theorem nmX12 : ∀ a, a < 59 → ∀ b, b < 59 → a ≠ b → (TX12 a).2.1 ≠ (TX12 b).2.1 := by decide +kernel
theorem tyX12_ok : ∀ k, k < 59 → parseFieldDescriptor (TX12 k).2.2.1 = some (tyX12 k) := by decide +kernel
abbrev cX12_init : ByteArray := prog_14_method_1_code
def yX12_init : MethodName := ⟨RX12, "<init>", "()V"⟩
abbrev cX12_in : ByteArray := prog_14_method_3_code
def yX12_in : MethodName := ⟨RX12, "in", "(III)Z"⟩
abbrev cX12_clock : ByteArray := prog_14_method_4_code
def yX12_clock : MethodName := ⟨RX12, "clock", "(I)Z"⟩
abbrev cX12_trust : ByteArray := prog_14_method_5_code
def yX12_trust : MethodName := ⟨RX12, "trust", "(II)I"⟩
abbrev cX12_says : ByteArray := prog_14_method_6_code
def yX12_says : MethodName := ⟨RX12, "says", "(IIIII)I"⟩
abbrev cX12_canBe : ByteArray := prog_14_method_7_code
def yX12_canBe : MethodName := ⟨RX12, "canBe", "()Z"⟩
abbrev cX12_believe : ByteArray := prog_14_method_8_code
def yX12_believe : MethodName := ⟨RX12, "believe", "()V"⟩
abbrev cX12_believed : ByteArray := prog_14_method_9_code
def yX12_believed : MethodName := ⟨RX12, "believed", "(I)I"⟩
abbrev cX12_spans : ByteArray := prog_14_method_10_code
def yX12_spans : MethodName := ⟨RX12, "spans", "(III)I"⟩
abbrev cX12_quarrel : ByteArray := prog_14_method_11_code
def yX12_quarrel : MethodName := ⟨RX12, "quarrel", "()I"⟩
abbrev cX12_quarrels : ByteArray := prog_14_method_12_code
def yX12_quarrels : MethodName := ⟨RX12, "quarrels", "(I)I"⟩
abbrev cX12_value : ByteArray := prog_14_method_13_code
def yX12_value : MethodName := ⟨RX12, "value", "(IIII)I"⟩
abbrev cX12_saved : ByteArray := prog_14_method_14_code
def yX12_saved : MethodName := ⟨RX12, "saved", "(III)I"⟩
abbrev cX12_earlier : ByteArray := prog_14_method_15_code
def yX12_earlier : MethodName := ⟨RX12, "earlier", "(III)I"⟩
abbrev cX12_overrule : ByteArray := prog_14_method_16_code
def yX12_overrule : MethodName := ⟨RX12, "overrule", "(II)Z"⟩
abbrev cX12_suit : ByteArray := prog_14_method_17_code
def yX12_suit : MethodName := ⟨RX12, "suit", "(II)Z"⟩
abbrev cX12_feed : ByteArray := prog_14_method_18_code
def yX12_feed : MethodName := ⟨RX12, "feed", "(IIIII)I"⟩
abbrev cX12_put : ByteArray := prog_14_method_19_code
def yX12_put : MethodName := ⟨RX12, "put", "(I)V"⟩
abbrev cX12_end : ByteArray := prog_14_method_20_code
def yX12_end : MethodName := ⟨RX12, "end", "(I)I"⟩
abbrev cX12_fails : ByteArray := prog_14_method_21_code
def yX12_fails : MethodName := ⟨RX12, "fails", "(II)V"⟩
abbrev cX12_isEnd : ByteArray := prog_14_method_22_code
def yX12_isEnd : MethodName := ⟨RX12, "isEnd", "()Z"⟩
abbrev cX12_word : ByteArray := prog_14_method_23_code
def yX12_word : MethodName := ⟨RX12, "word", "()V"⟩
abbrev cX12_is : ByteArray := prog_14_method_24_code
def yX12_is : MethodName := ⟨RX12, "is", "(Ljava/lang/String;)Z"⟩
abbrev cX12_number : ByteArray := prog_14_method_25_code
def yX12_number : MethodName := ⟨RX12, "number", "(II)I"⟩
abbrev cX12_markOf : ByteArray := prog_14_method_26_code
def yX12_markOf : MethodName := ⟨RX12, "markOf", "(I)Ljava/lang/String;"⟩
abbrev cX12_clauseOf : ByteArray := prog_14_method_27_code
def yX12_clauseOf : MethodName := ⟨RX12, "clauseOf", "(I)Ljava/lang/String;"⟩
abbrev cX12_gives : ByteArray := prog_14_method_28_code
def yX12_gives : MethodName := ⟨RX12, "gives", "()I"⟩
abbrev cX12_clause : ByteArray := prog_14_method_29_code
def yX12_clause : MethodName := ⟨RX12, "clause", "([I[Z)V"⟩
abbrev cX12_law : ByteArray := prog_14_method_30_code
def yX12_law : MethodName := ⟨RX12, "law", "(I)I"⟩
abbrev cX12_sheet : ByteArray := prog_14_method_31_code
def yX12_sheet : MethodName := ⟨RX12, "sheet", "(IJJJJ)Z"⟩
abbrev cX12_ship : ByteArray := prog_14_method_32_code
def yX12_ship : MethodName := ⟨RX12, "ship", "(IIIIII)I"⟩
abbrev cX12_distance : ByteArray := prog_14_method_33_code
def yX12_distance : MethodName := ⟨RX12, "distance", "(I[I)I"⟩
abbrev cX12_rated : ByteArray := prog_14_method_34_code
def yX12_rated : MethodName := ⟨RX12, "rated", "([I)I"⟩
abbrev cX12_judge : ByteArray := prog_14_method_35_code
def yX12_judge : MethodName := ⟨RX12, "judge", "(II)I"⟩
abbrev cX12_parts : ByteArray := prog_14_method_36_code
def yX12_parts : MethodName := ⟨RX12, "parts", "([I)V"⟩
abbrev cX12_aboard : ByteArray := prog_14_method_37_code
def yX12_aboard : MethodName := ⟨RX12, "aboard", "(I[I)V"⟩
abbrev cX12_judged : ByteArray := prog_14_method_38_code
def yX12_judged : MethodName := ⟨RX12, "judged", "(I)J"⟩
abbrev cX12_like : ByteArray := prog_14_method_39_code
def yX12_like : MethodName := ⟨RX12, "like", "(I)I"⟩
abbrev cX12_share : ByteArray := prog_14_method_40_code
def yX12_share : MethodName := ⟨RX12, "share", "(II)J"⟩
abbrev cX12_hand : ByteArray := prog_14_method_41_code
def yX12_hand : MethodName := ⟨RX12, "hand", "(II)J"⟩
abbrev cX12_count : ByteArray := prog_14_method_42_code
def yX12_count : MethodName := ⟨RX12, "count", "(I)I"⟩
def RJ9 : String := "java/lang/Math"
def TJ9 : u_T := fun k => match k with
  | _ => ("", "", "", false)
def tyJ9 : Nat → FieldType := fun k => match k with
  | _ => .int
theorem nmJ9 : ∀ a, a < 0 → ∀ b, b < 0 → a ≠ b → (TJ9 a).2.1 ≠ (TJ9 b).2.1 := by decide +kernel
theorem tyJ9_ok : ∀ k, k < 0 → parseFieldDescriptor (TJ9 k).2.2.1 = some (tyJ9 k) := by decide +kernel
abbrev cJ9_abs_0f7a4 : ByteArray := prog_15_method_59_code
def yJ9_abs_0f7a4 : MethodName := ⟨RJ9, "abs", "(I)I"⟩
abbrev cJ9_max_7cf53 : ByteArray := prog_15_method_65_code
def yJ9_max_7cf53 : MethodName := ⟨RJ9, "max", "(II)I"⟩
abbrev cJ9_min_7cf53 : ByteArray := prog_15_method_69_code
def yJ9_min_7cf53 : MethodName := ⟨RJ9, "min", "(II)I"⟩
abbrev cJ9_min_f86c9 : ByteArray := prog_15_method_70_code
def yJ9_min_f86c9 : MethodName := ⟨RJ9, "min", "(JJ)J"⟩
def RJ0 : String := "java/lang/String"
def TJ0 : u_T := fun k => match k with
  | _ => ("", "", "", false)
def tyJ0 : Nat → FieldType := fun k => match k with
  | _ => .int
theorem nmJ0 : ∀ a, a < 0 → ∀ b, b < 0 → a ≠ b → (TJ0 a).2.1 ≠ (TJ0 b).2.1 := by decide +kernel
theorem tyJ0_ok : ∀ k, k < 0 → parseFieldDescriptor (TJ0 k).2.2.1 = some (tyJ0 k) := by decide +kernel
abbrev cJ0_length_8abf5 : ByteArray := prog_16_method_54_code
def yJ0_length_8abf5 : MethodName := ⟨RJ0, "length", "()I"⟩
abbrev cJ0_charAt_5068e : ByteArray := prog_16_method_56_code
def yJ0_charAt_5068e : MethodName := ⟨RJ0, "charAt", "(I)C"⟩
abbrev cJ0_coder_7d493 : ByteArray := prog_16_method_152_code
def yJ0_coder_7d493 : MethodName := ⟨RJ0, "coder", "()B"⟩
abbrev cJ0_isLatin1_aae02 : ByteArray := prog_16_method_154_code
def yJ0_isLatin1_aae02 : MethodName := ⟨RJ0, "isLatin1", "()Z"⟩
abbrev cJ0_checkIndex_df160 : ByteArray := prog_16_method_155_code
def yJ0_checkIndex_df160 : MethodName := ⟨RJ0, "checkIndex", "(II)V"⟩
def RJ1 : String := "java/lang/StringLatin1"
def TJ1 : u_T := fun k => match k with
  | _ => ("", "", "", false)
def tyJ1 : Nat → FieldType := fun k => match k with
  | _ => .int
theorem nmJ1 : ∀ a, a < 0 → ∀ b, b < 0 → a ≠ b → (TJ1 a).2.1 ≠ (TJ1 b).2.1 := by decide +kernel
theorem tyJ1_ok : ∀ k, k < 0 → parseFieldDescriptor (TJ1 k).2.2.1 = some (tyJ1 k) := by decide +kernel
abbrev cJ1_charAt_3b067 : ByteArray := prog_17_method_2_code
def yJ1_charAt_3b067 : MethodName := ⟨RJ1, "charAt", "([BI)C"⟩
def RJ2 : String := "java/lang/StringUTF16"
def TJ2 : u_T := fun k => match k with
  | _ => ("", "", "", false)
def tyJ2 : Nat → FieldType := fun k => match k with
  | _ => .int
theorem nmJ2 : ∀ a, a < 0 → ∀ b, b < 0 → a ≠ b → (TJ2 a).2.1 ≠ (TJ2 b).2.1 := by decide +kernel
theorem tyJ2_ok : ∀ k, k < 0 → parseFieldDescriptor (TJ2 k).2.2.1 = some (tyJ2 k) := by decide +kernel
abbrev cJ2_getChar_3b067 : ByteArray := prog_18_method_5_code
def yJ2_getChar_3b067 : MethodName := ⟨RJ2, "getChar", "([BI)C"⟩
abbrev cJ2_length_9d52b : ByteArray := prog_18_method_6_code
def yJ2_length_9d52b : MethodName := ⟨RJ2, "length", "([B)I"⟩
abbrev cJ2_charAt_3b067 : ByteArray := prog_18_method_83_code
def yJ2_charAt_3b067 : MethodName := ⟨RJ2, "charAt", "([BI)C"⟩
abbrev cJ2_checkIndex_2214a : ByteArray := prog_18_method_91_code
def yJ2_checkIndex_2214a : MethodName := ⟨RJ2, "checkIndex", "(I[B)V"⟩
def RJ7 : String := "java/util/Arrays"
def TJ7 : u_T := fun k => match k with
  | _ => ("", "", "", false)
def tyJ7 : Nat → FieldType := fun k => match k with
  | _ => .int
theorem nmJ7 : ∀ a, a < 0 → ∀ b, b < 0 → a ≠ b → (TJ7 a).2.1 ≠ (TJ7 b).2.1 := by decide +kernel
theorem tyJ7_ok : ∀ k, k < 0 → parseFieldDescriptor (TJ7 k).2.2.1 = some (tyJ7 k) := by decide +kernel
abbrev cJ7_fill_53178 : ByteArray := prog_19_method_103_code
def yJ7_fill_53178 : MethodName := ⟨RJ7, "fill", "([II)V"⟩
def RJ3 : String := "jdk/internal/util/Preconditions"
def TJ3 : u_T := fun k => match k with
  | _ => ("", "", "", false)
def tyJ3 : Nat → FieldType := fun k => match k with
  | _ => .int
theorem nmJ3 : ∀ a, a < 0 → ∀ b, b < 0 → a ≠ b → (TJ3 a).2.1 ≠ (TJ3 b).2.1 := by decide +kernel
theorem tyJ3_ok : ∀ k, k < 0 → parseFieldDescriptor (TJ3 k).2.2.1 = some (tyJ3 k) := by decide +kernel
abbrev cJ3_checkIndex_8e157 : ByteArray := prog_20_method_11_code
def yJ3_checkIndex_8e157 : MethodName := ⟨RJ3, "checkIndex", "(IILjava/util/function/BiFunction;)I"⟩
def RL : String := "SalvageCourtLaw"
abbrev cL_law : ByteArray := code
def yL_law : MethodName := ⟨RL, "law", "([I)Z"⟩
abbrev vwCl : List vw_C := [(RX0, TX0, 1), (RX1, TX1, 5), (RX2, TX2, 3), (RX3, TX3, 4), (RX4, TX4, 11), (RX5, TX5, 7), (RX6, TX6, 10), (RX7, TX7, 7), (RX8, TX8, 15), (RX9, TX9, 6), (RX10, TX10, 2), (RX11, TX11, 14), (RX12, TX12, 59)]
