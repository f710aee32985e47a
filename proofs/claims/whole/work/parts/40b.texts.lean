/-! The texts by their numbers. -/
section TXN
variable {p : Program} {s : State} {m : MethodId} {c : Code} {cc : ByteArray} {nL : Nat} {E : hEnv} {A : Nat → Prop} {own : String}
theorem tx_0 (C : hC E A p s m c cc nL own) : vk_R RX9 44 "weigh like give else life late " (E.2.2.2.1 0) s := by
  have h : vk_R "SalvageCourt$Tape" 44 "weigh like give else life late " (E.2.2.2.1 0) s := C.2.2.2.2.2.2.1 0 ("SalvageCourt$Tape", 44, "weigh like give else life late ") (by decide)
  exact h
theorem tx_1 (C : hC E A p s m c cc nL own) : vk_R RX9 86 "danger skill labour weather worth " (E.2.2.2.1 1) s := by
  have h : vk_R "SalvageCourt$Tape" 86 "danger skill labour weather worth " (E.2.2.2.1 1) s := C.2.2.2.2.2.2.1 1 ("SalvageCourt$Tape", 86, "danger skill labour weather worth ") (by decide)
  exact h
theorem tx_2 (C : hC E A p s m c cc nL own) : vk_R RX9 64 "least middle greatest mean " (E.2.2.2.1 2) s := by
  have h : vk_R "SalvageCourt$Tape" 64 "least middle greatest mean " (E.2.2.2.1 2) s := C.2.2.2.2.2.2.1 2 ("SalvageCourt$Tape", 64, "least middle greatest mean ") (by decide)
  exact h
theorem tx_3 (C : hC E A p s m c cc nL own) : vk_R RX9 78 "after " (E.2.2.2.1 3) s := by
  have h : vk_R "SalvageCourt$Tape" 78 "after " (E.2.2.2.1 3) s := C.2.2.2.2.2.2.1 3 ("SalvageCourt$Tape", 78, "after ") (by decide)
  exact h
theorem tx_4 (C : hC E A p s m c cc nL own) : vk_R RX12 232 "weigh" (E.2.2.2.1 4) s := by
  have h : vk_R "SalvageCourtModel" 232 "weigh" (E.2.2.2.1 4) s := C.2.2.2.2.2.2.1 4 ("SalvageCourtModel", 232, "weigh") (by decide)
  exact h
theorem tx_5 (C : hC E A p s m c cc nL own) : vk_R RX12 198 "danger" (E.2.2.2.1 5) s := by
  have h : vk_R "SalvageCourtModel" 198 "danger" (E.2.2.2.1 5) s := C.2.2.2.2.2.2.1 5 ("SalvageCourtModel", 198, "danger") (by decide)
  exact h
theorem tx_6 (C : hC E A p s m c cc nL own) : vk_R RX12 200 "skill" (E.2.2.2.1 6) s := by
  have h : vk_R "SalvageCourtModel" 200 "skill" (E.2.2.2.1 6) s := C.2.2.2.2.2.2.1 6 ("SalvageCourtModel", 200, "skill") (by decide)
  exact h
theorem tx_7 (C : hC E A p s m c cc nL own) : vk_R RX12 202 "labour" (E.2.2.2.1 7) s := by
  have h : vk_R "SalvageCourtModel" 202 "labour" (E.2.2.2.1 7) s := C.2.2.2.2.2.2.1 7 ("SalvageCourtModel", 202, "labour") (by decide)
  exact h
theorem tx_8 (C : hC E A p s m c cc nL own) : vk_R RX12 204 "weather" (E.2.2.2.1 8) s := by
  have h : vk_R "SalvageCourtModel" 204 "weather" (E.2.2.2.1 8) s := C.2.2.2.2.2.2.1 8 ("SalvageCourtModel", 204, "weather") (by decide)
  exact h
theorem tx_9 (C : hC E A p s m c cc nL own) : vk_R RX12 206 "worth" (E.2.2.2.1 9) s := by
  have h : vk_R "SalvageCourtModel" 206 "worth" (E.2.2.2.1 9) s := C.2.2.2.2.2.2.1 9 ("SalvageCourtModel", 206, "worth") (by decide)
  exact h
theorem tx_10 (C : hC E A p s m c cc nL own) : vk_R RX12 208 "like" (E.2.2.2.1 10) s := by
  have h : vk_R "SalvageCourtModel" 208 "like" (E.2.2.2.1 10) s := C.2.2.2.2.2.2.1 10 ("SalvageCourtModel", 208, "like") (by decide)
  exact h
theorem tx_11 (C : hC E A p s m c cc nL own) : vk_R RX12 209 "give" (E.2.2.2.1 11) s := by
  have h : vk_R "SalvageCourtModel" 209 "give" (E.2.2.2.1 11) s := C.2.2.2.2.2.2.1 11 ("SalvageCourtModel", 209, "give") (by decide)
  exact h
theorem tx_12 (C : hC E A p s m c cc nL own) : vk_R RX12 211 "else" (E.2.2.2.1 12) s := by
  have h : vk_R "SalvageCourtModel" 211 "else" (E.2.2.2.1 12) s := C.2.2.2.2.2.2.1 12 ("SalvageCourtModel", 211, "else") (by decide)
  exact h
theorem tx_13 (C : hC E A p s m c cc nL own) : vk_R RX12 213 "life" (E.2.2.2.1 13) s := by
  have h : vk_R "SalvageCourtModel" 213 "life" (E.2.2.2.1 13) s := C.2.2.2.2.2.2.1 13 ("SalvageCourtModel", 213, "life") (by decide)
  exact h
theorem tx_14 (C : hC E A p s m c cc nL own) : vk_R RX12 215 "late" (E.2.2.2.1 14) s := by
  have h : vk_R "SalvageCourtModel" 215 "late" (E.2.2.2.1 14) s := C.2.2.2.2.2.2.1 14 ("SalvageCourtModel", 215, "late") (by decide)
  exact h
theorem tx_15 (C : hC E A p s m c cc nL own) : vk_R RX12 217 "least" (E.2.2.2.1 15) s := by
  have h : vk_R "SalvageCourtModel" 217 "least" (E.2.2.2.1 15) s := C.2.2.2.2.2.2.1 15 ("SalvageCourtModel", 217, "least") (by decide)
  exact h
theorem tx_16 (C : hC E A p s m c cc nL own) : vk_R RX12 223 "middle" (E.2.2.2.1 16) s := by
  have h : vk_R "SalvageCourtModel" 223 "middle" (E.2.2.2.1 16) s := C.2.2.2.2.2.2.1 16 ("SalvageCourtModel", 223, "middle") (by decide)
  exact h
theorem tx_17 (C : hC E A p s m c cc nL own) : vk_R RX12 225 "greatest" (E.2.2.2.1 17) s := by
  have h : vk_R "SalvageCourtModel" 225 "greatest" (E.2.2.2.1 17) s := C.2.2.2.2.2.2.1 17 ("SalvageCourtModel", 225, "greatest") (by decide)
  exact h
theorem tx_18 (C : hC E A p s m c cc nL own) : vk_R RX12 227 "mean" (E.2.2.2.1 18) s := by
  have h : vk_R "SalvageCourtModel" 227 "mean" (E.2.2.2.1 18) s := C.2.2.2.2.2.2.1 18 ("SalvageCourtModel", 227, "mean") (by decide)
  exact h
theorem tx_19 (C : hC E A p s m c cc nL own) : vk_R RX12 248 "after" (E.2.2.2.1 19) s := by
  have h : vk_R "SalvageCourtModel" 248 "after" (E.2.2.2.1 19) s := C.2.2.2.2.2.2.1 19 ("SalvageCourtModel", 248, "after") (by decide)
  exact h
end TXN
