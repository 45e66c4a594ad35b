theorem kin_any {l : List Cond} (ps : List Nat) (h : (l.filter goodWord).all (fun z => ps.any (fun i => decide (tables_1[i]? = some z))) = true) : ∀ z ∈ l.filter goodWord, z ∈ kTb := by
  intro z hz
  have h2 := List.all_eq_true.mp h z hz
  obtain ⟨i, -, e⟩ := List.any_eq_true.mp h2
  exact kin i (of_decide_eq_true e) (List.mem_filter.mp hz).2
set_option maxRecDepth 100000 in
theorem kt1_IAE : ∀ z ∈ (vx_atS RX5 233 kIAE ["java/lang/RuntimeException", "java/lang/Exception"]).filter goodWord, z ∈ kTb := kin_any [7, 21, 22, 213, 221, 222, 223, 224, 225, 226, 227, 228, 229, 230, 231, 232, 233, 234, 235, 236, 237, 238, 239, 240, 241, 242, 243, 247, 248, 250, 252, 254, 255, 256, 257, 258, 259, 260, 261, 262, 263, 264, 265, 267, 268, 269, 270] (by decide +kernel)
set_option maxRecDepth 100000 in
theorem kt2_IAE : ∀ z ∈ (vx_atS RX5 233 kIAE ["java/lang/RuntimeException", "java/lang/Exception"]).filter (fun z => !goodWord z), z ∈ kNest := by
  have h : ((vx_atS RX5 233 kIAE ["java/lang/RuntimeException", "java/lang/Exception"]).filter (fun z => !goodWord z)).all (fun z => kNest.any (fun y => decide (y = z))) = true := by decide +kernel
  intro z hz
  have h2 := List.all_eq_true.mp h z hz
  obtain ⟨y, hy, e⟩ := List.any_eq_true.mp h2
  rw [← of_decide_eq_true e]
  exact hy
theorem kt3_IAE : (Cond.classLink RX5 229 kIAE :: Cond.initialized kIAE :: vx_atS RX5 233 kIAE ["java/lang/RuntimeException", "java/lang/Exception"]).all vx_ot = true := by decide +kernel
theorem kt4_IAE : Cond.classLink RX5 229 kIAE ∈ kTb := (kin 212 (by decide +kernel) rfl)
theorem kt5_IAE : Bundle.fit kIAE = true := by decide +kernel
set_option maxRecDepth 100000 in
theorem kt1_IOB : ∀ z ∈ (vx_atS RX5 238 kIOB ["java/lang/RuntimeException", "java/lang/Exception"]).filter goodWord, z ∈ kTb := kin_any [7, 21, 22, 224, 226, 228, 230, 232, 233, 234, 235, 236, 237, 238, 239, 240, 241, 242, 243, 246, 247, 248, 250, 252, 258, 259, 260, 261, 262, 263, 264, 265, 267, 268, 269, 270, 405, 407, 408, 409, 410, 411, 412, 414, 415, 416, 417] (by decide +kernel)
set_option maxRecDepth 100000 in
theorem kt2_IOB : ∀ z ∈ (vx_atS RX5 238 kIOB ["java/lang/RuntimeException", "java/lang/Exception"]).filter (fun z => !goodWord z), z ∈ kNest := by
  have h : ((vx_atS RX5 238 kIOB ["java/lang/RuntimeException", "java/lang/Exception"]).filter (fun z => !goodWord z)).all (fun z => kNest.any (fun y => decide (y = z))) = true := by decide +kernel
  intro z hz
  have h2 := List.all_eq_true.mp h z hz
  obtain ⟨y, hy, e⟩ := List.any_eq_true.mp h2
  rw [← of_decide_eq_true e]
  exact hy
theorem kt3_IOB : (Cond.classLink RX5 234 kIOB :: Cond.initialized kIOB :: vx_atS RX5 238 kIOB ["java/lang/RuntimeException", "java/lang/Exception"]).all vx_ot = true := by decide +kernel
theorem kt4_IOB : Cond.classLink RX5 234 kIOB ∈ kTb := (kin 404 (by decide +kernel) rfl)
theorem kt5_IOB : Bundle.fit kIOB = true := by decide +kernel
set_option maxRecDepth 100000 in
theorem kt1_ISE : ∀ z ∈ (vx_atS RX5 120 kISE ["java/lang/RuntimeException", "java/lang/Exception"]).filter goodWord, z ∈ kTb := kin_any [7, 21, 22, 224, 226, 228, 230, 232, 233, 234, 235, 236, 237, 238, 239, 240, 241, 242, 243, 245, 247, 248, 250, 252, 258, 259, 260, 261, 262, 263, 264, 265, 267, 268, 269, 270, 327, 329, 330, 331, 332, 333, 334, 336, 337, 338, 339] (by decide +kernel)
set_option maxRecDepth 100000 in
theorem kt2_ISE : ∀ z ∈ (vx_atS RX5 120 kISE ["java/lang/RuntimeException", "java/lang/Exception"]).filter (fun z => !goodWord z), z ∈ kNest := by
  have h : ((vx_atS RX5 120 kISE ["java/lang/RuntimeException", "java/lang/Exception"]).filter (fun z => !goodWord z)).all (fun z => kNest.any (fun y => decide (y = z))) = true := by decide +kernel
  intro z hz
  have h2 := List.all_eq_true.mp h z hz
  obtain ⟨y, hy, e⟩ := List.any_eq_true.mp h2
  rw [← of_decide_eq_true e]
  exact hy
theorem kt3_ISE : (Cond.classLink RX5 116 kISE :: Cond.initialized kISE :: vx_atS RX5 120 kISE ["java/lang/RuntimeException", "java/lang/Exception"]).all vx_ot = true := by decide +kernel
theorem kt4_ISE : Cond.classLink RX5 116 kISE ∈ kTb := (kin 326 (by decide +kernel) rfl)
theorem kt5_ISE : Bundle.fit kISE = true := by decide +kernel
theorem kt6 : ∀ z ∈ (["java/lang/RuntimeException", "java/lang/Exception"] : List String), Bundle.fit z = true := by decide +kernel
theorem kt7 : kNest.all (fun z => z.onTables) = true := by decide +kernel
