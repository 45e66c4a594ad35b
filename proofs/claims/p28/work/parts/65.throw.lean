theorem kin_any {l : List Cond} (ps : List Nat) (h : (l.filter goodWord).all (fun z => ps.any (fun i => decide (tables_1[i]? = some z))) = true) : ∀ z ∈ l.filter goodWord, z ∈ kTb := by
  intro z hz
  have h2 := List.all_eq_true.mp h z hz
  obtain ⟨i, -, e⟩ := List.any_eq_true.mp h2
  exact kin i (of_decide_eq_true e) (List.mem_filter.mp hz).2
set_option maxRecDepth 100000 in
theorem kt1_IAE : ∀ z ∈ (vx_atS RX5 233 kIAE ["java/lang/RuntimeException", "java/lang/Exception"]).filter goodWord, z ∈ kTb := kin_any [8, 23, 24, 341, 349, 350, 351, 352, 353, 354, 355, 356, 357, 358, 359, 360, 361, 362, 363, 364, 365, 366, 367, 368, 369, 370, 371, 375, 376, 378, 380, 382, 383, 384, 385, 386, 387, 388, 389, 390, 391, 392, 393, 395, 396, 397, 398] (by decide +kernel)
set_option maxRecDepth 100000 in
theorem kt2_IAE : ∀ z ∈ (vx_atS RX5 233 kIAE ["java/lang/RuntimeException", "java/lang/Exception"]).filter (fun z => !goodWord z), z ∈ kNest := by
  have h : ((vx_atS RX5 233 kIAE ["java/lang/RuntimeException", "java/lang/Exception"]).filter (fun z => !goodWord z)).all (fun z => kNest.any (fun y => decide (y = z))) = true := by decide +kernel
  intro z hz
  have h2 := List.all_eq_true.mp h z hz
  obtain ⟨y, hy, e⟩ := List.any_eq_true.mp h2
  rw [← of_decide_eq_true e]
  exact hy
theorem kt3_IAE : (Cond.classLink RX5 229 kIAE :: Cond.initialized kIAE :: vx_atS RX5 233 kIAE ["java/lang/RuntimeException", "java/lang/Exception"]).all vx_ot = true := by decide +kernel
theorem kt4_IAE : Cond.classLink RX5 229 kIAE ∈ kTb := (kin 340 (by decide +kernel) rfl)
theorem kt5_IAE : Bundle.fit kIAE = true := by decide +kernel
set_option maxRecDepth 100000 in
theorem kt1_IOB : ∀ z ∈ (vx_atS RX5 238 kIOB ["java/lang/RuntimeException", "java/lang/Exception"]).filter goodWord, z ∈ kTb := kin_any [8, 23, 24, 352, 354, 356, 358, 360, 361, 362, 363, 364, 365, 366, 367, 368, 369, 370, 371, 374, 375, 376, 378, 380, 386, 387, 388, 389, 390, 391, 392, 393, 395, 396, 397, 398, 456, 458, 459, 460, 461, 462, 463, 465, 466, 467, 468] (by decide +kernel)
set_option maxRecDepth 100000 in
theorem kt2_IOB : ∀ z ∈ (vx_atS RX5 238 kIOB ["java/lang/RuntimeException", "java/lang/Exception"]).filter (fun z => !goodWord z), z ∈ kNest := by
  have h : ((vx_atS RX5 238 kIOB ["java/lang/RuntimeException", "java/lang/Exception"]).filter (fun z => !goodWord z)).all (fun z => kNest.any (fun y => decide (y = z))) = true := by decide +kernel
  intro z hz
  have h2 := List.all_eq_true.mp h z hz
  obtain ⟨y, hy, e⟩ := List.any_eq_true.mp h2
  rw [← of_decide_eq_true e]
  exact hy
theorem kt3_IOB : (Cond.classLink RX5 234 kIOB :: Cond.initialized kIOB :: vx_atS RX5 238 kIOB ["java/lang/RuntimeException", "java/lang/Exception"]).all vx_ot = true := by decide +kernel
theorem kt4_IOB : Cond.classLink RX5 234 kIOB ∈ kTb := (kin 455 (by decide +kernel) rfl)
theorem kt5_IOB : Bundle.fit kIOB = true := by decide +kernel
set_option maxRecDepth 100000 in
theorem kt1_ISE : ∀ z ∈ (vx_atS RX5 120 kISE ["java/lang/RuntimeException", "java/lang/Exception"]).filter goodWord, z ∈ kTb := kin_any [8, 23, 24, 352, 354, 356, 358, 360, 361, 362, 363, 364, 365, 366, 367, 368, 369, 370, 371, 373, 375, 376, 378, 380, 386, 387, 388, 389, 390, 391, 392, 393, 395, 396, 397, 398, 637, 639, 640, 641, 642, 643, 644, 646, 647, 648, 649] (by decide +kernel)
set_option maxRecDepth 100000 in
theorem kt2_ISE : ∀ z ∈ (vx_atS RX5 120 kISE ["java/lang/RuntimeException", "java/lang/Exception"]).filter (fun z => !goodWord z), z ∈ kNest := by
  have h : ((vx_atS RX5 120 kISE ["java/lang/RuntimeException", "java/lang/Exception"]).filter (fun z => !goodWord z)).all (fun z => kNest.any (fun y => decide (y = z))) = true := by decide +kernel
  intro z hz
  have h2 := List.all_eq_true.mp h z hz
  obtain ⟨y, hy, e⟩ := List.any_eq_true.mp h2
  rw [← of_decide_eq_true e]
  exact hy
theorem kt3_ISE : (Cond.classLink RX5 116 kISE :: Cond.initialized kISE :: vx_atS RX5 120 kISE ["java/lang/RuntimeException", "java/lang/Exception"]).all vx_ot = true := by decide +kernel
theorem kt4_ISE : Cond.classLink RX5 116 kISE ∈ kTb := (kin 636 (by decide +kernel) rfl)
theorem kt5_ISE : Bundle.fit kISE = true := by decide +kernel
theorem kt6 : ∀ z ∈ (["java/lang/RuntimeException", "java/lang/Exception"] : List String), Bundle.fit z = true := by decide +kernel
theorem kt7 : kNest.all (fun z => z.onTables) = true := by decide +kernel
