theorem plLw : plainName RL = true := by decide +kernel
theorem nLa_16 : Cond.classLink RL 16 kIAE ∈ kTb := (kin 201 (by decide +kernel) rfl)
theorem nCa_16 : Cond.castable kIAE kIAE ∈ kNest := by simp [kNest]
theorem nLa_23 : Cond.classLink RL 23 kIOB ∈ kTb := (kin 392 (by decide +kernel) rfl)
theorem nCa_23 : Cond.castable kIOB kIOB ∈ kNest := by simp [kNest]
theorem nLa_50 : Cond.classLink RL 50 kISE ∈ kTb := (kin 321 (by decide +kernel) rfl)
theorem nCa_50 : Cond.castable kISE kISE ∈ kNest := by simp [kNest]
theorem nNc_1 : (kIAE, kIOB) ∈ kNc := by simp [kNc]
theorem gLc_7 : Cond.constant RL 7 (1029667473) ∈ kTb := (kin 192 (by decide +kernel) rfl)
theorem gLc_8 : Cond.constant RL 8 (726429071) ∈ kTb := (kin 193 (by decide +kernel) rfl)
theorem gLc_9 : Cond.constant RL 9 (2147483647) ∈ kTb := (kin 197 (by decide +kernel) rfl)
theorem gLc_18 : Cond.constant RL 18 (-1000001) ∈ kTb := (kin 317 (by decide +kernel) rfl)
theorem gLc_25 : Cond.constant RL 25 (-1000002) ∈ kTb := (kin 428 (by decide +kernel) rfl)
theorem gLc_148 : Cond.constant RL 148 (-1000000) ∈ kTb := (kin 637 (by decide +kernel) rfl)
theorem nL_at : mL_at.1.name ≠ "law" := by decide +kernel
theorem nL_low : mL_low.1.name ≠ "law" := by decide +kernel
theorem nL_bring : mL_bring.1.name ≠ "law" := by decide +kernel
theorem nL_change : mL_change.1.name ≠ "law" := by decide +kernel
theorem nL_send : mL_send.1.name ≠ "law" := by decide +kernel
theorem nL_dispute : mL_dispute.1.name ≠ "law" := by decide +kernel
theorem nL_takeBack : mL_takeBack.1.name ≠ "law" := by decide +kernel
theorem nL_price : mL_price.1.name ≠ "law" := by decide +kernel
theorem nL_zone : mL_zone.1.name ≠ "law" := by decide +kernel
theorem nL_set : mL_set.1.name ≠ "law" := by decide +kernel
theorem nL_undo : mL_undo.1.name ≠ "law" := by decide +kernel
theorem nL_parcelOf : mL_parcelOf.1.name ≠ "law" := by decide +kernel
theorem nL_rate : mL_rate.1.name ≠ "law" := by decide +kernel
theorem nL_count : mL_count.1.name ≠ "law" := by decide +kernel
theorem nL_setting : mL_setting.1.name ≠ "law" := by decide +kernel
theorem nL_cheapestWay : mL_cheapestWay.1.name ≠ "law" := by decide +kernel
theorem nL_ifBundled : mL_ifBundled.1.name ≠ "law" := by decide +kernel
theorem nL_cheapest : mL_cheapest.1.name ≠ "law" := by decide +kernel
theorem nL_act : mL_act.1.name ≠ "law" := by decide +kernel
theorem nL_hangs : mL_hangs.1.name ≠ "law" := by decide +kernel
theorem nL_rates : mL_rates.1.name ≠ "law" := by decide +kernel
theorem nL_rises : mL_rises.1.name ≠ "law" := by decide +kernel
theorem nL_print : mL_print.1.name ≠ "law" := by decide +kernel
theorem nL_sends : mL_sends.1.name ≠ "law" := by decide +kernel
theorem nL_ties : mL_ties.1.name ≠ "law" := by decide +kernel
set_option maxRecDepth 100000 in
set_option maxHeartbeats 4000000 in
theorem hL_bring_T {w : kM} {a1 a2 a3 a4 a5 : Int32} {d : Nat} {v : Int32} {P : kM → Prop} (hd : d ≤ 11) (h0 : w 0 = kO 5 xF) (hC : kCtrW mX5_bring d [.ref 0, .int a1, .int a2, .int a3, .int a4, .int a5] w (some (.int v)) P) : kCtrW mL_bring 12 [.ref 0, .int a1, .int a2, .int a3, .int a4, .int a5] w (some (.int v)) P := by
  refine kCtrW.ofH plLw nL_bring (by decide) (Nat.le_of_ble_eq_true rfl) (fun n => ?_)
  refine kw_aload_n (pc := 0) dL_bring_0 rfl ?_
  refine kw_iload_n (pc := 1) dL_bring_1 rfl ?_
  refine kw_iload_n (pc := 2) dL_bring_2 rfl ?_
  refine kw_iload_n (pc := 3) dL_bring_3 rfl ?_
  refine kw_iload (pc := 4) dL_bring_4 rfl ?_
  refine kw_iload (pc := 6) dL_bring_6 rfl ?_
  refine kw_callVw1 (pc := 8) dL_bring_8 lL_10 hC h0 rfl rfl rfl ⟨by omega, by decide, Nat.le_of_ble_eq_true rfl⟩ (fun w1 hw1 => ?_)
  exact kw_ireturn nL_bring (pc := 11) dL_bring_11 rfl rfl ⟨rfl, hw1, rfl⟩
set_option maxRecDepth 100000 in
set_option maxHeartbeats 4000000 in
theorem hL_bring_X1 {w : kM} {a1 a2 a3 a4 a5 : Int32} {d : Nat} {P : kM → Prop} (hd : d ≤ 11) (h0 : w 0 = kO 5 xF) (hC : kCtrX mX5_bring d [.ref 0, .int a1, .int a2, .int a3, .int a4, .int a5] w kIAE P) : kCtrG mL_bring 12 1 6 [.ref 0, .int a1, .int a2, .int a3, .int a4, .int a5] w (.int (-1000001)) P := by
  refine kCtrG.ofH plLw nL_bring (by decide) (Nat.le_of_ble_eq_true rfl) (fun n => ?_)
  refine kw_aload_n (pc := 0) dL_bring_0 rfl ?_
  refine kw_iload_n (pc := 1) dL_bring_1 rfl ?_
  refine kw_iload_n (pc := 2) dL_bring_2 rfl ?_
  refine kw_iload_n (pc := 3) dL_bring_3 rfl ?_
  refine kw_iload (pc := 4) dL_bring_4 rfl ?_
  refine kw_iload (pc := 6) dL_bring_6 rfl ?_
  refine kw_callV (pc := 8) dL_bring_8 lL_10 (hC n) h0 rfl rfl rfl ⟨by omega, by decide, Nat.le_of_ble_eq_true rfl, Nat.le_refl _, Nat.le_refl _⟩ (fun E w1 n1 h => ?_) (fun v w1 n1 h => by cases h.1)
  obtain ⟨h1, h2, h3⟩ := h
  cases h1
  refine kwx_catch (len := 2) (pc := 8) (hpc := 12) (nm := kIAE) nL_bring [] ⟨0, 11, 12, 16⟩ [] rfl (fun z hz => absurd hz List.not_mem_nil) (by decide) (by decide) nLa_16 nCa_16 rfl dL_bring_12 (by decide) rfl ?_
  refine kw_ldc (pc := 14) dL_bring_14 gLc_18 ?_
  exact kw_ireturn nL_bring (pc := 16) dL_bring_16 rfl rfl ⟨rfl, h2⟩
set_option maxRecDepth 100000 in
set_option maxHeartbeats 4000000 in
theorem hL_change_T {w : kM} {a1 a2 a3 : Int32} {d : Nat} {v : Int32} {P : kM → Prop} (hd : d ≤ 11) (h0 : w 0 = kO 5 xF) (hC : kCtrW mX5_change d [.ref 0, .int a1, .int a2, .int a3] w (some (.int v)) P) : kCtrW mL_change 12 [.ref 0, .int a1, .int a2, .int a3] w (some (.int v)) P := by
  refine kCtrW.ofH plLw nL_change (by decide) (Nat.le_of_ble_eq_true rfl) (fun n => ?_)
  refine kw_aload_n (pc := 0) dL_change_0 rfl ?_
  refine kw_iload_n (pc := 1) dL_change_1 rfl ?_
  refine kw_iload_n (pc := 2) dL_change_2 rfl ?_
  refine kw_iload_n (pc := 3) dL_change_3 rfl ?_
  refine kw_callVw1 (pc := 4) dL_change_4 lL_19 hC h0 rfl rfl rfl ⟨by omega, by decide, Nat.le_of_ble_eq_true rfl⟩ (fun w1 hw1 => ?_)
  exact kw_ireturn nL_change (pc := 7) dL_change_7 rfl rfl ⟨rfl, hw1, rfl⟩
set_option maxRecDepth 100000 in
set_option maxHeartbeats 4000000 in
theorem hL_change_X1 {w : kM} {a1 a2 a3 : Int32} {d : Nat} {P : kM → Prop} (hd : d ≤ 11) (h0 : w 0 = kO 5 xF) (hC : kCtrX mX5_change d [.ref 0, .int a1, .int a2, .int a3] w kIOB P) : kCtrG mL_change 12 1 6 [.ref 0, .int a1, .int a2, .int a3] w (.int (-1000001)) P := by
  refine kCtrG.ofH plLw nL_change (by decide) (Nat.le_of_ble_eq_true rfl) (fun n => ?_)
  refine kw_aload_n (pc := 0) dL_change_0 rfl ?_
  refine kw_iload_n (pc := 1) dL_change_1 rfl ?_
  refine kw_iload_n (pc := 2) dL_change_2 rfl ?_
  refine kw_iload_n (pc := 3) dL_change_3 rfl ?_
  refine kw_callV (pc := 4) dL_change_4 lL_19 (hC n) h0 rfl rfl rfl ⟨by omega, by decide, Nat.le_of_ble_eq_true rfl, Nat.le_refl _, Nat.le_refl _⟩ (fun E w1 n1 h => ?_) (fun v w1 n1 h => by cases h.1)
  obtain ⟨h1, h2, h3⟩ := h
  cases h1
  refine kwx_catch (len := 2) (pc := 4) (hpc := 8) (nm := kIOB) nL_change [] ⟨0, 7, 8, 23⟩ [⟨0, 7, 13, 16⟩] rfl (fun z hz => absurd hz List.not_mem_nil) (by decide) (by decide) nLa_23 nCa_23 rfl dL_change_8 (by decide) rfl ?_
  refine kw_ldc (pc := 10) dL_change_10 gLc_18 ?_
  exact kw_ireturn nL_change (pc := 12) dL_change_12 rfl rfl ⟨rfl, h2⟩
set_option maxRecDepth 100000 in
set_option maxHeartbeats 4000000 in
theorem hL_change_X2 {w : kM} {a1 a2 a3 : Int32} {d : Nat} {P : kM → Prop} (hd : d ≤ 11) (h0 : w 0 = kO 5 xF) (hC : kCtrX mX5_change d [.ref 0, .int a1, .int a2, .int a3] w kIAE P) : kCtrG mL_change 12 1 6 [.ref 0, .int a1, .int a2, .int a3] w (.int (-1000002)) P := by
  refine kCtrG.ofH plLw nL_change (by decide) (Nat.le_of_ble_eq_true rfl) (fun n => ?_)
  refine kw_aload_n (pc := 0) dL_change_0 rfl ?_
  refine kw_iload_n (pc := 1) dL_change_1 rfl ?_
  refine kw_iload_n (pc := 2) dL_change_2 rfl ?_
  refine kw_iload_n (pc := 3) dL_change_3 rfl ?_
  refine kw_callV (pc := 4) dL_change_4 lL_19 (hC n) h0 rfl rfl rfl ⟨by omega, by decide, Nat.le_of_ble_eq_true rfl, Nat.le_refl _, Nat.le_refl _⟩ (fun E w1 n1 h => ?_) (fun v w1 n1 h => by cases h.1)
  obtain ⟨h1, h2, h3⟩ := h
  cases h1
  refine kwx_catch (len := 2) (pc := 4) (hpc := 13) (nm := kIAE) nL_change [⟨0, 7, 8, 23⟩] ⟨0, 7, 13, 16⟩ [] rfl (fun z hz => by rw [List.mem_singleton.mp hz]; exact ⟨by decide, _, nLa_23, nNc_1⟩) (by decide) (by decide) nLa_16 nCa_16 rfl dL_change_13 (by decide) rfl ?_
  refine kw_ldc (pc := 15) dL_change_15 gLc_25 ?_
  exact kw_ireturn nL_change (pc := 17) dL_change_17 rfl rfl ⟨rfl, h2⟩
set_option maxRecDepth 100000 in
set_option maxHeartbeats 4000000 in
theorem hL_send_T {w : kM} {a1 : Int32} {d : Nat} {v : Int32} {P : kM → Prop} (hd : d ≤ 11) (h0 : w 0 = kO 5 xF) (hC : kCtrW mX5_send d [.ref 0, .int a1] w (some (.int v)) P) : kCtrW mL_send 12 [.ref 0, .int a1] w (some (.int v)) P := by
  refine kCtrW.ofH plLw nL_send (by decide) (Nat.le_of_ble_eq_true rfl) (fun n => ?_)
  refine kw_aload_n (pc := 0) dL_send_0 rfl ?_
  refine kw_iload_n (pc := 1) dL_send_1 rfl ?_
  refine kw_callVw1 (pc := 2) dL_send_2 lL_26 hC h0 rfl rfl rfl ⟨by omega, by decide, Nat.le_of_ble_eq_true rfl⟩ (fun w1 hw1 => ?_)
  exact kw_ireturn nL_send (pc := 5) dL_send_5 rfl rfl ⟨rfl, hw1, rfl⟩
set_option maxRecDepth 100000 in
set_option maxHeartbeats 4000000 in
theorem hL_send_X1 {w : kM} {a1 : Int32} {d : Nat} {P : kM → Prop} (hd : d ≤ 11) (h0 : w 0 = kO 5 xF) (hC : kCtrX mX5_send d [.ref 0, .int a1] w kIOB P) : kCtrG mL_send 12 1 6 [.ref 0, .int a1] w (.int (-1000001)) P := by
  refine kCtrG.ofH plLw nL_send (by decide) (Nat.le_of_ble_eq_true rfl) (fun n => ?_)
  refine kw_aload_n (pc := 0) dL_send_0 rfl ?_
  refine kw_iload_n (pc := 1) dL_send_1 rfl ?_
  refine kw_callV (pc := 2) dL_send_2 lL_26 (hC n) h0 rfl rfl rfl ⟨by omega, by decide, Nat.le_of_ble_eq_true rfl, Nat.le_refl _, Nat.le_refl _⟩ (fun E w1 n1 h => ?_) (fun v w1 n1 h => by cases h.1)
  obtain ⟨h1, h2, h3⟩ := h
  cases h1
  refine kwx_catch_n (pc := 2) (hpc := 6) (nm := kIOB) nL_send [] ⟨0, 5, 6, 23⟩ [] rfl (fun z hz => absurd hz List.not_mem_nil) (by decide) (by decide) nLa_23 nCa_23 rfl dL_send_6 (by decide) rfl ?_
  refine kw_ldc (pc := 7) dL_send_7 gLc_18 ?_
  exact kw_ireturn nL_send (pc := 9) dL_send_9 rfl rfl ⟨rfl, h2⟩
set_option maxRecDepth 100000 in
set_option maxHeartbeats 4000000 in
theorem hL_dispute_T {w : kM} {a1 a2 : Int32} {d : Nat} {v : Int32} {P : kM → Prop} (hd : d ≤ 11) (h0 : w 0 = kO 5 xF) (hC : kCtrW mX5_dispute d [.ref 0, .int a1, .int a2] w (some (.int v)) P) : kCtrW mL_dispute 12 [.ref 0, .int a1, .int a2] w (some (.int v)) P := by
  refine kCtrW.ofH plLw nL_dispute (by decide) (Nat.le_of_ble_eq_true rfl) (fun n => ?_)
  refine kw_aload_n (pc := 0) dL_dispute_0 rfl ?_
  refine kw_iload_n (pc := 1) dL_dispute_1 rfl ?_
  refine kw_iload_n (pc := 2) dL_dispute_2 rfl ?_
  refine kw_callVw1 (pc := 3) dL_dispute_3 lL_30 hC h0 rfl rfl rfl ⟨by omega, by decide, Nat.le_of_ble_eq_true rfl⟩ (fun w1 hw1 => ?_)
  exact kw_ireturn nL_dispute (pc := 6) dL_dispute_6 rfl rfl ⟨rfl, hw1, rfl⟩
set_option maxRecDepth 100000 in
set_option maxHeartbeats 4000000 in
theorem hL_dispute_X1 {w : kM} {a1 a2 : Int32} {d : Nat} {P : kM → Prop} (hd : d ≤ 11) (h0 : w 0 = kO 5 xF) (hC : kCtrX mX5_dispute d [.ref 0, .int a1, .int a2] w kIOB P) : kCtrG mL_dispute 12 1 6 [.ref 0, .int a1, .int a2] w (.int (-1000001)) P := by
  refine kCtrG.ofH plLw nL_dispute (by decide) (Nat.le_of_ble_eq_true rfl) (fun n => ?_)
  refine kw_aload_n (pc := 0) dL_dispute_0 rfl ?_
  refine kw_iload_n (pc := 1) dL_dispute_1 rfl ?_
  refine kw_iload_n (pc := 2) dL_dispute_2 rfl ?_
  refine kw_callV (pc := 3) dL_dispute_3 lL_30 (hC n) h0 rfl rfl rfl ⟨by omega, by decide, Nat.le_of_ble_eq_true rfl, Nat.le_refl _, Nat.le_refl _⟩ (fun E w1 n1 h => ?_) (fun v w1 n1 h => by cases h.1)
  obtain ⟨h1, h2, h3⟩ := h
  cases h1
  refine kwx_catch_n (pc := 3) (hpc := 7) (nm := kIOB) nL_dispute [] ⟨0, 6, 7, 23⟩ [⟨0, 6, 11, 16⟩] rfl (fun z hz => absurd hz List.not_mem_nil) (by decide) (by decide) nLa_23 nCa_23 rfl dL_dispute_7 (by decide) rfl ?_
  refine kw_ldc (pc := 8) dL_dispute_8 gLc_18 ?_
  exact kw_ireturn nL_dispute (pc := 10) dL_dispute_10 rfl rfl ⟨rfl, h2⟩
set_option maxRecDepth 100000 in
set_option maxHeartbeats 4000000 in
theorem hL_dispute_X2 {w : kM} {a1 a2 : Int32} {d : Nat} {P : kM → Prop} (hd : d ≤ 11) (h0 : w 0 = kO 5 xF) (hC : kCtrX mX5_dispute d [.ref 0, .int a1, .int a2] w kIAE P) : kCtrG mL_dispute 12 1 6 [.ref 0, .int a1, .int a2] w (.int (-1000002)) P := by
  refine kCtrG.ofH plLw nL_dispute (by decide) (Nat.le_of_ble_eq_true rfl) (fun n => ?_)
  refine kw_aload_n (pc := 0) dL_dispute_0 rfl ?_
  refine kw_iload_n (pc := 1) dL_dispute_1 rfl ?_
  refine kw_iload_n (pc := 2) dL_dispute_2 rfl ?_
  refine kw_callV (pc := 3) dL_dispute_3 lL_30 (hC n) h0 rfl rfl rfl ⟨by omega, by decide, Nat.le_of_ble_eq_true rfl, Nat.le_refl _, Nat.le_refl _⟩ (fun E w1 n1 h => ?_) (fun v w1 n1 h => by cases h.1)
  obtain ⟨h1, h2, h3⟩ := h
  cases h1
  refine kwx_catch_n (pc := 3) (hpc := 11) (nm := kIAE) nL_dispute [⟨0, 6, 7, 23⟩] ⟨0, 6, 11, 16⟩ [] rfl (fun z hz => by rw [List.mem_singleton.mp hz]; exact ⟨by decide, _, nLa_23, nNc_1⟩) (by decide) (by decide) nLa_16 nCa_16 rfl dL_dispute_11 (by decide) rfl ?_
  refine kw_ldc (pc := 12) dL_dispute_12 gLc_25 ?_
  exact kw_ireturn nL_dispute (pc := 14) dL_dispute_14 rfl rfl ⟨rfl, h2⟩
set_option maxRecDepth 100000 in
set_option maxHeartbeats 4000000 in
theorem hL_takeBack_T {w : kM} {a1 : Int32} {d : Nat} {v : Int32} {P : kM → Prop} (hd : d ≤ 11) (h0 : w 0 = kO 5 xF) (hC : kCtrW mX5_takeBack d [.ref 0, .int a1] w (some (.int v)) P) : kCtrW mL_takeBack 12 [.ref 0, .int a1] w (some (.int v)) P := by
  refine kCtrW.ofH plLw nL_takeBack (by decide) (Nat.le_of_ble_eq_true rfl) (fun n => ?_)
  refine kw_aload_n (pc := 0) dL_takeBack_0 rfl ?_
  refine kw_iload_n (pc := 1) dL_takeBack_1 rfl ?_
  refine kw_callVw1 (pc := 2) dL_takeBack_2 lL_34 hC h0 rfl rfl rfl ⟨by omega, by decide, Nat.le_of_ble_eq_true rfl⟩ (fun w1 hw1 => ?_)
  exact kw_ireturn nL_takeBack (pc := 5) dL_takeBack_5 rfl rfl ⟨rfl, hw1, rfl⟩
set_option maxRecDepth 100000 in
set_option maxHeartbeats 4000000 in
theorem hL_takeBack_X1 {w : kM} {a1 : Int32} {d : Nat} {P : kM → Prop} (hd : d ≤ 11) (h0 : w 0 = kO 5 xF) (hC : kCtrX mX5_takeBack d [.ref 0, .int a1] w kIOB P) : kCtrG mL_takeBack 12 1 6 [.ref 0, .int a1] w (.int (-1000001)) P := by
  refine kCtrG.ofH plLw nL_takeBack (by decide) (Nat.le_of_ble_eq_true rfl) (fun n => ?_)
  refine kw_aload_n (pc := 0) dL_takeBack_0 rfl ?_
  refine kw_iload_n (pc := 1) dL_takeBack_1 rfl ?_
  refine kw_callV (pc := 2) dL_takeBack_2 lL_34 (hC n) h0 rfl rfl rfl ⟨by omega, by decide, Nat.le_of_ble_eq_true rfl, Nat.le_refl _, Nat.le_refl _⟩ (fun E w1 n1 h => ?_) (fun v w1 n1 h => by cases h.1)
  obtain ⟨h1, h2, h3⟩ := h
  cases h1
  refine kwx_catch_n (pc := 2) (hpc := 6) (nm := kIOB) nL_takeBack [] ⟨0, 5, 6, 23⟩ [] rfl (fun z hz => absurd hz List.not_mem_nil) (by decide) (by decide) nLa_23 nCa_23 rfl dL_takeBack_6 (by decide) rfl ?_
  refine kw_ldc (pc := 7) dL_takeBack_7 gLc_18 ?_
  exact kw_ireturn nL_takeBack (pc := 9) dL_takeBack_9 rfl rfl ⟨rfl, h2⟩
set_option maxRecDepth 100000 in
set_option maxHeartbeats 4000000 in
theorem hL_price_T {w : kM} {a1 a2 : Int32} {d : Nat} {v : Int32} {P : kM → Prop} (hd : d ≤ 11) (h0 : w 0 = kO 5 xF) (hC : kCtrW mX5_price d [.ref 0, .int a1, .int a2] w (some (.int v)) P) : kCtrW mL_price 12 [.ref 0, .int a1, .int a2] w (some (.int v)) P := by
  refine kCtrW.ofH plLw nL_price (by decide) (Nat.le_of_ble_eq_true rfl) (fun n => ?_)
  refine kw_aload_n (pc := 0) dL_price_0 rfl ?_
  refine kw_iload_n (pc := 1) dL_price_1 rfl ?_
  refine kw_iload_n (pc := 2) dL_price_2 rfl ?_
  refine kw_callVw1 (pc := 3) dL_price_3 lL_37 hC h0 rfl rfl rfl ⟨by omega, by decide, Nat.le_of_ble_eq_true rfl⟩ (fun w1 hw1 => ?_)
  exact kw_ireturn nL_price (pc := 6) dL_price_6 rfl rfl ⟨rfl, hw1, rfl⟩
set_option maxRecDepth 100000 in
set_option maxHeartbeats 4000000 in
theorem hL_price_X1 {w : kM} {a1 a2 : Int32} {d : Nat} {P : kM → Prop} (hd : d ≤ 11) (h0 : w 0 = kO 5 xF) (hC : kCtrX mX5_price d [.ref 0, .int a1, .int a2] w kIOB P) : kCtrG mL_price 12 1 6 [.ref 0, .int a1, .int a2] w (.int (-1000001)) P := by
  refine kCtrG.ofH plLw nL_price (by decide) (Nat.le_of_ble_eq_true rfl) (fun n => ?_)
  refine kw_aload_n (pc := 0) dL_price_0 rfl ?_
  refine kw_iload_n (pc := 1) dL_price_1 rfl ?_
  refine kw_iload_n (pc := 2) dL_price_2 rfl ?_
  refine kw_callV (pc := 3) dL_price_3 lL_37 (hC n) h0 rfl rfl rfl ⟨by omega, by decide, Nat.le_of_ble_eq_true rfl, Nat.le_refl _, Nat.le_refl _⟩ (fun E w1 n1 h => ?_) (fun v w1 n1 h => by cases h.1)
  obtain ⟨h1, h2, h3⟩ := h
  cases h1
  refine kwx_catch_n (pc := 3) (hpc := 7) (nm := kIOB) nL_price [] ⟨0, 6, 7, 23⟩ [⟨0, 6, 11, 16⟩] rfl (fun z hz => absurd hz List.not_mem_nil) (by decide) (by decide) nLa_23 nCa_23 rfl dL_price_7 (by decide) rfl ?_
  refine kw_ldc (pc := 8) dL_price_8 gLc_18 ?_
  exact kw_ireturn nL_price (pc := 10) dL_price_10 rfl rfl ⟨rfl, h2⟩
set_option maxRecDepth 100000 in
set_option maxHeartbeats 4000000 in
theorem hL_price_X2 {w : kM} {a1 a2 : Int32} {d : Nat} {P : kM → Prop} (hd : d ≤ 11) (h0 : w 0 = kO 5 xF) (hC : kCtrX mX5_price d [.ref 0, .int a1, .int a2] w kIAE P) : kCtrG mL_price 12 1 6 [.ref 0, .int a1, .int a2] w (.int (-1000002)) P := by
  refine kCtrG.ofH plLw nL_price (by decide) (Nat.le_of_ble_eq_true rfl) (fun n => ?_)
  refine kw_aload_n (pc := 0) dL_price_0 rfl ?_
  refine kw_iload_n (pc := 1) dL_price_1 rfl ?_
  refine kw_iload_n (pc := 2) dL_price_2 rfl ?_
  refine kw_callV (pc := 3) dL_price_3 lL_37 (hC n) h0 rfl rfl rfl ⟨by omega, by decide, Nat.le_of_ble_eq_true rfl, Nat.le_refl _, Nat.le_refl _⟩ (fun E w1 n1 h => ?_) (fun v w1 n1 h => by cases h.1)
  obtain ⟨h1, h2, h3⟩ := h
  cases h1
  refine kwx_catch_n (pc := 3) (hpc := 11) (nm := kIAE) nL_price [⟨0, 6, 7, 23⟩] ⟨0, 6, 11, 16⟩ [] rfl (fun z hz => by rw [List.mem_singleton.mp hz]; exact ⟨by decide, _, nLa_23, nNc_1⟩) (by decide) (by decide) nLa_16 nCa_16 rfl dL_price_11 (by decide) rfl ?_
  refine kw_ldc (pc := 12) dL_price_12 gLc_25 ?_
  exact kw_ireturn nL_price (pc := 14) dL_price_14 rfl rfl ⟨rfl, h2⟩
set_option maxRecDepth 100000 in
set_option maxHeartbeats 4000000 in
theorem hL_zone_T {w : kM} {a1 a2 : Int32} {d : Nat} {v : Int32} {P : kM → Prop} (hd : d ≤ 11) (h0 : w 0 = kO 5 xF) (hC : kCtrW mX5_zone d [.ref 0, .int a1, .int a2] w (some (.int v)) P) : kCtrW mL_zone 12 [.ref 0, .int a1, .int a2] w (some (.int v)) P := by
  refine kCtrW.ofH plLw nL_zone (by decide) (Nat.le_of_ble_eq_true rfl) (fun n => ?_)
  refine kw_aload_n (pc := 0) dL_zone_0 rfl ?_
  refine kw_iload_n (pc := 1) dL_zone_1 rfl ?_
  refine kw_iload_n (pc := 2) dL_zone_2 rfl ?_
  refine kw_callVw1 (pc := 3) dL_zone_3 lL_40 hC h0 rfl rfl rfl ⟨by omega, by decide, Nat.le_of_ble_eq_true rfl⟩ (fun w1 hw1 => ?_)
  exact kw_ireturn nL_zone (pc := 6) dL_zone_6 rfl rfl ⟨rfl, hw1, rfl⟩
set_option maxRecDepth 100000 in
set_option maxHeartbeats 4000000 in
theorem hL_zone_X1 {w : kM} {a1 a2 : Int32} {d : Nat} {P : kM → Prop} (hd : d ≤ 11) (h0 : w 0 = kO 5 xF) (hC : kCtrX mX5_zone d [.ref 0, .int a1, .int a2] w kIOB P) : kCtrG mL_zone 12 1 6 [.ref 0, .int a1, .int a2] w (.int (-1000001)) P := by
  refine kCtrG.ofH plLw nL_zone (by decide) (Nat.le_of_ble_eq_true rfl) (fun n => ?_)
  refine kw_aload_n (pc := 0) dL_zone_0 rfl ?_
  refine kw_iload_n (pc := 1) dL_zone_1 rfl ?_
  refine kw_iload_n (pc := 2) dL_zone_2 rfl ?_
  refine kw_callV (pc := 3) dL_zone_3 lL_40 (hC n) h0 rfl rfl rfl ⟨by omega, by decide, Nat.le_of_ble_eq_true rfl, Nat.le_refl _, Nat.le_refl _⟩ (fun E w1 n1 h => ?_) (fun v w1 n1 h => by cases h.1)
  obtain ⟨h1, h2, h3⟩ := h
  cases h1
  refine kwx_catch_n (pc := 3) (hpc := 7) (nm := kIOB) nL_zone [] ⟨0, 6, 7, 23⟩ [⟨0, 6, 11, 16⟩] rfl (fun z hz => absurd hz List.not_mem_nil) (by decide) (by decide) nLa_23 nCa_23 rfl dL_zone_7 (by decide) rfl ?_
  refine kw_ldc (pc := 8) dL_zone_8 gLc_18 ?_
  exact kw_ireturn nL_zone (pc := 10) dL_zone_10 rfl rfl ⟨rfl, h2⟩
set_option maxRecDepth 100000 in
set_option maxHeartbeats 4000000 in
theorem hL_zone_X2 {w : kM} {a1 a2 : Int32} {d : Nat} {P : kM → Prop} (hd : d ≤ 11) (h0 : w 0 = kO 5 xF) (hC : kCtrX mX5_zone d [.ref 0, .int a1, .int a2] w kIAE P) : kCtrG mL_zone 12 1 6 [.ref 0, .int a1, .int a2] w (.int (-1000002)) P := by
  refine kCtrG.ofH plLw nL_zone (by decide) (Nat.le_of_ble_eq_true rfl) (fun n => ?_)
  refine kw_aload_n (pc := 0) dL_zone_0 rfl ?_
  refine kw_iload_n (pc := 1) dL_zone_1 rfl ?_
  refine kw_iload_n (pc := 2) dL_zone_2 rfl ?_
  refine kw_callV (pc := 3) dL_zone_3 lL_40 (hC n) h0 rfl rfl rfl ⟨by omega, by decide, Nat.le_of_ble_eq_true rfl, Nat.le_refl _, Nat.le_refl _⟩ (fun E w1 n1 h => ?_) (fun v w1 n1 h => by cases h.1)
  obtain ⟨h1, h2, h3⟩ := h
  cases h1
  refine kwx_catch_n (pc := 3) (hpc := 11) (nm := kIAE) nL_zone [⟨0, 6, 7, 23⟩] ⟨0, 6, 11, 16⟩ [] rfl (fun z hz => by rw [List.mem_singleton.mp hz]; exact ⟨by decide, _, nLa_23, nNc_1⟩) (by decide) (by decide) nLa_16 nCa_16 rfl dL_zone_11 (by decide) rfl ?_
  refine kw_ldc (pc := 12) dL_zone_12 gLc_25 ?_
  exact kw_ireturn nL_zone (pc := 14) dL_zone_14 rfl rfl ⟨rfl, h2⟩
set_option maxRecDepth 100000 in
set_option maxHeartbeats 4000000 in
theorem hL_set_T {w : kM} {a1 a2 : Int32} {d : Nat} {v : Int32} {P : kM → Prop} (hd : d ≤ 11) (h0 : w 0 = kO 5 xF) (hC : kCtrW mX5_set d [.ref 0, .int a1, .int a2] w (some (.int v)) P) : kCtrW mL_set 12 [.ref 0, .int a1, .int a2] w (some (.int v)) P := by
  refine kCtrW.ofH plLw nL_set (by decide) (Nat.le_of_ble_eq_true rfl) (fun n => ?_)
  refine kw_aload_n (pc := 0) dL_set_0 rfl ?_
  refine kw_iload_n (pc := 1) dL_set_1 rfl ?_
  refine kw_iload_n (pc := 2) dL_set_2 rfl ?_
  refine kw_callVw1 (pc := 3) dL_set_3 lL_43 hC h0 rfl rfl rfl ⟨by omega, by decide, Nat.le_of_ble_eq_true rfl⟩ (fun w1 hw1 => ?_)
  exact kw_ireturn nL_set (pc := 6) dL_set_6 rfl rfl ⟨rfl, hw1, rfl⟩
set_option maxRecDepth 100000 in
set_option maxHeartbeats 4000000 in
theorem hL_set_X1 {w : kM} {a1 a2 : Int32} {d : Nat} {P : kM → Prop} (hd : d ≤ 11) (h0 : w 0 = kO 5 xF) (hC : kCtrX mX5_set d [.ref 0, .int a1, .int a2] w kIOB P) : kCtrG mL_set 12 1 6 [.ref 0, .int a1, .int a2] w (.int (-1000001)) P := by
  refine kCtrG.ofH plLw nL_set (by decide) (Nat.le_of_ble_eq_true rfl) (fun n => ?_)
  refine kw_aload_n (pc := 0) dL_set_0 rfl ?_
  refine kw_iload_n (pc := 1) dL_set_1 rfl ?_
  refine kw_iload_n (pc := 2) dL_set_2 rfl ?_
  refine kw_callV (pc := 3) dL_set_3 lL_43 (hC n) h0 rfl rfl rfl ⟨by omega, by decide, Nat.le_of_ble_eq_true rfl, Nat.le_refl _, Nat.le_refl _⟩ (fun E w1 n1 h => ?_) (fun v w1 n1 h => by cases h.1)
  obtain ⟨h1, h2, h3⟩ := h
  cases h1
  refine kwx_catch_n (pc := 3) (hpc := 7) (nm := kIOB) nL_set [] ⟨0, 6, 7, 23⟩ [⟨0, 6, 11, 16⟩] rfl (fun z hz => absurd hz List.not_mem_nil) (by decide) (by decide) nLa_23 nCa_23 rfl dL_set_7 (by decide) rfl ?_
  refine kw_ldc (pc := 8) dL_set_8 gLc_18 ?_
  exact kw_ireturn nL_set (pc := 10) dL_set_10 rfl rfl ⟨rfl, h2⟩
set_option maxRecDepth 100000 in
set_option maxHeartbeats 4000000 in
theorem hL_set_X2 {w : kM} {a1 a2 : Int32} {d : Nat} {P : kM → Prop} (hd : d ≤ 11) (h0 : w 0 = kO 5 xF) (hC : kCtrX mX5_set d [.ref 0, .int a1, .int a2] w kIAE P) : kCtrG mL_set 12 1 6 [.ref 0, .int a1, .int a2] w (.int (-1000002)) P := by
  refine kCtrG.ofH plLw nL_set (by decide) (Nat.le_of_ble_eq_true rfl) (fun n => ?_)
  refine kw_aload_n (pc := 0) dL_set_0 rfl ?_
  refine kw_iload_n (pc := 1) dL_set_1 rfl ?_
  refine kw_iload_n (pc := 2) dL_set_2 rfl ?_
  refine kw_callV (pc := 3) dL_set_3 lL_43 (hC n) h0 rfl rfl rfl ⟨by omega, by decide, Nat.le_of_ble_eq_true rfl, Nat.le_refl _, Nat.le_refl _⟩ (fun E w1 n1 h => ?_) (fun v w1 n1 h => by cases h.1)
  obtain ⟨h1, h2, h3⟩ := h
  cases h1
  refine kwx_catch_n (pc := 3) (hpc := 11) (nm := kIAE) nL_set [⟨0, 6, 7, 23⟩] ⟨0, 6, 11, 16⟩ [] rfl (fun z hz => by rw [List.mem_singleton.mp hz]; exact ⟨by decide, _, nLa_23, nNc_1⟩) (by decide) (by decide) nLa_16 nCa_16 rfl dL_set_11 (by decide) rfl ?_
  refine kw_ldc (pc := 12) dL_set_12 gLc_25 ?_
  exact kw_ireturn nL_set (pc := 14) dL_set_14 rfl rfl ⟨rfl, h2⟩
set_option maxRecDepth 100000 in
set_option maxHeartbeats 4000000 in
theorem hL_undo_T {w : kM} {d : Nat} {v : Int32} {P : kM → Prop} (hd : d ≤ 11) (h0 : w 0 = kO 5 xF) (hC : kCtrW mX5_undo d [.ref 0] w (some (.int v)) P) : kCtrW mL_undo 12 [.ref 0] w (some (.int v)) P := by
  refine kCtrW.ofH plLw nL_undo (by decide) (Nat.le_of_ble_eq_true rfl) (fun n => ?_)
  refine kw_aload_n (pc := 0) dL_undo_0 rfl ?_
  refine kw_callVw1 (pc := 1) dL_undo_1 lL_46 hC h0 rfl rfl rfl ⟨by omega, by decide, Nat.le_of_ble_eq_true rfl⟩ (fun w1 hw1 => ?_)
  exact kw_ireturn nL_undo (pc := 4) dL_undo_4 rfl rfl ⟨rfl, hw1, rfl⟩
set_option maxRecDepth 100000 in
set_option maxHeartbeats 4000000 in
theorem hL_undo_X1 {w : kM} {d : Nat} {P : kM → Prop} (hd : d ≤ 11) (h0 : w 0 = kO 5 xF) (hC : kCtrX mX5_undo d [.ref 0] w kISE P) : kCtrG mL_undo 12 1 6 [.ref 0] w (.int (-1000001)) P := by
  refine kCtrG.ofH plLw nL_undo (by decide) (Nat.le_of_ble_eq_true rfl) (fun n => ?_)
  refine kw_aload_n (pc := 0) dL_undo_0 rfl ?_
  refine kw_callV (pc := 1) dL_undo_1 lL_46 (hC n) h0 rfl rfl rfl ⟨by omega, by decide, Nat.le_of_ble_eq_true rfl, Nat.le_refl _, Nat.le_refl _⟩ (fun E w1 n1 h => ?_) (fun v w1 n1 h => by cases h.1)
  obtain ⟨h1, h2, h3⟩ := h
  cases h1
  refine kwx_catch_n (pc := 1) (hpc := 5) (nm := kISE) nL_undo [] ⟨0, 4, 5, 50⟩ [] rfl (fun z hz => absurd hz List.not_mem_nil) (by decide) (by decide) nLa_50 nCa_50 rfl dL_undo_5 (by decide) rfl ?_
  refine kw_ldc (pc := 6) dL_undo_6 gLc_18 ?_
  exact kw_ireturn nL_undo (pc := 8) dL_undo_8 rfl rfl ⟨rfl, h2⟩
set_option maxRecDepth 100000 in
set_option maxHeartbeats 4000000 in
theorem hL_parcelOf_T {w : kM} {a1 a2 : Int32} {d : Nat} {v : Int32} {P : kM → Prop} (hd : d ≤ 11) (h0 : w 0 = kO 5 xF) (hC : kCtrW mX5_parcelOf d [.ref 0, .int a1, .int a2] w (some (.int v)) P) : kCtrW mL_parcelOf 12 [.ref 0, .int a1, .int a2] w (some (.int v)) P := by
  refine kCtrW.ofH plLw nL_parcelOf (by decide) (Nat.le_of_ble_eq_true rfl) (fun n => ?_)
  refine kw_aload_n (pc := 0) dL_parcelOf_0 rfl ?_
  refine kw_iload_n (pc := 1) dL_parcelOf_1 rfl ?_
  refine kw_iload_n (pc := 2) dL_parcelOf_2 rfl ?_
  refine kw_callVw1 (pc := 3) dL_parcelOf_3 lL_52 hC h0 rfl rfl rfl ⟨by omega, by decide, Nat.le_of_ble_eq_true rfl⟩ (fun w1 hw1 => ?_)
  exact kw_ireturn nL_parcelOf (pc := 6) dL_parcelOf_6 rfl rfl ⟨rfl, hw1, rfl⟩
set_option maxRecDepth 100000 in
set_option maxHeartbeats 4000000 in
theorem hL_parcelOf_X1 {w : kM} {a1 a2 : Int32} {d : Nat} {P : kM → Prop} (hd : d ≤ 11) (h0 : w 0 = kO 5 xF) (hC : kCtrX mX5_parcelOf d [.ref 0, .int a1, .int a2] w kIOB P) : kCtrG mL_parcelOf 12 1 6 [.ref 0, .int a1, .int a2] w (.int (-1000001)) P := by
  refine kCtrG.ofH plLw nL_parcelOf (by decide) (Nat.le_of_ble_eq_true rfl) (fun n => ?_)
  refine kw_aload_n (pc := 0) dL_parcelOf_0 rfl ?_
  refine kw_iload_n (pc := 1) dL_parcelOf_1 rfl ?_
  refine kw_iload_n (pc := 2) dL_parcelOf_2 rfl ?_
  refine kw_callV (pc := 3) dL_parcelOf_3 lL_52 (hC n) h0 rfl rfl rfl ⟨by omega, by decide, Nat.le_of_ble_eq_true rfl, Nat.le_refl _, Nat.le_refl _⟩ (fun E w1 n1 h => ?_) (fun v w1 n1 h => by cases h.1)
  obtain ⟨h1, h2, h3⟩ := h
  cases h1
  refine kwx_catch_n (pc := 3) (hpc := 7) (nm := kIOB) nL_parcelOf [] ⟨0, 6, 7, 23⟩ [⟨0, 6, 11, 16⟩] rfl (fun z hz => absurd hz List.not_mem_nil) (by decide) (by decide) nLa_23 nCa_23 rfl dL_parcelOf_7 (by decide) rfl ?_
  refine kw_ldc (pc := 8) dL_parcelOf_8 gLc_18 ?_
  exact kw_ireturn nL_parcelOf (pc := 10) dL_parcelOf_10 rfl rfl ⟨rfl, h2⟩
set_option maxRecDepth 100000 in
set_option maxHeartbeats 4000000 in
theorem hL_parcelOf_X2 {w : kM} {a1 a2 : Int32} {d : Nat} {P : kM → Prop} (hd : d ≤ 11) (h0 : w 0 = kO 5 xF) (hC : kCtrX mX5_parcelOf d [.ref 0, .int a1, .int a2] w kIAE P) : kCtrG mL_parcelOf 12 1 6 [.ref 0, .int a1, .int a2] w (.int (-1000002)) P := by
  refine kCtrG.ofH plLw nL_parcelOf (by decide) (Nat.le_of_ble_eq_true rfl) (fun n => ?_)
  refine kw_aload_n (pc := 0) dL_parcelOf_0 rfl ?_
  refine kw_iload_n (pc := 1) dL_parcelOf_1 rfl ?_
  refine kw_iload_n (pc := 2) dL_parcelOf_2 rfl ?_
  refine kw_callV (pc := 3) dL_parcelOf_3 lL_52 (hC n) h0 rfl rfl rfl ⟨by omega, by decide, Nat.le_of_ble_eq_true rfl, Nat.le_refl _, Nat.le_refl _⟩ (fun E w1 n1 h => ?_) (fun v w1 n1 h => by cases h.1)
  obtain ⟨h1, h2, h3⟩ := h
  cases h1
  refine kwx_catch_n (pc := 3) (hpc := 11) (nm := kIAE) nL_parcelOf [⟨0, 6, 7, 23⟩] ⟨0, 6, 11, 16⟩ [] rfl (fun z hz => by rw [List.mem_singleton.mp hz]; exact ⟨by decide, _, nLa_23, nNc_1⟩) (by decide) (by decide) nLa_16 nCa_16 rfl dL_parcelOf_11 (by decide) rfl ?_
  refine kw_ldc (pc := 12) dL_parcelOf_12 gLc_25 ?_
  exact kw_ireturn nL_parcelOf (pc := 14) dL_parcelOf_14 rfl rfl ⟨rfl, h2⟩
set_option maxRecDepth 100000 in
set_option maxHeartbeats 4000000 in
theorem hL_rate_T {w : kM} {a1 a2 : Int32} {d : Nat} {v : Int32} {P : kM → Prop} (hd : d ≤ 11) (h0 : w 0 = kO 5 xF) (hC : kCtrW mX5_rate d [.ref 0, .int a1, .int a2] w (some (.int v)) P) : kCtrW mL_rate 12 [.ref 0, .int a1, .int a2] w (some (.int v)) P := by
  refine kCtrW.ofH plLw nL_rate (by decide) (Nat.le_of_ble_eq_true rfl) (fun n => ?_)
  refine kw_aload_n (pc := 0) dL_rate_0 rfl ?_
  refine kw_iload_n (pc := 1) dL_rate_1 rfl ?_
  refine kw_iload_n (pc := 2) dL_rate_2 rfl ?_
  refine kw_callVw1 (pc := 3) dL_rate_3 lL_55 hC h0 rfl rfl rfl ⟨by omega, by decide, Nat.le_of_ble_eq_true rfl⟩ (fun w1 hw1 => ?_)
  exact kw_ireturn nL_rate (pc := 6) dL_rate_6 rfl rfl ⟨rfl, hw1, rfl⟩
set_option maxRecDepth 100000 in
set_option maxHeartbeats 4000000 in
theorem hL_rate_X1 {w : kM} {a1 a2 : Int32} {d : Nat} {P : kM → Prop} (hd : d ≤ 11) (h0 : w 0 = kO 5 xF) (hC : kCtrX mX5_rate d [.ref 0, .int a1, .int a2] w kIAE P) : kCtrG mL_rate 12 1 6 [.ref 0, .int a1, .int a2] w (.int (-1000001)) P := by
  refine kCtrG.ofH plLw nL_rate (by decide) (Nat.le_of_ble_eq_true rfl) (fun n => ?_)
  refine kw_aload_n (pc := 0) dL_rate_0 rfl ?_
  refine kw_iload_n (pc := 1) dL_rate_1 rfl ?_
  refine kw_iload_n (pc := 2) dL_rate_2 rfl ?_
  refine kw_callV (pc := 3) dL_rate_3 lL_55 (hC n) h0 rfl rfl rfl ⟨by omega, by decide, Nat.le_of_ble_eq_true rfl, Nat.le_refl _, Nat.le_refl _⟩ (fun E w1 n1 h => ?_) (fun v w1 n1 h => by cases h.1)
  obtain ⟨h1, h2, h3⟩ := h
  cases h1
  refine kwx_catch_n (pc := 3) (hpc := 7) (nm := kIAE) nL_rate [] ⟨0, 6, 7, 16⟩ [] rfl (fun z hz => absurd hz List.not_mem_nil) (by decide) (by decide) nLa_16 nCa_16 rfl dL_rate_7 (by decide) rfl ?_
  refine kw_ldc (pc := 8) dL_rate_8 gLc_18 ?_
  exact kw_ireturn nL_rate (pc := 10) dL_rate_10 rfl rfl ⟨rfl, h2⟩
set_option maxRecDepth 100000 in
set_option maxHeartbeats 4000000 in
theorem hL_count_T {w : kM} {a1 : Int32} {d : Nat} {v : Int32} {P : kM → Prop} (hd : d ≤ 11) (h0 : w 0 = kO 5 xF) (hC : kCtrW mX5_count d [.ref 0, .int a1] w (some (.int v)) P) : kCtrW mL_count 12 [.ref 0, .int a1] w (some (.int v)) P := by
  refine kCtrW.ofH plLw nL_count (by decide) (Nat.le_of_ble_eq_true rfl) (fun n => ?_)
  refine kw_aload_n (pc := 0) dL_count_0 rfl ?_
  refine kw_iload_n (pc := 1) dL_count_1 rfl ?_
  refine kw_callVw1 (pc := 2) dL_count_2 lL_58 hC h0 rfl rfl rfl ⟨by omega, by decide, Nat.le_of_ble_eq_true rfl⟩ (fun w1 hw1 => ?_)
  exact kw_ireturn nL_count (pc := 5) dL_count_5 rfl rfl ⟨rfl, hw1, rfl⟩
set_option maxRecDepth 100000 in
set_option maxHeartbeats 4000000 in
theorem hL_count_X1 {w : kM} {a1 : Int32} {d : Nat} {P : kM → Prop} (hd : d ≤ 11) (h0 : w 0 = kO 5 xF) (hC : kCtrX mX5_count d [.ref 0, .int a1] w kIAE P) : kCtrG mL_count 12 1 6 [.ref 0, .int a1] w (.int (-1000001)) P := by
  refine kCtrG.ofH plLw nL_count (by decide) (Nat.le_of_ble_eq_true rfl) (fun n => ?_)
  refine kw_aload_n (pc := 0) dL_count_0 rfl ?_
  refine kw_iload_n (pc := 1) dL_count_1 rfl ?_
  refine kw_callV (pc := 2) dL_count_2 lL_58 (hC n) h0 rfl rfl rfl ⟨by omega, by decide, Nat.le_of_ble_eq_true rfl, Nat.le_refl _, Nat.le_refl _⟩ (fun E w1 n1 h => ?_) (fun v w1 n1 h => by cases h.1)
  obtain ⟨h1, h2, h3⟩ := h
  cases h1
  refine kwx_catch_n (pc := 2) (hpc := 6) (nm := kIAE) nL_count [] ⟨0, 5, 6, 16⟩ [] rfl (fun z hz => absurd hz List.not_mem_nil) (by decide) (by decide) nLa_16 nCa_16 rfl dL_count_6 (by decide) rfl ?_
  refine kw_ldc (pc := 7) dL_count_7 gLc_18 ?_
  exact kw_ireturn nL_count (pc := 9) dL_count_9 rfl rfl ⟨rfl, h2⟩
set_option maxRecDepth 100000 in
set_option maxHeartbeats 4000000 in
theorem hL_setting_T {w : kM} {a1 : Int32} {d : Nat} {v : Int32} {P : kM → Prop} (hd : d ≤ 11) (h0 : w 0 = kO 5 xF) (hC : kCtrW mX5_setting d [.ref 0, .int a1] w (some (.int v)) P) : kCtrW mL_setting 12 [.ref 0, .int a1] w (some (.int v)) P := by
  refine kCtrW.ofH plLw nL_setting (by decide) (Nat.le_of_ble_eq_true rfl) (fun n => ?_)
  refine kw_aload_n (pc := 0) dL_setting_0 rfl ?_
  refine kw_iload_n (pc := 1) dL_setting_1 rfl ?_
  refine kw_callVw1 (pc := 2) dL_setting_2 lL_61 hC h0 rfl rfl rfl ⟨by omega, by decide, Nat.le_of_ble_eq_true rfl⟩ (fun w1 hw1 => ?_)
  exact kw_ireturn nL_setting (pc := 5) dL_setting_5 rfl rfl ⟨rfl, hw1, rfl⟩
set_option maxRecDepth 100000 in
set_option maxHeartbeats 4000000 in
theorem hL_setting_X1 {w : kM} {a1 : Int32} {d : Nat} {P : kM → Prop} (hd : d ≤ 11) (h0 : w 0 = kO 5 xF) (hC : kCtrX mX5_setting d [.ref 0, .int a1] w kIOB P) : kCtrG mL_setting 12 1 6 [.ref 0, .int a1] w (.int (-1000001)) P := by
  refine kCtrG.ofH plLw nL_setting (by decide) (Nat.le_of_ble_eq_true rfl) (fun n => ?_)
  refine kw_aload_n (pc := 0) dL_setting_0 rfl ?_
  refine kw_iload_n (pc := 1) dL_setting_1 rfl ?_
  refine kw_callV (pc := 2) dL_setting_2 lL_61 (hC n) h0 rfl rfl rfl ⟨by omega, by decide, Nat.le_of_ble_eq_true rfl, Nat.le_refl _, Nat.le_refl _⟩ (fun E w1 n1 h => ?_) (fun v w1 n1 h => by cases h.1)
  obtain ⟨h1, h2, h3⟩ := h
  cases h1
  refine kwx_catch_n (pc := 2) (hpc := 6) (nm := kIOB) nL_setting [] ⟨0, 5, 6, 23⟩ [] rfl (fun z hz => absurd hz List.not_mem_nil) (by decide) (by decide) nLa_23 nCa_23 rfl dL_setting_6 (by decide) rfl ?_
  refine kw_ldc (pc := 7) dL_setting_7 gLc_18 ?_
  exact kw_ireturn nL_setting (pc := 9) dL_setting_9 rfl rfl ⟨rfl, h2⟩
set_option maxRecDepth 100000 in
set_option maxHeartbeats 4000000 in
theorem hL_cheapestWay_T {w : kM} {a1 : Int32} {d : Nat} {v : Int32} {P : kM → Prop} (hd : d ≤ 11) (h0 : w 0 = kO 5 xF) (hC : kCtrW mX5_cheapestWay d [.ref 0, .int a1] w (some (.int v)) P) : kCtrW mL_cheapestWay 12 [.ref 0, .int a1] w (some (.int v)) P := by
  refine kCtrW.ofH plLw nL_cheapestWay (by decide) (Nat.le_of_ble_eq_true rfl) (fun n => ?_)
  refine kw_aload_n (pc := 0) dL_cheapestWay_0 rfl ?_
  refine kw_iload_n (pc := 1) dL_cheapestWay_1 rfl ?_
  refine kw_callVw1 (pc := 2) dL_cheapestWay_2 lL_64 hC h0 rfl rfl rfl ⟨by omega, by decide, Nat.le_of_ble_eq_true rfl⟩ (fun w1 hw1 => ?_)
  exact kw_ireturn nL_cheapestWay (pc := 5) dL_cheapestWay_5 rfl rfl ⟨rfl, hw1, rfl⟩
set_option maxRecDepth 100000 in
set_option maxHeartbeats 4000000 in
theorem hL_cheapestWay_X1 {w : kM} {a1 : Int32} {d : Nat} {P : kM → Prop} (hd : d ≤ 11) (h0 : w 0 = kO 5 xF) (hC : kCtrX mX5_cheapestWay d [.ref 0, .int a1] w kIOB P) : kCtrG mL_cheapestWay 12 1 6 [.ref 0, .int a1] w (.int (-1000001)) P := by
  refine kCtrG.ofH plLw nL_cheapestWay (by decide) (Nat.le_of_ble_eq_true rfl) (fun n => ?_)
  refine kw_aload_n (pc := 0) dL_cheapestWay_0 rfl ?_
  refine kw_iload_n (pc := 1) dL_cheapestWay_1 rfl ?_
  refine kw_callV (pc := 2) dL_cheapestWay_2 lL_64 (hC n) h0 rfl rfl rfl ⟨by omega, by decide, Nat.le_of_ble_eq_true rfl, Nat.le_refl _, Nat.le_refl _⟩ (fun E w1 n1 h => ?_) (fun v w1 n1 h => by cases h.1)
  obtain ⟨h1, h2, h3⟩ := h
  cases h1
  refine kwx_catch_n (pc := 2) (hpc := 6) (nm := kIOB) nL_cheapestWay [] ⟨0, 5, 6, 23⟩ [] rfl (fun z hz => absurd hz List.not_mem_nil) (by decide) (by decide) nLa_23 nCa_23 rfl dL_cheapestWay_6 (by decide) rfl ?_
  refine kw_ldc (pc := 7) dL_cheapestWay_7 gLc_18 ?_
  exact kw_ireturn nL_cheapestWay (pc := 9) dL_cheapestWay_9 rfl rfl ⟨rfl, h2⟩
set_option maxRecDepth 100000 in
set_option maxHeartbeats 4000000 in
theorem hL_ifBundled_T {w : kM} {a1 a2 : Int32} {d : Nat} {v : Int32} {P : kM → Prop} (hd : d ≤ 11) (h0 : w 0 = kO 5 xF) (hC : kCtrW mX5_ifBundled d [.ref 0, .int a1, .int a2] w (some (.int v)) P) : kCtrW mL_ifBundled 12 [.ref 0, .int a1, .int a2] w (some (.int v)) P := by
  refine kCtrW.ofH plLw nL_ifBundled (by decide) (Nat.le_of_ble_eq_true rfl) (fun n => ?_)
  refine kw_aload_n (pc := 0) dL_ifBundled_0 rfl ?_
  refine kw_iload_n (pc := 1) dL_ifBundled_1 rfl ?_
  refine kw_iload_n (pc := 2) dL_ifBundled_2 rfl ?_
  refine kw_callVw1 (pc := 3) dL_ifBundled_3 lL_67 hC h0 rfl rfl rfl ⟨by omega, by decide, Nat.le_of_ble_eq_true rfl⟩ (fun w1 hw1 => ?_)
  exact kw_ireturn nL_ifBundled (pc := 6) dL_ifBundled_6 rfl rfl ⟨rfl, hw1, rfl⟩
set_option maxRecDepth 100000 in
set_option maxHeartbeats 4000000 in
theorem hL_ifBundled_X1 {w : kM} {a1 a2 : Int32} {d : Nat} {P : kM → Prop} (hd : d ≤ 11) (h0 : w 0 = kO 5 xF) (hC : kCtrX mX5_ifBundled d [.ref 0, .int a1, .int a2] w kIOB P) : kCtrG mL_ifBundled 12 1 6 [.ref 0, .int a1, .int a2] w (.int (-1000001)) P := by
  refine kCtrG.ofH plLw nL_ifBundled (by decide) (Nat.le_of_ble_eq_true rfl) (fun n => ?_)
  refine kw_aload_n (pc := 0) dL_ifBundled_0 rfl ?_
  refine kw_iload_n (pc := 1) dL_ifBundled_1 rfl ?_
  refine kw_iload_n (pc := 2) dL_ifBundled_2 rfl ?_
  refine kw_callV (pc := 3) dL_ifBundled_3 lL_67 (hC n) h0 rfl rfl rfl ⟨by omega, by decide, Nat.le_of_ble_eq_true rfl, Nat.le_refl _, Nat.le_refl _⟩ (fun E w1 n1 h => ?_) (fun v w1 n1 h => by cases h.1)
  obtain ⟨h1, h2, h3⟩ := h
  cases h1
  refine kwx_catch_n (pc := 3) (hpc := 7) (nm := kIOB) nL_ifBundled [] ⟨0, 6, 7, 23⟩ [⟨0, 6, 11, 16⟩] rfl (fun z hz => absurd hz List.not_mem_nil) (by decide) (by decide) nLa_23 nCa_23 rfl dL_ifBundled_7 (by decide) rfl ?_
  refine kw_ldc (pc := 8) dL_ifBundled_8 gLc_18 ?_
  exact kw_ireturn nL_ifBundled (pc := 10) dL_ifBundled_10 rfl rfl ⟨rfl, h2⟩
set_option maxRecDepth 100000 in
set_option maxHeartbeats 4000000 in
theorem hL_ifBundled_X2 {w : kM} {a1 a2 : Int32} {d : Nat} {P : kM → Prop} (hd : d ≤ 11) (h0 : w 0 = kO 5 xF) (hC : kCtrX mX5_ifBundled d [.ref 0, .int a1, .int a2] w kIAE P) : kCtrG mL_ifBundled 12 1 6 [.ref 0, .int a1, .int a2] w (.int (-1000002)) P := by
  refine kCtrG.ofH plLw nL_ifBundled (by decide) (Nat.le_of_ble_eq_true rfl) (fun n => ?_)
  refine kw_aload_n (pc := 0) dL_ifBundled_0 rfl ?_
  refine kw_iload_n (pc := 1) dL_ifBundled_1 rfl ?_
  refine kw_iload_n (pc := 2) dL_ifBundled_2 rfl ?_
  refine kw_callV (pc := 3) dL_ifBundled_3 lL_67 (hC n) h0 rfl rfl rfl ⟨by omega, by decide, Nat.le_of_ble_eq_true rfl, Nat.le_refl _, Nat.le_refl _⟩ (fun E w1 n1 h => ?_) (fun v w1 n1 h => by cases h.1)
  obtain ⟨h1, h2, h3⟩ := h
  cases h1
  refine kwx_catch_n (pc := 3) (hpc := 11) (nm := kIAE) nL_ifBundled [⟨0, 6, 7, 23⟩] ⟨0, 6, 11, 16⟩ [] rfl (fun z hz => by rw [List.mem_singleton.mp hz]; exact ⟨by decide, _, nLa_23, nNc_1⟩) (by decide) (by decide) nLa_16 nCa_16 rfl dL_ifBundled_11 (by decide) rfl ?_
  refine kw_ldc (pc := 12) dL_ifBundled_12 gLc_25 ?_
  exact kw_ireturn nL_ifBundled (pc := 14) dL_ifBundled_14 rfl rfl ⟨rfl, h2⟩
set_option maxRecDepth 100000 in
set_option maxHeartbeats 4000000 in
theorem hL_cheapest_T {w : kM} {a1 : Int32} {d : Nat} {v : Int32} {P : kM → Prop} (hd : d ≤ 11) (h0 : w 0 = kO 5 xF) (hC : kCtrW mX5_cheapest d [.ref 0, .int a1] w (some (.int v)) P) : kCtrW mL_cheapest 12 [.ref 0, .int a1] w (some (.int v)) P := by
  refine kCtrW.ofH plLw nL_cheapest (by decide) (Nat.le_of_ble_eq_true rfl) (fun n => ?_)
  refine kw_aload_n (pc := 0) dL_cheapest_0 rfl ?_
  refine kw_iload_n (pc := 1) dL_cheapest_1 rfl ?_
  refine kw_callVw1 (pc := 2) dL_cheapest_2 lL_70 hC h0 rfl rfl rfl ⟨by omega, by decide, Nat.le_of_ble_eq_true rfl⟩ (fun w1 hw1 => ?_)
  exact kw_ireturn nL_cheapest (pc := 5) dL_cheapest_5 rfl rfl ⟨rfl, hw1, rfl⟩
set_option maxRecDepth 100000 in
set_option maxHeartbeats 4000000 in
theorem hL_cheapest_X1 {w : kM} {a1 : Int32} {d : Nat} {P : kM → Prop} (hd : d ≤ 11) (h0 : w 0 = kO 5 xF) (hC : kCtrX mX5_cheapest d [.ref 0, .int a1] w kIAE P) : kCtrG mL_cheapest 12 1 6 [.ref 0, .int a1] w (.int (-1000001)) P := by
  refine kCtrG.ofH plLw nL_cheapest (by decide) (Nat.le_of_ble_eq_true rfl) (fun n => ?_)
  refine kw_aload_n (pc := 0) dL_cheapest_0 rfl ?_
  refine kw_iload_n (pc := 1) dL_cheapest_1 rfl ?_
  refine kw_callV (pc := 2) dL_cheapest_2 lL_70 (hC n) h0 rfl rfl rfl ⟨by omega, by decide, Nat.le_of_ble_eq_true rfl, Nat.le_refl _, Nat.le_refl _⟩ (fun E w1 n1 h => ?_) (fun v w1 n1 h => by cases h.1)
  obtain ⟨h1, h2, h3⟩ := h
  cases h1
  refine kwx_catch_n (pc := 2) (hpc := 6) (nm := kIAE) nL_cheapest [] ⟨0, 5, 6, 16⟩ [] rfl (fun z hz => absurd hz List.not_mem_nil) (by decide) (by decide) nLa_16 nCa_16 rfl dL_cheapest_6 (by decide) rfl ?_
  refine kw_ldc (pc := 7) dL_cheapest_7 gLc_18 ?_
  exact kw_ireturn nL_cheapest (pc := 9) dL_cheapest_9 rfl rfl ⟨rfl, h2⟩
set_option maxRecDepth 100000 in
set_option maxHeartbeats 4000000 in
theorem hL_low {w : kM} (v n : Int32) (hn : ¬ n = 0) : kCtrR mL_low 0 [.int v, .int n] w (.int ((v &&& 2147483647) - (v &&& 2147483647) / n * n)) := by
  refine kCtrR.of plLw nL_low rfl (Nat.le_of_ble_eq_true rfl) (fun n => ?_)
  refine kw_iload_n (pc := 0) dL_low_0 rfl ?_
  refine kw_ldc (pc := 1) dL_low_1 gLc_9 ?_
  refine kw_iand (pc := 3) dL_low_3 ?_
  refine kw_iload_n (pc := 4) dL_low_4 rfl ?_
  refine kw_irem (pc := 5) dL_low_5 hn ?_
  exact kw_ireturn nL_low (pc := 6) dL_low_6 rfl rfl ⟨rfl, rfl, rfl⟩
set_option maxRecDepth 100000 in
set_option maxHeartbeats 4000000 in
theorem hL_at {X : Nat × (Nat → Int32)} {w : kM} (hX : X.1 ≤ 3072) {k : Nat} (hk : k < 1000) : ∃ v, kCtrA X mL_at 0 [.retAddr 9, .int (nI k)] w v := by
  by_cases h : k < X.1
  · refine ⟨X.2 k, kCtrA.of plLw nL_at rfl (Nat.le_of_ble_eq_true rfl) (fun n => ?_)⟩
    refine kw_iload_n (pc := 0) dL_at_0 rfl ?_
    refine kw_aload_nS (pc := 1) dL_at_1 rfl ?_
    refine kw_slenA (pc := 2) nL_at dL_at_2 rfl ?_
    refine kw_icmp_ge (tgt := 12) (pc := 3) dL_at_3 (by decide) (fun h3 => ?_) (fun h3 => ?_)
    · exact absurd ((kLeI (a := X.1) (b := k) (by omega) (by omega) rfl rfl).mp h3) (by omega)
    · refine kw_aload_nS (pc := 6) dL_at_6 rfl ?_
      refine kw_iload_n (pc := 7) dL_at_7 rfl ?_
      refine kw_sldA (pc := 8) nL_at dL_at_8 rfl h hX ?_
      refine kw_goto (tgt := 21) (pc := 9) dL_at_9 (by decide) ?_
      exact kw_ireturn nL_at (pc := 21) dL_at_21 rfl rfl ⟨rfl, rfl, rfl⟩
  · refine ⟨1029667473 * (nI k + 1) + 726429071, kCtrA.of plLw nL_at rfl (Nat.le_of_ble_eq_true rfl) (fun n => ?_)⟩
    refine kw_iload_n (pc := 0) dL_at_0 rfl ?_
    refine kw_aload_nS (pc := 1) dL_at_1 rfl ?_
    refine kw_slenA (pc := 2) nL_at dL_at_2 rfl ?_
    refine kw_icmp_ge (tgt := 12) (pc := 3) dL_at_3 (by decide) (fun h3 => ?_) (fun h3 => ?_)
    · refine kw_ldc (pc := 12) dL_at_12 gLc_7 ?_
      refine kw_iload_n (pc := 14) dL_at_14 rfl ?_
      refine kw_iconst (v := 1) (pc := 15) dL_at_15 (by decide) ?_
      refine kw_iadd (pc := 16) dL_at_16 ?_
      refine kw_imul (pc := 17) dL_at_17 ?_
      refine kw_ldc (pc := 18) dL_at_18 gLc_8 ?_
      refine kw_iadd (pc := 20) dL_at_20 ?_
      exact kw_ireturn nL_at (pc := 21) dL_at_21 rfl rfl ⟨rfl, rfl, rfl⟩
    · exact absurd ((kLeI (a := X.1) (b := k) (by omega) (by omega) rfl rfl).mpr (by omega)) h3
