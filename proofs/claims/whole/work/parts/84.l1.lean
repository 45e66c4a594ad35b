theorem plLw : plainName RL = true := by decide +kernel
theorem nLa_13 : Cond.classLink RL 13 kIAE ∈ kTb := (kin 510 (by decide +kernel) rfl)
theorem nLa_19 : Cond.classLink RL 19 kIOB ∈ kTb := (kin 545 (by decide +kernel) rfl)
theorem nLa_44 : Cond.classLink RL 44 kISE ∈ kTb := (kin 627 (by decide +kernel) rfl)
theorem nCa_13 : Cond.castable kIAE kIAE ∈ kNest := by simp [kNest]
theorem nCa_19 : Cond.castable kIOB kIOB ∈ kNest := by simp [kNest]
theorem nCa_44 : Cond.castable kISE kISE ∈ kNest := by simp [kNest]
theorem vp01 : vp_in 0 1 := show vp_in (nI 0) 1 from vp_in_nI (by decide) (by decide)
theorem nNc_1 : (kIAE, kIOB) ∈ kNc := by simp [kNc]
theorem nNc_2 : (kISE, kIAE) ∈ kNc := by simp [kNc]
theorem kuL {f : Nat → Int64} {x : Int64} : kuF (fun i => .long (f i)) (0 : Int32).toNatClampNeg (.long x) = fun i => .long (if i = 0 then x else f i) := by
  funext j
  rw [show (0 : Int32).toNatClampNeg = 0 by decide]
  unfold kuF
  by_cases h : j = 0
  · rw [if_pos h, if_pos h]
  · rw [if_neg h, if_neg h]
/-- a small method of the law: what it answers, what becomes of the cells -/
def hR (M : kMi) (As : List Value) (w : kM) (z : Int32) (C : kM → Prop) : Prop := ∀ n : Nat, kCtr M 12 1 6 As w n (fun o w' n' => o = .inl (some (.int z)) ∧ C w' ∧ n ≤ n')
def outC (w : kM) (v : Int32) (s : Nat → Int32) (q : Nat) (kp bf : Nat → Int32) (T : Nat) (z : Int32) : kM → Prop := fun w' => cls w' s q kp bf T ∧ (∀ a, 128 ≤ a → a ≠ 134 → w' a = w a) ∧ ∃ f : Nat → Int64, w' 134 = kV 3 1 (fun i => .long (f i)) ∧ (z = 0 → f 0 = v.toInt64)
abbrev clP (w : kM) (s : Nat → Int32) (q : Nat) (kp bf : Nat → Int32) (T : Nat) : kM → Prop := fun w' => cls w' s q kp bf T ∧ ∀ a, 128 ≤ a → w' a = w a
abbrev outW (w : kM) : Prop := ∃ f : Nat → Int64, w 134 = kV 3 1 (fun i => .long (f i))
theorem kCtrR.toW {M : kMi} {d : Nat} {As : List Value} {w : kM} {v : Value} {P : kM → Prop} (h : kCtrR M d As w v) (hp : P w) : kCtrW M d As w (some v) P := kCtrW.weak (P := fun w' => w' = w) h (fun w' e => by rw [e]; exact hp)
theorem nL_bring : mL_bring.1.name ≠ "law" := by decide +kernel
set_option maxRecDepth 100000 in
set_option maxHeartbeats 4000000 in
theorem hL_bring_T {w : kM} {a1 a2 a3 a4 a5 : Int32} {d : Nat} {s : Nat → Int32} {q : Nat} {kp bf : Nat → Int32} {T : Nat} {v : Int32} (hd : d ≤ 11) (h0 : w 0 = kO 5 xF) (ho : outW w) (hC : kCtrW mX5_bring d [.ref 0, .int a1, .int a2, .int a3, .int a4, .int a5] w (some (.int v)) (clP w s q kp bf T)) : hR mL_bring [.ref 0, .int a1, .int a2, .int a3, .int a4, .int a5, .ref 134] w 0 (outC w v s q kp bf T 0) := by
  obtain ⟨f, hf⟩ := ho
  intro n
  refine kCtr.ofH (X := (0, fun _ => 0)) plLw nL_bring (by decide) (Nat.le_of_ble_eq_true rfl) ?_
  refine kw_aload (pc := 0) dL_bring_0 rfl ?_
  refine kw_iconst (v := 0) (pc := 2) dL_bring_2 (by decide) ?_
  refine kw_aload_n (pc := 3) dL_bring_3 rfl ?_
  refine kw_iload_n (pc := 4) dL_bring_4 rfl ?_
  refine kw_iload_n (pc := 5) dL_bring_5 rfl ?_
  refine kw_iload_n (pc := 6) dL_bring_6 rfl ?_
  refine kw_iload (pc := 7) dL_bring_7 rfl ?_
  refine kw_iload (pc := 9) dL_bring_9 rfl ?_
  refine kw_callVw1 (pc := 11) dL_bring_11 lL_7 hC h0 rfl rfl rfl ⟨by omega, by decide, Nat.le_of_ble_eq_true rfl⟩ (fun w1 hw1 => ?_)
  obtain ⟨C1, F1⟩ := hw1
  refine kw_i2l (pc := 14) dL_bring_14 ?_
  refine kw_lastore (pc := 15) dL_bring_15 ((F1 134 (by decide)).trans hf) vp01 (kgen (fun w2 hw2 => ?_))
  rw [kuL] at hw2
  refine kw_goto (tgt := 23) (pc := 16) dL_bring_16 (by decide) ?_
  refine kw_iconst (v := 0) (pc := 23) dL_bring_23 (by decide) ?_
  exact kw_ireturn nL_bring (pc := 24) dL_bring_24 rfl rfl ⟨rfl, ⟨C1.fr (fun a ha => by rw [hw2]; exact kup_ne (by omega)), fun a h1 h2 => by rw [hw2, kup_ne h2]; exact F1 a h1, _, (by rw [hw2]; exact kup_self _ _ _), fun _ => if_pos rfl⟩, Nat.le_refl _⟩
set_option maxRecDepth 100000 in
set_option maxHeartbeats 4000000 in
theorem hL_bring_X1 {w : kM} {a1 a2 a3 a4 a5 : Int32} {d : Nat} {s : Nat → Int32} {q : Nat} {kp bf : Nat → Int32} {T : Nat} {P : kM → Prop} (hd : d ≤ 11) (h0 : w 0 = kO 5 xF) (ho : outW w) (hC : kCtrX mX5_bring d [.ref 0, .int a1, .int a2, .int a3, .int a4, .int a5] w kIAE P) (hP : ∀ w1, P w1 → clP w s q kp bf T w1) : hR mL_bring [.ref 0, .int a1, .int a2, .int a3, .int a4, .int a5, .ref 134] w 1 (outC w 0 s q kp bf T 1) := by
  obtain ⟨f, hf⟩ := ho
  intro n
  refine kCtr.ofH (X := (0, fun _ => 0)) plLw nL_bring (by decide) (Nat.le_of_ble_eq_true rfl) ?_
  refine kw_aload (pc := 0) dL_bring_0 rfl ?_
  refine kw_iconst (v := 0) (pc := 2) dL_bring_2 (by decide) ?_
  refine kw_aload_n (pc := 3) dL_bring_3 rfl ?_
  refine kw_iload_n (pc := 4) dL_bring_4 rfl ?_
  refine kw_iload_n (pc := 5) dL_bring_5 rfl ?_
  refine kw_iload_n (pc := 6) dL_bring_6 rfl ?_
  refine kw_iload (pc := 7) dL_bring_7 rfl ?_
  refine kw_iload (pc := 9) dL_bring_9 rfl ?_
  refine kw_callV (pc := 11) dL_bring_11 lL_7 (hC n) h0 rfl rfl rfl ⟨by omega, by decide, Nat.le_of_ble_eq_true rfl, Nat.le_refl _, Nat.le_refl _⟩ (fun E w1 n1 h => ?_) (fun v w1 n1 h => by cases h.1)
  obtain ⟨h1, h2, h3⟩ := h
  cases h1
  obtain ⟨C1, F1⟩ := hP w1 h2
  refine kwx_catch (len := 2) (pc := 11) (hpc := 19) (nm := kIAE) nL_bring [] ⟨0, 16, 19, 13⟩ [] rfl (fun z hz => absurd hz List.not_mem_nil) (by decide) (by decide) nLa_13 nCa_13 rfl dL_bring_19 (by decide) rfl ?_
  refine kw_iconst (v := 1) (pc := 21) dL_bring_21 (by decide) ?_
  exact kw_ireturn nL_bring (pc := 22) dL_bring_22 rfl rfl ⟨rfl, ⟨C1, fun a h1 _ => F1 a h1, f, (F1 134 (by decide)).trans hf, fun q => absurd q (by decide)⟩, h3⟩
theorem nL_change : mL_change.1.name ≠ "law" := by decide +kernel
set_option maxRecDepth 100000 in
set_option maxHeartbeats 4000000 in
theorem hL_change_T {w : kM} {a1 a2 a3 : Int32} {d : Nat} {s : Nat → Int32} {q : Nat} {kp bf : Nat → Int32} {T : Nat} {v : Int32} (hd : d ≤ 11) (h0 : w 0 = kO 5 xF) (ho : outW w) (hC : kCtrW mX5_change d [.ref 0, .int a1, .int a2, .int a3] w (some (.int v)) (clP w s q kp bf T)) : hR mL_change [.ref 0, .int a1, .int a2, .int a3, .ref 134] w 0 (outC w v s q kp bf T 0) := by
  obtain ⟨f, hf⟩ := ho
  intro n
  refine kCtr.ofH (X := (0, fun _ => 0)) plLw nL_change (by decide) (Nat.le_of_ble_eq_true rfl) ?_
  refine kw_aload (pc := 0) dL_change_0 rfl ?_
  refine kw_iconst (v := 0) (pc := 2) dL_change_2 (by decide) ?_
  refine kw_aload_n (pc := 3) dL_change_3 rfl ?_
  refine kw_iload_n (pc := 4) dL_change_4 rfl ?_
  refine kw_iload_n (pc := 5) dL_change_5 rfl ?_
  refine kw_iload_n (pc := 6) dL_change_6 rfl ?_
  refine kw_callVw1 (pc := 7) dL_change_7 lL_15 hC h0 rfl rfl rfl ⟨by omega, by decide, Nat.le_of_ble_eq_true rfl⟩ (fun w1 hw1 => ?_)
  obtain ⟨C1, F1⟩ := hw1
  refine kw_i2l (pc := 10) dL_change_10 ?_
  refine kw_lastore (pc := 11) dL_change_11 ((F1 134 (by decide)).trans hf) vp01 (kgen (fun w2 hw2 => ?_))
  rw [kuL] at hw2
  refine kw_goto (tgt := 23) (pc := 12) dL_change_12 (by decide) ?_
  refine kw_iconst (v := 0) (pc := 23) dL_change_23 (by decide) ?_
  exact kw_ireturn nL_change (pc := 24) dL_change_24 rfl rfl ⟨rfl, ⟨C1.fr (fun a ha => by rw [hw2]; exact kup_ne (by omega)), fun a h1 h2 => by rw [hw2, kup_ne h2]; exact F1 a h1, _, (by rw [hw2]; exact kup_self _ _ _), fun _ => if_pos rfl⟩, Nat.le_refl _⟩
set_option maxRecDepth 100000 in
set_option maxHeartbeats 4000000 in
theorem hL_change_X1 {w : kM} {a1 a2 a3 : Int32} {d : Nat} {s : Nat → Int32} {q : Nat} {kp bf : Nat → Int32} {T : Nat} {P : kM → Prop} (hd : d ≤ 11) (h0 : w 0 = kO 5 xF) (ho : outW w) (hC : kCtrX mX5_change d [.ref 0, .int a1, .int a2, .int a3] w kIOB P) (hP : ∀ w1, P w1 → clP w s q kp bf T w1) : hR mL_change [.ref 0, .int a1, .int a2, .int a3, .ref 134] w 1 (outC w 0 s q kp bf T 1) := by
  obtain ⟨f, hf⟩ := ho
  intro n
  refine kCtr.ofH (X := (0, fun _ => 0)) plLw nL_change (by decide) (Nat.le_of_ble_eq_true rfl) ?_
  refine kw_aload (pc := 0) dL_change_0 rfl ?_
  refine kw_iconst (v := 0) (pc := 2) dL_change_2 (by decide) ?_
  refine kw_aload_n (pc := 3) dL_change_3 rfl ?_
  refine kw_iload_n (pc := 4) dL_change_4 rfl ?_
  refine kw_iload_n (pc := 5) dL_change_5 rfl ?_
  refine kw_iload_n (pc := 6) dL_change_6 rfl ?_
  refine kw_callV (pc := 7) dL_change_7 lL_15 (hC n) h0 rfl rfl rfl ⟨by omega, by decide, Nat.le_of_ble_eq_true rfl, Nat.le_refl _, Nat.le_refl _⟩ (fun E w1 n1 h => ?_) (fun v w1 n1 h => by cases h.1)
  obtain ⟨h1, h2, h3⟩ := h
  cases h1
  obtain ⟨C1, F1⟩ := hP w1 h2
  refine kwx_catch (len := 2) (pc := 7) (hpc := 15) (nm := kIOB) nL_change [] ⟨0, 12, 15, 19⟩ [⟨0, 12, 19, 13⟩] rfl (fun z hz => absurd hz List.not_mem_nil) (by decide) (by decide) nLa_19 nCa_19 rfl dL_change_15 (by decide) rfl ?_
  refine kw_iconst (v := 1) (pc := 17) dL_change_17 (by decide) ?_
  exact kw_ireturn nL_change (pc := 18) dL_change_18 rfl rfl ⟨rfl, ⟨C1, fun a h1 _ => F1 a h1, f, (F1 134 (by decide)).trans hf, fun q => absurd q (by decide)⟩, h3⟩
set_option maxRecDepth 100000 in
set_option maxHeartbeats 4000000 in
theorem hL_change_X2 {w : kM} {a1 a2 a3 : Int32} {d : Nat} {s : Nat → Int32} {q : Nat} {kp bf : Nat → Int32} {T : Nat} {P : kM → Prop} (hd : d ≤ 11) (h0 : w 0 = kO 5 xF) (ho : outW w) (hC : kCtrX mX5_change d [.ref 0, .int a1, .int a2, .int a3] w kIAE P) (hP : ∀ w1, P w1 → clP w s q kp bf T w1) : hR mL_change [.ref 0, .int a1, .int a2, .int a3, .ref 134] w 2 (outC w 0 s q kp bf T 2) := by
  obtain ⟨f, hf⟩ := ho
  intro n
  refine kCtr.ofH (X := (0, fun _ => 0)) plLw nL_change (by decide) (Nat.le_of_ble_eq_true rfl) ?_
  refine kw_aload (pc := 0) dL_change_0 rfl ?_
  refine kw_iconst (v := 0) (pc := 2) dL_change_2 (by decide) ?_
  refine kw_aload_n (pc := 3) dL_change_3 rfl ?_
  refine kw_iload_n (pc := 4) dL_change_4 rfl ?_
  refine kw_iload_n (pc := 5) dL_change_5 rfl ?_
  refine kw_iload_n (pc := 6) dL_change_6 rfl ?_
  refine kw_callV (pc := 7) dL_change_7 lL_15 (hC n) h0 rfl rfl rfl ⟨by omega, by decide, Nat.le_of_ble_eq_true rfl, Nat.le_refl _, Nat.le_refl _⟩ (fun E w1 n1 h => ?_) (fun v w1 n1 h => by cases h.1)
  obtain ⟨h1, h2, h3⟩ := h
  cases h1
  obtain ⟨C1, F1⟩ := hP w1 h2
  refine kwx_catch (len := 2) (pc := 7) (hpc := 19) (nm := kIAE) nL_change [⟨0, 12, 15, 19⟩] ⟨0, 12, 19, 13⟩ [] rfl (fun z hz => by rw [List.mem_singleton.mp hz]; exact ⟨by decide, _, nLa_19, nNc_1⟩) (by decide) (by decide) nLa_13 nCa_13 rfl dL_change_19 (by decide) rfl ?_
  refine kw_iconst (v := 2) (pc := 21) dL_change_21 (by decide) ?_
  exact kw_ireturn nL_change (pc := 22) dL_change_22 rfl rfl ⟨rfl, ⟨C1, fun a h1 _ => F1 a h1, f, (F1 134 (by decide)).trans hf, fun q => absurd q (by decide)⟩, h3⟩
theorem nL_send : mL_send.1.name ≠ "law" := by decide +kernel
set_option maxRecDepth 100000 in
set_option maxHeartbeats 4000000 in
theorem hL_send_T {w : kM} {a1 : Int32} {d : Nat} {s : Nat → Int32} {q : Nat} {kp bf : Nat → Int32} {T : Nat} {v : Int32} (hd : d ≤ 11) (h0 : w 0 = kO 5 xF) (ho : outW w) (hC : kCtrW mX5_send d [.ref 0, .int a1] w (some (.int v)) (clP w s q kp bf T)) : hR mL_send [.ref 0, .int a1, .ref 134] w 0 (outC w v s q kp bf T 0) := by
  obtain ⟨f, hf⟩ := ho
  intro n
  refine kCtr.ofH (X := (0, fun _ => 0)) plLw nL_send (by decide) (Nat.le_of_ble_eq_true rfl) ?_
  refine kw_aload_n (pc := 0) dL_send_0 rfl ?_
  refine kw_iconst (v := 0) (pc := 1) dL_send_1 (by decide) ?_
  refine kw_aload_n (pc := 2) dL_send_2 rfl ?_
  refine kw_iload_n (pc := 3) dL_send_3 rfl ?_
  refine kw_callVw1 (pc := 4) dL_send_4 lL_21 hC h0 rfl rfl rfl ⟨by omega, by decide, Nat.le_of_ble_eq_true rfl⟩ (fun w1 hw1 => ?_)
  obtain ⟨C1, F1⟩ := hw1
  refine kw_i2l (pc := 7) dL_send_7 ?_
  refine kw_lastore (pc := 8) dL_send_8 ((F1 134 (by decide)).trans hf) vp01 (kgen (fun w2 hw2 => ?_))
  rw [kuL] at hw2
  refine kw_goto (tgt := 15) (pc := 9) dL_send_9 (by decide) ?_
  refine kw_iconst (v := 0) (pc := 15) dL_send_15 (by decide) ?_
  exact kw_ireturn nL_send (pc := 16) dL_send_16 rfl rfl ⟨rfl, ⟨C1.fr (fun a ha => by rw [hw2]; exact kup_ne (by omega)), fun a h1 h2 => by rw [hw2, kup_ne h2]; exact F1 a h1, _, (by rw [hw2]; exact kup_self _ _ _), fun _ => if_pos rfl⟩, Nat.le_refl _⟩
set_option maxRecDepth 100000 in
set_option maxHeartbeats 4000000 in
theorem hL_send_X1 {w : kM} {a1 : Int32} {d : Nat} {s : Nat → Int32} {q : Nat} {kp bf : Nat → Int32} {T : Nat} {P : kM → Prop} (hd : d ≤ 11) (h0 : w 0 = kO 5 xF) (ho : outW w) (hC : kCtrX mX5_send d [.ref 0, .int a1] w kIOB P) (hP : ∀ w1, P w1 → clP w s q kp bf T w1) : hR mL_send [.ref 0, .int a1, .ref 134] w 1 (outC w 0 s q kp bf T 1) := by
  obtain ⟨f, hf⟩ := ho
  intro n
  refine kCtr.ofH (X := (0, fun _ => 0)) plLw nL_send (by decide) (Nat.le_of_ble_eq_true rfl) ?_
  refine kw_aload_n (pc := 0) dL_send_0 rfl ?_
  refine kw_iconst (v := 0) (pc := 1) dL_send_1 (by decide) ?_
  refine kw_aload_n (pc := 2) dL_send_2 rfl ?_
  refine kw_iload_n (pc := 3) dL_send_3 rfl ?_
  refine kw_callV (pc := 4) dL_send_4 lL_21 (hC n) h0 rfl rfl rfl ⟨by omega, by decide, Nat.le_of_ble_eq_true rfl, Nat.le_refl _, Nat.le_refl _⟩ (fun E w1 n1 h => ?_) (fun v w1 n1 h => by cases h.1)
  obtain ⟨h1, h2, h3⟩ := h
  cases h1
  obtain ⟨C1, F1⟩ := hP w1 h2
  refine kwx_catch_n (pc := 4) (hpc := 12) (nm := kIOB) nL_send [] ⟨0, 9, 12, 19⟩ [] rfl (fun z hz => absurd hz List.not_mem_nil) (by decide) (by decide) nLa_19 nCa_19 rfl dL_send_12 (by decide) rfl ?_
  refine kw_iconst (v := 1) (pc := 13) dL_send_13 (by decide) ?_
  exact kw_ireturn nL_send (pc := 14) dL_send_14 rfl rfl ⟨rfl, ⟨C1, fun a h1 _ => F1 a h1, f, (F1 134 (by decide)).trans hf, fun q => absurd q (by decide)⟩, h3⟩
theorem nL_dispute : mL_dispute.1.name ≠ "law" := by decide +kernel
set_option maxRecDepth 100000 in
set_option maxHeartbeats 4000000 in
theorem hL_dispute_T {w : kM} {a1 a2 : Int32} {d : Nat} {s : Nat → Int32} {q : Nat} {kp bf : Nat → Int32} {T : Nat} {v : Int32} (hd : d ≤ 11) (h0 : w 0 = kO 5 xF) (ho : outW w) (hC : kCtrW mX5_dispute d [.ref 0, .int a1, .int a2] w (some (.int v)) (clP w s q kp bf T)) : hR mL_dispute [.ref 0, .int a1, .int a2, .ref 134] w 0 (outC w v s q kp bf T 0) := by
  obtain ⟨f, hf⟩ := ho
  intro n
  refine kCtr.ofH (X := (0, fun _ => 0)) plLw nL_dispute (by decide) (Nat.le_of_ble_eq_true rfl) ?_
  refine kw_aload_n (pc := 0) dL_dispute_0 rfl ?_
  refine kw_iconst (v := 0) (pc := 1) dL_dispute_1 (by decide) ?_
  refine kw_aload_n (pc := 2) dL_dispute_2 rfl ?_
  refine kw_iload_n (pc := 3) dL_dispute_3 rfl ?_
  refine kw_iload_n (pc := 4) dL_dispute_4 rfl ?_
  refine kw_callVw1 (pc := 5) dL_dispute_5 lL_25 hC h0 rfl rfl rfl ⟨by omega, by decide, Nat.le_of_ble_eq_true rfl⟩ (fun w1 hw1 => ?_)
  obtain ⟨C1, F1⟩ := hw1
  refine kw_i2l (pc := 8) dL_dispute_8 ?_
  refine kw_lastore (pc := 9) dL_dispute_9 ((F1 134 (by decide)).trans hf) vp01 (kgen (fun w2 hw2 => ?_))
  rw [kuL] at hw2
  refine kw_goto (tgt := 21) (pc := 10) dL_dispute_10 (by decide) ?_
  refine kw_iconst (v := 0) (pc := 21) dL_dispute_21 (by decide) ?_
  exact kw_ireturn nL_dispute (pc := 22) dL_dispute_22 rfl rfl ⟨rfl, ⟨C1.fr (fun a ha => by rw [hw2]; exact kup_ne (by omega)), fun a h1 h2 => by rw [hw2, kup_ne h2]; exact F1 a h1, _, (by rw [hw2]; exact kup_self _ _ _), fun _ => if_pos rfl⟩, Nat.le_refl _⟩
set_option maxRecDepth 100000 in
set_option maxHeartbeats 4000000 in
theorem hL_dispute_X1 {w : kM} {a1 a2 : Int32} {d : Nat} {s : Nat → Int32} {q : Nat} {kp bf : Nat → Int32} {T : Nat} {P : kM → Prop} (hd : d ≤ 11) (h0 : w 0 = kO 5 xF) (ho : outW w) (hC : kCtrX mX5_dispute d [.ref 0, .int a1, .int a2] w kIOB P) (hP : ∀ w1, P w1 → clP w s q kp bf T w1) : hR mL_dispute [.ref 0, .int a1, .int a2, .ref 134] w 1 (outC w 0 s q kp bf T 1) := by
  obtain ⟨f, hf⟩ := ho
  intro n
  refine kCtr.ofH (X := (0, fun _ => 0)) plLw nL_dispute (by decide) (Nat.le_of_ble_eq_true rfl) ?_
  refine kw_aload_n (pc := 0) dL_dispute_0 rfl ?_
  refine kw_iconst (v := 0) (pc := 1) dL_dispute_1 (by decide) ?_
  refine kw_aload_n (pc := 2) dL_dispute_2 rfl ?_
  refine kw_iload_n (pc := 3) dL_dispute_3 rfl ?_
  refine kw_iload_n (pc := 4) dL_dispute_4 rfl ?_
  refine kw_callV (pc := 5) dL_dispute_5 lL_25 (hC n) h0 rfl rfl rfl ⟨by omega, by decide, Nat.le_of_ble_eq_true rfl, Nat.le_refl _, Nat.le_refl _⟩ (fun E w1 n1 h => ?_) (fun v w1 n1 h => by cases h.1)
  obtain ⟨h1, h2, h3⟩ := h
  cases h1
  obtain ⟨C1, F1⟩ := hP w1 h2
  refine kwx_catch (len := 2) (pc := 5) (hpc := 13) (nm := kIOB) nL_dispute [] ⟨0, 10, 13, 19⟩ [⟨0, 10, 17, 13⟩] rfl (fun z hz => absurd hz List.not_mem_nil) (by decide) (by decide) nLa_19 nCa_19 rfl dL_dispute_13 (by decide) rfl ?_
  refine kw_iconst (v := 1) (pc := 15) dL_dispute_15 (by decide) ?_
  exact kw_ireturn nL_dispute (pc := 16) dL_dispute_16 rfl rfl ⟨rfl, ⟨C1, fun a h1 _ => F1 a h1, f, (F1 134 (by decide)).trans hf, fun q => absurd q (by decide)⟩, h3⟩
set_option maxRecDepth 100000 in
set_option maxHeartbeats 4000000 in
theorem hL_dispute_X2 {w : kM} {a1 a2 : Int32} {d : Nat} {s : Nat → Int32} {q : Nat} {kp bf : Nat → Int32} {T : Nat} {P : kM → Prop} (hd : d ≤ 11) (h0 : w 0 = kO 5 xF) (ho : outW w) (hC : kCtrX mX5_dispute d [.ref 0, .int a1, .int a2] w kIAE P) (hP : ∀ w1, P w1 → clP w s q kp bf T w1) : hR mL_dispute [.ref 0, .int a1, .int a2, .ref 134] w 2 (outC w 0 s q kp bf T 2) := by
  obtain ⟨f, hf⟩ := ho
  intro n
  refine kCtr.ofH (X := (0, fun _ => 0)) plLw nL_dispute (by decide) (Nat.le_of_ble_eq_true rfl) ?_
  refine kw_aload_n (pc := 0) dL_dispute_0 rfl ?_
  refine kw_iconst (v := 0) (pc := 1) dL_dispute_1 (by decide) ?_
  refine kw_aload_n (pc := 2) dL_dispute_2 rfl ?_
  refine kw_iload_n (pc := 3) dL_dispute_3 rfl ?_
  refine kw_iload_n (pc := 4) dL_dispute_4 rfl ?_
  refine kw_callV (pc := 5) dL_dispute_5 lL_25 (hC n) h0 rfl rfl rfl ⟨by omega, by decide, Nat.le_of_ble_eq_true rfl, Nat.le_refl _, Nat.le_refl _⟩ (fun E w1 n1 h => ?_) (fun v w1 n1 h => by cases h.1)
  obtain ⟨h1, h2, h3⟩ := h
  cases h1
  obtain ⟨C1, F1⟩ := hP w1 h2
  refine kwx_catch (len := 2) (pc := 5) (hpc := 17) (nm := kIAE) nL_dispute [⟨0, 10, 13, 19⟩] ⟨0, 10, 17, 13⟩ [] rfl (fun z hz => by rw [List.mem_singleton.mp hz]; exact ⟨by decide, _, nLa_19, nNc_1⟩) (by decide) (by decide) nLa_13 nCa_13 rfl dL_dispute_17 (by decide) rfl ?_
  refine kw_iconst (v := 2) (pc := 19) dL_dispute_19 (by decide) ?_
  exact kw_ireturn nL_dispute (pc := 20) dL_dispute_20 rfl rfl ⟨rfl, ⟨C1, fun a h1 _ => F1 a h1, f, (F1 134 (by decide)).trans hf, fun q => absurd q (by decide)⟩, h3⟩
theorem nL_takeBack : mL_takeBack.1.name ≠ "law" := by decide +kernel
set_option maxRecDepth 100000 in
set_option maxHeartbeats 4000000 in
theorem hL_takeBack_T {w : kM} {a1 : Int32} {d : Nat} {s : Nat → Int32} {q : Nat} {kp bf : Nat → Int32} {T : Nat} {v : Int32} (hd : d ≤ 11) (h0 : w 0 = kO 5 xF) (ho : outW w) (hC : kCtrW mX5_takeBack d [.ref 0, .int a1] w (some (.int v)) (clP w s q kp bf T)) : hR mL_takeBack [.ref 0, .int a1, .ref 134] w 0 (outC w v s q kp bf T 0) := by
  obtain ⟨f, hf⟩ := ho
  intro n
  refine kCtr.ofH (X := (0, fun _ => 0)) plLw nL_takeBack (by decide) (Nat.le_of_ble_eq_true rfl) ?_
  refine kw_aload_n (pc := 0) dL_takeBack_0 rfl ?_
  refine kw_iconst (v := 0) (pc := 1) dL_takeBack_1 (by decide) ?_
  refine kw_aload_n (pc := 2) dL_takeBack_2 rfl ?_
  refine kw_iload_n (pc := 3) dL_takeBack_3 rfl ?_
  refine kw_callVw1 (pc := 4) dL_takeBack_4 lL_29 hC h0 rfl rfl rfl ⟨by omega, by decide, Nat.le_of_ble_eq_true rfl⟩ (fun w1 hw1 => ?_)
  obtain ⟨C1, F1⟩ := hw1
  refine kw_i2l (pc := 7) dL_takeBack_7 ?_
  refine kw_lastore (pc := 8) dL_takeBack_8 ((F1 134 (by decide)).trans hf) vp01 (kgen (fun w2 hw2 => ?_))
  rw [kuL] at hw2
  refine kw_goto (tgt := 15) (pc := 9) dL_takeBack_9 (by decide) ?_
  refine kw_iconst (v := 0) (pc := 15) dL_takeBack_15 (by decide) ?_
  exact kw_ireturn nL_takeBack (pc := 16) dL_takeBack_16 rfl rfl ⟨rfl, ⟨C1.fr (fun a ha => by rw [hw2]; exact kup_ne (by omega)), fun a h1 h2 => by rw [hw2, kup_ne h2]; exact F1 a h1, _, (by rw [hw2]; exact kup_self _ _ _), fun _ => if_pos rfl⟩, Nat.le_refl _⟩
set_option maxRecDepth 100000 in
set_option maxHeartbeats 4000000 in
theorem hL_takeBack_X1 {w : kM} {a1 : Int32} {d : Nat} {s : Nat → Int32} {q : Nat} {kp bf : Nat → Int32} {T : Nat} {P : kM → Prop} (hd : d ≤ 11) (h0 : w 0 = kO 5 xF) (ho : outW w) (hC : kCtrX mX5_takeBack d [.ref 0, .int a1] w kIOB P) (hP : ∀ w1, P w1 → clP w s q kp bf T w1) : hR mL_takeBack [.ref 0, .int a1, .ref 134] w 1 (outC w 0 s q kp bf T 1) := by
  obtain ⟨f, hf⟩ := ho
  intro n
  refine kCtr.ofH (X := (0, fun _ => 0)) plLw nL_takeBack (by decide) (Nat.le_of_ble_eq_true rfl) ?_
  refine kw_aload_n (pc := 0) dL_takeBack_0 rfl ?_
  refine kw_iconst (v := 0) (pc := 1) dL_takeBack_1 (by decide) ?_
  refine kw_aload_n (pc := 2) dL_takeBack_2 rfl ?_
  refine kw_iload_n (pc := 3) dL_takeBack_3 rfl ?_
  refine kw_callV (pc := 4) dL_takeBack_4 lL_29 (hC n) h0 rfl rfl rfl ⟨by omega, by decide, Nat.le_of_ble_eq_true rfl, Nat.le_refl _, Nat.le_refl _⟩ (fun E w1 n1 h => ?_) (fun v w1 n1 h => by cases h.1)
  obtain ⟨h1, h2, h3⟩ := h
  cases h1
  obtain ⟨C1, F1⟩ := hP w1 h2
  refine kwx_catch_n (pc := 4) (hpc := 12) (nm := kIOB) nL_takeBack [] ⟨0, 9, 12, 19⟩ [] rfl (fun z hz => absurd hz List.not_mem_nil) (by decide) (by decide) nLa_19 nCa_19 rfl dL_takeBack_12 (by decide) rfl ?_
  refine kw_iconst (v := 1) (pc := 13) dL_takeBack_13 (by decide) ?_
  exact kw_ireturn nL_takeBack (pc := 14) dL_takeBack_14 rfl rfl ⟨rfl, ⟨C1, fun a h1 _ => F1 a h1, f, (F1 134 (by decide)).trans hf, fun q => absurd q (by decide)⟩, h3⟩
theorem nL_price : mL_price.1.name ≠ "law" := by decide +kernel
set_option maxRecDepth 100000 in
set_option maxHeartbeats 4000000 in
theorem hL_price_T {w : kM} {a1 a2 : Int32} {d : Nat} {s : Nat → Int32} {q : Nat} {kp bf : Nat → Int32} {T : Nat} {v : Int32} (hd : d ≤ 11) (h0 : w 0 = kO 5 xF) (ho : outW w) (hC : kCtrW mX5_price d [.ref 0, .int a1, .int a2] w (some (.int v)) (clP w s q kp bf T)) : hR mL_price [.ref 0, .int a1, .int a2, .ref 134] w 0 (outC w v s q kp bf T 0) := by
  obtain ⟨f, hf⟩ := ho
  intro n
  refine kCtr.ofH (X := (0, fun _ => 0)) plLw nL_price (by decide) (Nat.le_of_ble_eq_true rfl) ?_
  refine kw_aload_n (pc := 0) dL_price_0 rfl ?_
  refine kw_iconst (v := 0) (pc := 1) dL_price_1 (by decide) ?_
  refine kw_aload_n (pc := 2) dL_price_2 rfl ?_
  refine kw_iload_n (pc := 3) dL_price_3 rfl ?_
  refine kw_iload_n (pc := 4) dL_price_4 rfl ?_
  refine kw_callVw1 (pc := 5) dL_price_5 lL_32 hC h0 rfl rfl rfl ⟨by omega, by decide, Nat.le_of_ble_eq_true rfl⟩ (fun w1 hw1 => ?_)
  obtain ⟨C1, F1⟩ := hw1
  refine kw_i2l (pc := 8) dL_price_8 ?_
  refine kw_lastore (pc := 9) dL_price_9 ((F1 134 (by decide)).trans hf) vp01 (kgen (fun w2 hw2 => ?_))
  rw [kuL] at hw2
  refine kw_goto (tgt := 21) (pc := 10) dL_price_10 (by decide) ?_
  refine kw_iconst (v := 0) (pc := 21) dL_price_21 (by decide) ?_
  exact kw_ireturn nL_price (pc := 22) dL_price_22 rfl rfl ⟨rfl, ⟨C1.fr (fun a ha => by rw [hw2]; exact kup_ne (by omega)), fun a h1 h2 => by rw [hw2, kup_ne h2]; exact F1 a h1, _, (by rw [hw2]; exact kup_self _ _ _), fun _ => if_pos rfl⟩, Nat.le_refl _⟩
set_option maxRecDepth 100000 in
set_option maxHeartbeats 4000000 in
theorem hL_price_X1 {w : kM} {a1 a2 : Int32} {d : Nat} {s : Nat → Int32} {q : Nat} {kp bf : Nat → Int32} {T : Nat} {P : kM → Prop} (hd : d ≤ 11) (h0 : w 0 = kO 5 xF) (ho : outW w) (hC : kCtrX mX5_price d [.ref 0, .int a1, .int a2] w kIOB P) (hP : ∀ w1, P w1 → clP w s q kp bf T w1) : hR mL_price [.ref 0, .int a1, .int a2, .ref 134] w 1 (outC w 0 s q kp bf T 1) := by
  obtain ⟨f, hf⟩ := ho
  intro n
  refine kCtr.ofH (X := (0, fun _ => 0)) plLw nL_price (by decide) (Nat.le_of_ble_eq_true rfl) ?_
  refine kw_aload_n (pc := 0) dL_price_0 rfl ?_
  refine kw_iconst (v := 0) (pc := 1) dL_price_1 (by decide) ?_
  refine kw_aload_n (pc := 2) dL_price_2 rfl ?_
  refine kw_iload_n (pc := 3) dL_price_3 rfl ?_
  refine kw_iload_n (pc := 4) dL_price_4 rfl ?_
  refine kw_callV (pc := 5) dL_price_5 lL_32 (hC n) h0 rfl rfl rfl ⟨by omega, by decide, Nat.le_of_ble_eq_true rfl, Nat.le_refl _, Nat.le_refl _⟩ (fun E w1 n1 h => ?_) (fun v w1 n1 h => by cases h.1)
  obtain ⟨h1, h2, h3⟩ := h
  cases h1
  obtain ⟨C1, F1⟩ := hP w1 h2
  refine kwx_catch (len := 2) (pc := 5) (hpc := 13) (nm := kIOB) nL_price [] ⟨0, 10, 13, 19⟩ [⟨0, 10, 17, 13⟩] rfl (fun z hz => absurd hz List.not_mem_nil) (by decide) (by decide) nLa_19 nCa_19 rfl dL_price_13 (by decide) rfl ?_
  refine kw_iconst (v := 1) (pc := 15) dL_price_15 (by decide) ?_
  exact kw_ireturn nL_price (pc := 16) dL_price_16 rfl rfl ⟨rfl, ⟨C1, fun a h1 _ => F1 a h1, f, (F1 134 (by decide)).trans hf, fun q => absurd q (by decide)⟩, h3⟩
set_option maxRecDepth 100000 in
set_option maxHeartbeats 4000000 in
theorem hL_price_X2 {w : kM} {a1 a2 : Int32} {d : Nat} {s : Nat → Int32} {q : Nat} {kp bf : Nat → Int32} {T : Nat} {P : kM → Prop} (hd : d ≤ 11) (h0 : w 0 = kO 5 xF) (ho : outW w) (hC : kCtrX mX5_price d [.ref 0, .int a1, .int a2] w kIAE P) (hP : ∀ w1, P w1 → clP w s q kp bf T w1) : hR mL_price [.ref 0, .int a1, .int a2, .ref 134] w 2 (outC w 0 s q kp bf T 2) := by
  obtain ⟨f, hf⟩ := ho
  intro n
  refine kCtr.ofH (X := (0, fun _ => 0)) plLw nL_price (by decide) (Nat.le_of_ble_eq_true rfl) ?_
  refine kw_aload_n (pc := 0) dL_price_0 rfl ?_
  refine kw_iconst (v := 0) (pc := 1) dL_price_1 (by decide) ?_
  refine kw_aload_n (pc := 2) dL_price_2 rfl ?_
  refine kw_iload_n (pc := 3) dL_price_3 rfl ?_
  refine kw_iload_n (pc := 4) dL_price_4 rfl ?_
  refine kw_callV (pc := 5) dL_price_5 lL_32 (hC n) h0 rfl rfl rfl ⟨by omega, by decide, Nat.le_of_ble_eq_true rfl, Nat.le_refl _, Nat.le_refl _⟩ (fun E w1 n1 h => ?_) (fun v w1 n1 h => by cases h.1)
  obtain ⟨h1, h2, h3⟩ := h
  cases h1
  obtain ⟨C1, F1⟩ := hP w1 h2
  refine kwx_catch (len := 2) (pc := 5) (hpc := 17) (nm := kIAE) nL_price [⟨0, 10, 13, 19⟩] ⟨0, 10, 17, 13⟩ [] rfl (fun z hz => by rw [List.mem_singleton.mp hz]; exact ⟨by decide, _, nLa_19, nNc_1⟩) (by decide) (by decide) nLa_13 nCa_13 rfl dL_price_17 (by decide) rfl ?_
  refine kw_iconst (v := 2) (pc := 19) dL_price_19 (by decide) ?_
  exact kw_ireturn nL_price (pc := 20) dL_price_20 rfl rfl ⟨rfl, ⟨C1, fun a h1 _ => F1 a h1, f, (F1 134 (by decide)).trans hf, fun q => absurd q (by decide)⟩, h3⟩
theorem nL_zone : mL_zone.1.name ≠ "law" := by decide +kernel
set_option maxRecDepth 100000 in
set_option maxHeartbeats 4000000 in
theorem hL_zone_T {w : kM} {a1 a2 : Int32} {d : Nat} {s : Nat → Int32} {q : Nat} {kp bf : Nat → Int32} {T : Nat} {v : Int32} (hd : d ≤ 11) (h0 : w 0 = kO 5 xF) (ho : outW w) (hC : kCtrW mX5_zone d [.ref 0, .int a1, .int a2] w (some (.int v)) (clP w s q kp bf T)) : hR mL_zone [.ref 0, .int a1, .int a2, .ref 134] w 0 (outC w v s q kp bf T 0) := by
  obtain ⟨f, hf⟩ := ho
  intro n
  refine kCtr.ofH (X := (0, fun _ => 0)) plLw nL_zone (by decide) (Nat.le_of_ble_eq_true rfl) ?_
  refine kw_aload_n (pc := 0) dL_zone_0 rfl ?_
  refine kw_iconst (v := 0) (pc := 1) dL_zone_1 (by decide) ?_
  refine kw_aload_n (pc := 2) dL_zone_2 rfl ?_
  refine kw_iload_n (pc := 3) dL_zone_3 rfl ?_
  refine kw_iload_n (pc := 4) dL_zone_4 rfl ?_
  refine kw_callVw1 (pc := 5) dL_zone_5 lL_35 hC h0 rfl rfl rfl ⟨by omega, by decide, Nat.le_of_ble_eq_true rfl⟩ (fun w1 hw1 => ?_)
  obtain ⟨C1, F1⟩ := hw1
  refine kw_i2l (pc := 8) dL_zone_8 ?_
  refine kw_lastore (pc := 9) dL_zone_9 ((F1 134 (by decide)).trans hf) vp01 (kgen (fun w2 hw2 => ?_))
  rw [kuL] at hw2
  refine kw_goto (tgt := 21) (pc := 10) dL_zone_10 (by decide) ?_
  refine kw_iconst (v := 0) (pc := 21) dL_zone_21 (by decide) ?_
  exact kw_ireturn nL_zone (pc := 22) dL_zone_22 rfl rfl ⟨rfl, ⟨C1.fr (fun a ha => by rw [hw2]; exact kup_ne (by omega)), fun a h1 h2 => by rw [hw2, kup_ne h2]; exact F1 a h1, _, (by rw [hw2]; exact kup_self _ _ _), fun _ => if_pos rfl⟩, Nat.le_refl _⟩
set_option maxRecDepth 100000 in
set_option maxHeartbeats 4000000 in
theorem hL_zone_X1 {w : kM} {a1 a2 : Int32} {d : Nat} {s : Nat → Int32} {q : Nat} {kp bf : Nat → Int32} {T : Nat} {P : kM → Prop} (hd : d ≤ 11) (h0 : w 0 = kO 5 xF) (ho : outW w) (hC : kCtrX mX5_zone d [.ref 0, .int a1, .int a2] w kIOB P) (hP : ∀ w1, P w1 → clP w s q kp bf T w1) : hR mL_zone [.ref 0, .int a1, .int a2, .ref 134] w 1 (outC w 0 s q kp bf T 1) := by
  obtain ⟨f, hf⟩ := ho
  intro n
  refine kCtr.ofH (X := (0, fun _ => 0)) plLw nL_zone (by decide) (Nat.le_of_ble_eq_true rfl) ?_
  refine kw_aload_n (pc := 0) dL_zone_0 rfl ?_
  refine kw_iconst (v := 0) (pc := 1) dL_zone_1 (by decide) ?_
  refine kw_aload_n (pc := 2) dL_zone_2 rfl ?_
  refine kw_iload_n (pc := 3) dL_zone_3 rfl ?_
  refine kw_iload_n (pc := 4) dL_zone_4 rfl ?_
  refine kw_callV (pc := 5) dL_zone_5 lL_35 (hC n) h0 rfl rfl rfl ⟨by omega, by decide, Nat.le_of_ble_eq_true rfl, Nat.le_refl _, Nat.le_refl _⟩ (fun E w1 n1 h => ?_) (fun v w1 n1 h => by cases h.1)
  obtain ⟨h1, h2, h3⟩ := h
  cases h1
  obtain ⟨C1, F1⟩ := hP w1 h2
  refine kwx_catch (len := 2) (pc := 5) (hpc := 13) (nm := kIOB) nL_zone [] ⟨0, 10, 13, 19⟩ [⟨0, 10, 17, 13⟩] rfl (fun z hz => absurd hz List.not_mem_nil) (by decide) (by decide) nLa_19 nCa_19 rfl dL_zone_13 (by decide) rfl ?_
  refine kw_iconst (v := 1) (pc := 15) dL_zone_15 (by decide) ?_
  exact kw_ireturn nL_zone (pc := 16) dL_zone_16 rfl rfl ⟨rfl, ⟨C1, fun a h1 _ => F1 a h1, f, (F1 134 (by decide)).trans hf, fun q => absurd q (by decide)⟩, h3⟩
set_option maxRecDepth 100000 in
set_option maxHeartbeats 4000000 in
theorem hL_zone_X2 {w : kM} {a1 a2 : Int32} {d : Nat} {s : Nat → Int32} {q : Nat} {kp bf : Nat → Int32} {T : Nat} {P : kM → Prop} (hd : d ≤ 11) (h0 : w 0 = kO 5 xF) (ho : outW w) (hC : kCtrX mX5_zone d [.ref 0, .int a1, .int a2] w kIAE P) (hP : ∀ w1, P w1 → clP w s q kp bf T w1) : hR mL_zone [.ref 0, .int a1, .int a2, .ref 134] w 2 (outC w 0 s q kp bf T 2) := by
  obtain ⟨f, hf⟩ := ho
  intro n
  refine kCtr.ofH (X := (0, fun _ => 0)) plLw nL_zone (by decide) (Nat.le_of_ble_eq_true rfl) ?_
  refine kw_aload_n (pc := 0) dL_zone_0 rfl ?_
  refine kw_iconst (v := 0) (pc := 1) dL_zone_1 (by decide) ?_
  refine kw_aload_n (pc := 2) dL_zone_2 rfl ?_
  refine kw_iload_n (pc := 3) dL_zone_3 rfl ?_
  refine kw_iload_n (pc := 4) dL_zone_4 rfl ?_
  refine kw_callV (pc := 5) dL_zone_5 lL_35 (hC n) h0 rfl rfl rfl ⟨by omega, by decide, Nat.le_of_ble_eq_true rfl, Nat.le_refl _, Nat.le_refl _⟩ (fun E w1 n1 h => ?_) (fun v w1 n1 h => by cases h.1)
  obtain ⟨h1, h2, h3⟩ := h
  cases h1
  obtain ⟨C1, F1⟩ := hP w1 h2
  refine kwx_catch (len := 2) (pc := 5) (hpc := 17) (nm := kIAE) nL_zone [⟨0, 10, 13, 19⟩] ⟨0, 10, 17, 13⟩ [] rfl (fun z hz => by rw [List.mem_singleton.mp hz]; exact ⟨by decide, _, nLa_19, nNc_1⟩) (by decide) (by decide) nLa_13 nCa_13 rfl dL_zone_17 (by decide) rfl ?_
  refine kw_iconst (v := 2) (pc := 19) dL_zone_19 (by decide) ?_
  exact kw_ireturn nL_zone (pc := 20) dL_zone_20 rfl rfl ⟨rfl, ⟨C1, fun a h1 _ => F1 a h1, f, (F1 134 (by decide)).trans hf, fun q => absurd q (by decide)⟩, h3⟩
theorem nL_set : mL_set.1.name ≠ "law" := by decide +kernel
set_option maxRecDepth 100000 in
set_option maxHeartbeats 4000000 in
theorem hL_set_T {w : kM} {a1 a2 : Int32} {d : Nat} {s : Nat → Int32} {q : Nat} {kp bf : Nat → Int32} {T : Nat} {v : Int32} (hd : d ≤ 11) (h0 : w 0 = kO 5 xF) (ho : outW w) (hC : kCtrW mX5_set d [.ref 0, .int a1, .int a2] w (some (.int v)) (clP w s q kp bf T)) : hR mL_set [.ref 0, .int a1, .int a2, .ref 134] w 0 (outC w v s q kp bf T 0) := by
  obtain ⟨f, hf⟩ := ho
  intro n
  refine kCtr.ofH (X := (0, fun _ => 0)) plLw nL_set (by decide) (Nat.le_of_ble_eq_true rfl) ?_
  refine kw_aload_n (pc := 0) dL_set_0 rfl ?_
  refine kw_iconst (v := 0) (pc := 1) dL_set_1 (by decide) ?_
  refine kw_aload_n (pc := 2) dL_set_2 rfl ?_
  refine kw_iload_n (pc := 3) dL_set_3 rfl ?_
  refine kw_iload_n (pc := 4) dL_set_4 rfl ?_
  refine kw_callVw1 (pc := 5) dL_set_5 lL_38 hC h0 rfl rfl rfl ⟨by omega, by decide, Nat.le_of_ble_eq_true rfl⟩ (fun w1 hw1 => ?_)
  obtain ⟨C1, F1⟩ := hw1
  refine kw_i2l (pc := 8) dL_set_8 ?_
  refine kw_lastore (pc := 9) dL_set_9 ((F1 134 (by decide)).trans hf) vp01 (kgen (fun w2 hw2 => ?_))
  rw [kuL] at hw2
  refine kw_goto (tgt := 21) (pc := 10) dL_set_10 (by decide) ?_
  refine kw_iconst (v := 0) (pc := 21) dL_set_21 (by decide) ?_
  exact kw_ireturn nL_set (pc := 22) dL_set_22 rfl rfl ⟨rfl, ⟨C1.fr (fun a ha => by rw [hw2]; exact kup_ne (by omega)), fun a h1 h2 => by rw [hw2, kup_ne h2]; exact F1 a h1, _, (by rw [hw2]; exact kup_self _ _ _), fun _ => if_pos rfl⟩, Nat.le_refl _⟩
set_option maxRecDepth 100000 in
set_option maxHeartbeats 4000000 in
theorem hL_set_X1 {w : kM} {a1 a2 : Int32} {d : Nat} {s : Nat → Int32} {q : Nat} {kp bf : Nat → Int32} {T : Nat} {P : kM → Prop} (hd : d ≤ 11) (h0 : w 0 = kO 5 xF) (ho : outW w) (hC : kCtrX mX5_set d [.ref 0, .int a1, .int a2] w kIOB P) (hP : ∀ w1, P w1 → clP w s q kp bf T w1) : hR mL_set [.ref 0, .int a1, .int a2, .ref 134] w 1 (outC w 0 s q kp bf T 1) := by
  obtain ⟨f, hf⟩ := ho
  intro n
  refine kCtr.ofH (X := (0, fun _ => 0)) plLw nL_set (by decide) (Nat.le_of_ble_eq_true rfl) ?_
  refine kw_aload_n (pc := 0) dL_set_0 rfl ?_
  refine kw_iconst (v := 0) (pc := 1) dL_set_1 (by decide) ?_
  refine kw_aload_n (pc := 2) dL_set_2 rfl ?_
  refine kw_iload_n (pc := 3) dL_set_3 rfl ?_
  refine kw_iload_n (pc := 4) dL_set_4 rfl ?_
  refine kw_callV (pc := 5) dL_set_5 lL_38 (hC n) h0 rfl rfl rfl ⟨by omega, by decide, Nat.le_of_ble_eq_true rfl, Nat.le_refl _, Nat.le_refl _⟩ (fun E w1 n1 h => ?_) (fun v w1 n1 h => by cases h.1)
  obtain ⟨h1, h2, h3⟩ := h
  cases h1
  obtain ⟨C1, F1⟩ := hP w1 h2
  refine kwx_catch (len := 2) (pc := 5) (hpc := 13) (nm := kIOB) nL_set [] ⟨0, 10, 13, 19⟩ [⟨0, 10, 17, 13⟩] rfl (fun z hz => absurd hz List.not_mem_nil) (by decide) (by decide) nLa_19 nCa_19 rfl dL_set_13 (by decide) rfl ?_
  refine kw_iconst (v := 1) (pc := 15) dL_set_15 (by decide) ?_
  exact kw_ireturn nL_set (pc := 16) dL_set_16 rfl rfl ⟨rfl, ⟨C1, fun a h1 _ => F1 a h1, f, (F1 134 (by decide)).trans hf, fun q => absurd q (by decide)⟩, h3⟩
set_option maxRecDepth 100000 in
set_option maxHeartbeats 4000000 in
theorem hL_set_X2 {w : kM} {a1 a2 : Int32} {d : Nat} {s : Nat → Int32} {q : Nat} {kp bf : Nat → Int32} {T : Nat} {P : kM → Prop} (hd : d ≤ 11) (h0 : w 0 = kO 5 xF) (ho : outW w) (hC : kCtrX mX5_set d [.ref 0, .int a1, .int a2] w kIAE P) (hP : ∀ w1, P w1 → clP w s q kp bf T w1) : hR mL_set [.ref 0, .int a1, .int a2, .ref 134] w 2 (outC w 0 s q kp bf T 2) := by
  obtain ⟨f, hf⟩ := ho
  intro n
  refine kCtr.ofH (X := (0, fun _ => 0)) plLw nL_set (by decide) (Nat.le_of_ble_eq_true rfl) ?_
  refine kw_aload_n (pc := 0) dL_set_0 rfl ?_
  refine kw_iconst (v := 0) (pc := 1) dL_set_1 (by decide) ?_
  refine kw_aload_n (pc := 2) dL_set_2 rfl ?_
  refine kw_iload_n (pc := 3) dL_set_3 rfl ?_
  refine kw_iload_n (pc := 4) dL_set_4 rfl ?_
  refine kw_callV (pc := 5) dL_set_5 lL_38 (hC n) h0 rfl rfl rfl ⟨by omega, by decide, Nat.le_of_ble_eq_true rfl, Nat.le_refl _, Nat.le_refl _⟩ (fun E w1 n1 h => ?_) (fun v w1 n1 h => by cases h.1)
  obtain ⟨h1, h2, h3⟩ := h
  cases h1
  obtain ⟨C1, F1⟩ := hP w1 h2
  refine kwx_catch (len := 2) (pc := 5) (hpc := 17) (nm := kIAE) nL_set [⟨0, 10, 13, 19⟩] ⟨0, 10, 17, 13⟩ [] rfl (fun z hz => by rw [List.mem_singleton.mp hz]; exact ⟨by decide, _, nLa_19, nNc_1⟩) (by decide) (by decide) nLa_13 nCa_13 rfl dL_set_17 (by decide) rfl ?_
  refine kw_iconst (v := 2) (pc := 19) dL_set_19 (by decide) ?_
  exact kw_ireturn nL_set (pc := 20) dL_set_20 rfl rfl ⟨rfl, ⟨C1, fun a h1 _ => F1 a h1, f, (F1 134 (by decide)).trans hf, fun q => absurd q (by decide)⟩, h3⟩
theorem nL_append : mL_append.1.name ≠ "law" := by decide +kernel
set_option maxRecDepth 100000 in
set_option maxHeartbeats 4000000 in
theorem hL_append_T {w : kM} {a1 : Int32} {d : Nat} {s : Nat → Int32} {q : Nat} {kp bf : Nat → Int32} {T : Nat} {v : Int32} (hd : d ≤ 11) (h0 : w 0 = kO 5 xF) (ho : outW w) (hC : kCtrW mX5_append d [.ref 0, .int a1] w (some (.int v)) (clP w s q kp bf T)) : hR mL_append [.ref 0, .int a1, .ref 134] w 0 (outC w v s q kp bf T 0) := by
  obtain ⟨f, hf⟩ := ho
  intro n
  refine kCtr.ofH (X := (0, fun _ => 0)) plLw nL_append (by decide) (Nat.le_of_ble_eq_true rfl) ?_
  refine kw_aload_n (pc := 0) dL_append_0 rfl ?_
  refine kw_iconst (v := 0) (pc := 1) dL_append_1 (by decide) ?_
  refine kw_aload_n (pc := 2) dL_append_2 rfl ?_
  refine kw_iload_n (pc := 3) dL_append_3 rfl ?_
  refine kw_callVw1 (pc := 4) dL_append_4 lL_41 hC h0 rfl rfl rfl ⟨by omega, by decide, Nat.le_of_ble_eq_true rfl⟩ (fun w1 hw1 => ?_)
  obtain ⟨C1, F1⟩ := hw1
  refine kw_i2l (pc := 7) dL_append_7 ?_
  refine kw_lastore (pc := 8) dL_append_8 ((F1 134 (by decide)).trans hf) vp01 (kgen (fun w2 hw2 => ?_))
  rw [kuL] at hw2
  refine kw_goto (tgt := 18) (pc := 9) dL_append_9 (by decide) ?_
  refine kw_iconst (v := 0) (pc := 18) dL_append_18 (by decide) ?_
  exact kw_ireturn nL_append (pc := 19) dL_append_19 rfl rfl ⟨rfl, ⟨C1.fr (fun a ha => by rw [hw2]; exact kup_ne (by omega)), fun a h1 h2 => by rw [hw2, kup_ne h2]; exact F1 a h1, _, (by rw [hw2]; exact kup_self _ _ _), fun _ => if_pos rfl⟩, Nat.le_refl _⟩
set_option maxRecDepth 100000 in
set_option maxHeartbeats 4000000 in
theorem hL_append_X1 {w : kM} {a1 : Int32} {d : Nat} {s : Nat → Int32} {q : Nat} {kp bf : Nat → Int32} {T : Nat} {P : kM → Prop} (hd : d ≤ 11) (h0 : w 0 = kO 5 xF) (ho : outW w) (hC : kCtrX mX5_append d [.ref 0, .int a1] w kIAE P) (hP : ∀ w1, P w1 → clP w s q kp bf T w1) : hR mL_append [.ref 0, .int a1, .ref 134] w 1 (outC w 0 s q kp bf T 1) := by
  obtain ⟨f, hf⟩ := ho
  intro n
  refine kCtr.ofH (X := (0, fun _ => 0)) plLw nL_append (by decide) (Nat.le_of_ble_eq_true rfl) ?_
  refine kw_aload_n (pc := 0) dL_append_0 rfl ?_
  refine kw_iconst (v := 0) (pc := 1) dL_append_1 (by decide) ?_
  refine kw_aload_n (pc := 2) dL_append_2 rfl ?_
  refine kw_iload_n (pc := 3) dL_append_3 rfl ?_
  refine kw_callV (pc := 4) dL_append_4 lL_41 (hC n) h0 rfl rfl rfl ⟨by omega, by decide, Nat.le_of_ble_eq_true rfl, Nat.le_refl _, Nat.le_refl _⟩ (fun E w1 n1 h => ?_) (fun v w1 n1 h => by cases h.1)
  obtain ⟨h1, h2, h3⟩ := h
  cases h1
  obtain ⟨C1, F1⟩ := hP w1 h2
  refine kwx_catch_n (pc := 4) (hpc := 12) (nm := kIAE) nL_append [] ⟨0, 9, 12, 13⟩ [⟨0, 9, 15, 44⟩] rfl (fun z hz => absurd hz List.not_mem_nil) (by decide) (by decide) nLa_13 nCa_13 rfl dL_append_12 (by decide) rfl ?_
  refine kw_iconst (v := 1) (pc := 13) dL_append_13 (by decide) ?_
  exact kw_ireturn nL_append (pc := 14) dL_append_14 rfl rfl ⟨rfl, ⟨C1, fun a h1 _ => F1 a h1, f, (F1 134 (by decide)).trans hf, fun q => absurd q (by decide)⟩, h3⟩
set_option maxRecDepth 100000 in
set_option maxHeartbeats 4000000 in
theorem hL_append_X2 {w : kM} {a1 : Int32} {d : Nat} {s : Nat → Int32} {q : Nat} {kp bf : Nat → Int32} {T : Nat} {P : kM → Prop} (hd : d ≤ 11) (h0 : w 0 = kO 5 xF) (ho : outW w) (hC : kCtrX mX5_append d [.ref 0, .int a1] w kISE P) (hP : ∀ w1, P w1 → clP w s q kp bf T w1) : hR mL_append [.ref 0, .int a1, .ref 134] w 2 (outC w 0 s q kp bf T 2) := by
  obtain ⟨f, hf⟩ := ho
  intro n
  refine kCtr.ofH (X := (0, fun _ => 0)) plLw nL_append (by decide) (Nat.le_of_ble_eq_true rfl) ?_
  refine kw_aload_n (pc := 0) dL_append_0 rfl ?_
  refine kw_iconst (v := 0) (pc := 1) dL_append_1 (by decide) ?_
  refine kw_aload_n (pc := 2) dL_append_2 rfl ?_
  refine kw_iload_n (pc := 3) dL_append_3 rfl ?_
  refine kw_callV (pc := 4) dL_append_4 lL_41 (hC n) h0 rfl rfl rfl ⟨by omega, by decide, Nat.le_of_ble_eq_true rfl, Nat.le_refl _, Nat.le_refl _⟩ (fun E w1 n1 h => ?_) (fun v w1 n1 h => by cases h.1)
  obtain ⟨h1, h2, h3⟩ := h
  cases h1
  obtain ⟨C1, F1⟩ := hP w1 h2
  refine kwx_catch_n (pc := 4) (hpc := 15) (nm := kISE) nL_append [⟨0, 9, 12, 13⟩] ⟨0, 9, 15, 44⟩ [] rfl (fun z hz => by rw [List.mem_singleton.mp hz]; exact ⟨by decide, _, nLa_13, nNc_2⟩) (by decide) (by decide) nLa_44 nCa_44 rfl dL_append_15 (by decide) rfl ?_
  refine kw_iconst (v := 2) (pc := 16) dL_append_16 (by decide) ?_
  exact kw_ireturn nL_append (pc := 17) dL_append_17 rfl rfl ⟨rfl, ⟨C1, fun a h1 _ => F1 a h1, f, (F1 134 (by decide)).trans hf, fun q => absurd q (by decide)⟩, h3⟩
theorem nL_run : mL_run.1.name ≠ "law" := by decide +kernel
set_option maxRecDepth 100000 in
set_option maxHeartbeats 4000000 in
theorem hL_run_T {w : kM} {d : Nat} {s : Nat → Int32} {q : Nat} {kp bf : Nat → Int32} {T : Nat} {v : Int32} (hd : d ≤ 11) (h0 : w 0 = kO 5 xF) (ho : outW w) (hC : kCtrW mX5_run d [.ref 0] w (some (.int v)) (clP w s q kp bf T)) : hR mL_run [.ref 0, .ref 134] w 0 (outC w v s q kp bf T 0) := by
  obtain ⟨f, hf⟩ := ho
  intro n
  refine kCtr.ofH (X := (0, fun _ => 0)) plLw nL_run (by decide) (Nat.le_of_ble_eq_true rfl) ?_
  refine kw_aload_n (pc := 0) dL_run_0 rfl ?_
  refine kw_iconst (v := 0) (pc := 1) dL_run_1 (by decide) ?_
  refine kw_aload_n (pc := 2) dL_run_2 rfl ?_
  refine kw_callVw1 (pc := 3) dL_run_3 lL_46 hC h0 rfl rfl rfl ⟨by omega, by decide, Nat.le_of_ble_eq_true rfl⟩ (fun w1 hw1 => ?_)
  obtain ⟨C1, F1⟩ := hw1
  refine kw_i2l (pc := 6) dL_run_6 ?_
  refine kw_lastore (pc := 7) dL_run_7 ((F1 134 (by decide)).trans hf) vp01 (kgen (fun w2 hw2 => ?_))
  rw [kuL] at hw2
  refine kw_goto (tgt := 14) (pc := 8) dL_run_8 (by decide) ?_
  refine kw_iconst (v := 0) (pc := 14) dL_run_14 (by decide) ?_
  exact kw_ireturn nL_run (pc := 15) dL_run_15 rfl rfl ⟨rfl, ⟨C1.fr (fun a ha => by rw [hw2]; exact kup_ne (by omega)), fun a h1 h2 => by rw [hw2, kup_ne h2]; exact F1 a h1, _, (by rw [hw2]; exact kup_self _ _ _), fun _ => if_pos rfl⟩, Nat.le_refl _⟩
set_option maxRecDepth 100000 in
set_option maxHeartbeats 4000000 in
theorem hL_run_X1 {w : kM} {d : Nat} {s : Nat → Int32} {q : Nat} {kp bf : Nat → Int32} {T : Nat} {P : kM → Prop} (hd : d ≤ 11) (h0 : w 0 = kO 5 xF) (ho : outW w) (hC : kCtrX mX5_run d [.ref 0] w kIAE P) (hP : ∀ w1, P w1 → clP w s q kp bf T w1) : hR mL_run [.ref 0, .ref 134] w 1 (outC w 0 s q kp bf T 1) := by
  obtain ⟨f, hf⟩ := ho
  intro n
  refine kCtr.ofH (X := (0, fun _ => 0)) plLw nL_run (by decide) (Nat.le_of_ble_eq_true rfl) ?_
  refine kw_aload_n (pc := 0) dL_run_0 rfl ?_
  refine kw_iconst (v := 0) (pc := 1) dL_run_1 (by decide) ?_
  refine kw_aload_n (pc := 2) dL_run_2 rfl ?_
  refine kw_callV (pc := 3) dL_run_3 lL_46 (hC n) h0 rfl rfl rfl ⟨by omega, by decide, Nat.le_of_ble_eq_true rfl, Nat.le_refl _, Nat.le_refl _⟩ (fun E w1 n1 h => ?_) (fun v w1 n1 h => by cases h.1)
  obtain ⟨h1, h2, h3⟩ := h
  cases h1
  obtain ⟨C1, F1⟩ := hP w1 h2
  refine kwx_catch_n (pc := 3) (hpc := 11) (nm := kIAE) nL_run [] ⟨0, 8, 11, 13⟩ [] rfl (fun z hz => absurd hz List.not_mem_nil) (by decide) (by decide) nLa_13 nCa_13 rfl dL_run_11 (by decide) rfl ?_
  refine kw_iconst (v := 1) (pc := 12) dL_run_12 (by decide) ?_
  exact kw_ireturn nL_run (pc := 13) dL_run_13 rfl rfl ⟨rfl, ⟨C1, fun a h1 _ => F1 a h1, f, (F1 134 (by decide)).trans hf, fun q => absurd q (by decide)⟩, h3⟩
theorem nL_keep : mL_keep.1.name ≠ "law" := by decide +kernel
set_option maxRecDepth 100000 in
set_option maxHeartbeats 4000000 in
theorem hL_keep_T {w : kM} {a1 : Int32} {d : Nat} {s : Nat → Int32} {q : Nat} {kp bf : Nat → Int32} {T : Nat} {v : Int32} (hd : d ≤ 11) (h0 : w 0 = kO 5 xF) (ho : outW w) (hC : kCtrW mX5_keep d [.ref 0, .int a1] w (some (.int v)) (clP w s q kp bf T)) : hR mL_keep [.ref 0, .int a1, .ref 134] w 0 (outC w v s q kp bf T 0) := by
  obtain ⟨f, hf⟩ := ho
  intro n
  refine kCtr.ofH (X := (0, fun _ => 0)) plLw nL_keep (by decide) (Nat.le_of_ble_eq_true rfl) ?_
  refine kw_aload_n (pc := 0) dL_keep_0 rfl ?_
  refine kw_iconst (v := 0) (pc := 1) dL_keep_1 (by decide) ?_
  refine kw_aload_n (pc := 2) dL_keep_2 rfl ?_
  refine kw_iload_n (pc := 3) dL_keep_3 rfl ?_
  refine kw_callVw1 (pc := 4) dL_keep_4 lL_50 hC h0 rfl rfl rfl ⟨by omega, by decide, Nat.le_of_ble_eq_true rfl⟩ (fun w1 hw1 => ?_)
  obtain ⟨C1, F1⟩ := hw1
  refine kw_i2l (pc := 7) dL_keep_7 ?_
  refine kw_lastore (pc := 8) dL_keep_8 ((F1 134 (by decide)).trans hf) vp01 (kgen (fun w2 hw2 => ?_))
  rw [kuL] at hw2
  refine kw_goto (tgt := 15) (pc := 9) dL_keep_9 (by decide) ?_
  refine kw_iconst (v := 0) (pc := 15) dL_keep_15 (by decide) ?_
  exact kw_ireturn nL_keep (pc := 16) dL_keep_16 rfl rfl ⟨rfl, ⟨C1.fr (fun a ha => by rw [hw2]; exact kup_ne (by omega)), fun a h1 h2 => by rw [hw2, kup_ne h2]; exact F1 a h1, _, (by rw [hw2]; exact kup_self _ _ _), fun _ => if_pos rfl⟩, Nat.le_refl _⟩
set_option maxRecDepth 100000 in
set_option maxHeartbeats 4000000 in
theorem hL_keep_X1 {w : kM} {a1 : Int32} {d : Nat} {s : Nat → Int32} {q : Nat} {kp bf : Nat → Int32} {T : Nat} {P : kM → Prop} (hd : d ≤ 11) (h0 : w 0 = kO 5 xF) (ho : outW w) (hC : kCtrX mX5_keep d [.ref 0, .int a1] w kIAE P) (hP : ∀ w1, P w1 → clP w s q kp bf T w1) : hR mL_keep [.ref 0, .int a1, .ref 134] w 1 (outC w 0 s q kp bf T 1) := by
  obtain ⟨f, hf⟩ := ho
  intro n
  refine kCtr.ofH (X := (0, fun _ => 0)) plLw nL_keep (by decide) (Nat.le_of_ble_eq_true rfl) ?_
  refine kw_aload_n (pc := 0) dL_keep_0 rfl ?_
  refine kw_iconst (v := 0) (pc := 1) dL_keep_1 (by decide) ?_
  refine kw_aload_n (pc := 2) dL_keep_2 rfl ?_
  refine kw_iload_n (pc := 3) dL_keep_3 rfl ?_
  refine kw_callV (pc := 4) dL_keep_4 lL_50 (hC n) h0 rfl rfl rfl ⟨by omega, by decide, Nat.le_of_ble_eq_true rfl, Nat.le_refl _, Nat.le_refl _⟩ (fun E w1 n1 h => ?_) (fun v w1 n1 h => by cases h.1)
  obtain ⟨h1, h2, h3⟩ := h
  cases h1
  obtain ⟨C1, F1⟩ := hP w1 h2
  refine kwx_catch_n (pc := 4) (hpc := 12) (nm := kIAE) nL_keep [] ⟨0, 9, 12, 13⟩ [] rfl (fun z hz => absurd hz List.not_mem_nil) (by decide) (by decide) nLa_13 nCa_13 rfl dL_keep_12 (by decide) rfl ?_
  refine kw_iconst (v := 1) (pc := 13) dL_keep_13 (by decide) ?_
  exact kw_ireturn nL_keep (pc := 14) dL_keep_14 rfl rfl ⟨rfl, ⟨C1, fun a h1 _ => F1 a h1, f, (F1 134 (by decide)).trans hf, fun q => absurd q (by decide)⟩, h3⟩
theorem nL_goBack : mL_goBack.1.name ≠ "law" := by decide +kernel
set_option maxRecDepth 100000 in
set_option maxHeartbeats 4000000 in
theorem hL_goBack_T {w : kM} {a1 : Int32} {d : Nat} {s : Nat → Int32} {q : Nat} {kp bf : Nat → Int32} {T : Nat} {v : Int32} (hd : d ≤ 11) (h0 : w 0 = kO 5 xF) (ho : outW w) (hC : kCtrW mX5_goBack d [.ref 0, .int a1] w (some (.int v)) (clP w s q kp bf T)) : hR mL_goBack [.ref 0, .int a1, .ref 134] w 0 (outC w v s q kp bf T 0) := by
  obtain ⟨f, hf⟩ := ho
  intro n
  refine kCtr.ofH (X := (0, fun _ => 0)) plLw nL_goBack (by decide) (Nat.le_of_ble_eq_true rfl) ?_
  refine kw_aload_n (pc := 0) dL_goBack_0 rfl ?_
  refine kw_iconst (v := 0) (pc := 1) dL_goBack_1 (by decide) ?_
  refine kw_aload_n (pc := 2) dL_goBack_2 rfl ?_
  refine kw_iload_n (pc := 3) dL_goBack_3 rfl ?_
  refine kw_callVw1 (pc := 4) dL_goBack_4 lL_53 hC h0 rfl rfl rfl ⟨by omega, by decide, Nat.le_of_ble_eq_true rfl⟩ (fun w1 hw1 => ?_)
  obtain ⟨C1, F1⟩ := hw1
  refine kw_i2l (pc := 7) dL_goBack_7 ?_
  refine kw_lastore (pc := 8) dL_goBack_8 ((F1 134 (by decide)).trans hf) vp01 (kgen (fun w2 hw2 => ?_))
  rw [kuL] at hw2
  refine kw_goto (tgt := 18) (pc := 9) dL_goBack_9 (by decide) ?_
  refine kw_iconst (v := 0) (pc := 18) dL_goBack_18 (by decide) ?_
  exact kw_ireturn nL_goBack (pc := 19) dL_goBack_19 rfl rfl ⟨rfl, ⟨C1.fr (fun a ha => by rw [hw2]; exact kup_ne (by omega)), fun a h1 h2 => by rw [hw2, kup_ne h2]; exact F1 a h1, _, (by rw [hw2]; exact kup_self _ _ _), fun _ => if_pos rfl⟩, Nat.le_refl _⟩
set_option maxRecDepth 100000 in
set_option maxHeartbeats 4000000 in
theorem hL_goBack_X1 {w : kM} {a1 : Int32} {d : Nat} {s : Nat → Int32} {q : Nat} {kp bf : Nat → Int32} {T : Nat} {P : kM → Prop} (hd : d ≤ 11) (h0 : w 0 = kO 5 xF) (ho : outW w) (hC : kCtrX mX5_goBack d [.ref 0, .int a1] w kIAE P) (hP : ∀ w1, P w1 → clP w s q kp bf T w1) : hR mL_goBack [.ref 0, .int a1, .ref 134] w 1 (outC w 0 s q kp bf T 1) := by
  obtain ⟨f, hf⟩ := ho
  intro n
  refine kCtr.ofH (X := (0, fun _ => 0)) plLw nL_goBack (by decide) (Nat.le_of_ble_eq_true rfl) ?_
  refine kw_aload_n (pc := 0) dL_goBack_0 rfl ?_
  refine kw_iconst (v := 0) (pc := 1) dL_goBack_1 (by decide) ?_
  refine kw_aload_n (pc := 2) dL_goBack_2 rfl ?_
  refine kw_iload_n (pc := 3) dL_goBack_3 rfl ?_
  refine kw_callV (pc := 4) dL_goBack_4 lL_53 (hC n) h0 rfl rfl rfl ⟨by omega, by decide, Nat.le_of_ble_eq_true rfl, Nat.le_refl _, Nat.le_refl _⟩ (fun E w1 n1 h => ?_) (fun v w1 n1 h => by cases h.1)
  obtain ⟨h1, h2, h3⟩ := h
  cases h1
  obtain ⟨C1, F1⟩ := hP w1 h2
  refine kwx_catch_n (pc := 4) (hpc := 12) (nm := kIAE) nL_goBack [] ⟨0, 9, 12, 13⟩ [⟨0, 9, 15, 44⟩] rfl (fun z hz => absurd hz List.not_mem_nil) (by decide) (by decide) nLa_13 nCa_13 rfl dL_goBack_12 (by decide) rfl ?_
  refine kw_iconst (v := 1) (pc := 13) dL_goBack_13 (by decide) ?_
  exact kw_ireturn nL_goBack (pc := 14) dL_goBack_14 rfl rfl ⟨rfl, ⟨C1, fun a h1 _ => F1 a h1, f, (F1 134 (by decide)).trans hf, fun q => absurd q (by decide)⟩, h3⟩
set_option maxRecDepth 100000 in
set_option maxHeartbeats 4000000 in
theorem hL_goBack_X2 {w : kM} {a1 : Int32} {d : Nat} {s : Nat → Int32} {q : Nat} {kp bf : Nat → Int32} {T : Nat} {P : kM → Prop} (hd : d ≤ 11) (h0 : w 0 = kO 5 xF) (ho : outW w) (hC : kCtrX mX5_goBack d [.ref 0, .int a1] w kISE P) (hP : ∀ w1, P w1 → clP w s q kp bf T w1) : hR mL_goBack [.ref 0, .int a1, .ref 134] w 2 (outC w 0 s q kp bf T 2) := by
  obtain ⟨f, hf⟩ := ho
  intro n
  refine kCtr.ofH (X := (0, fun _ => 0)) plLw nL_goBack (by decide) (Nat.le_of_ble_eq_true rfl) ?_
  refine kw_aload_n (pc := 0) dL_goBack_0 rfl ?_
  refine kw_iconst (v := 0) (pc := 1) dL_goBack_1 (by decide) ?_
  refine kw_aload_n (pc := 2) dL_goBack_2 rfl ?_
  refine kw_iload_n (pc := 3) dL_goBack_3 rfl ?_
  refine kw_callV (pc := 4) dL_goBack_4 lL_53 (hC n) h0 rfl rfl rfl ⟨by omega, by decide, Nat.le_of_ble_eq_true rfl, Nat.le_refl _, Nat.le_refl _⟩ (fun E w1 n1 h => ?_) (fun v w1 n1 h => by cases h.1)
  obtain ⟨h1, h2, h3⟩ := h
  cases h1
  obtain ⟨C1, F1⟩ := hP w1 h2
  refine kwx_catch_n (pc := 4) (hpc := 15) (nm := kISE) nL_goBack [⟨0, 9, 12, 13⟩] ⟨0, 9, 15, 44⟩ [] rfl (fun z hz => by rw [List.mem_singleton.mp hz]; exact ⟨by decide, _, nLa_13, nNc_2⟩) (by decide) (by decide) nLa_44 nCa_44 rfl dL_goBack_15 (by decide) rfl ?_
  refine kw_iconst (v := 2) (pc := 16) dL_goBack_16 (by decide) ?_
  exact kw_ireturn nL_goBack (pc := 17) dL_goBack_17 rfl rfl ⟨rfl, ⟨C1, fun a h1 _ => F1 a h1, f, (F1 134 (by decide)).trans hf, fun q => absurd q (by decide)⟩, h3⟩
theorem nL_undo : mL_undo.1.name ≠ "law" := by decide +kernel
set_option maxRecDepth 100000 in
set_option maxHeartbeats 4000000 in
theorem hL_undo_T {w : kM} {d : Nat} {s : Nat → Int32} {q : Nat} {kp bf : Nat → Int32} {T : Nat} {v : Int32} (hd : d ≤ 11) (h0 : w 0 = kO 5 xF) (ho : outW w) (hC : kCtrW mX5_undo d [.ref 0] w (some (.int v)) (clP w s q kp bf T)) : hR mL_undo [.ref 0, .ref 134] w 0 (outC w v s q kp bf T 0) := by
  obtain ⟨f, hf⟩ := ho
  intro n
  refine kCtr.ofH (X := (0, fun _ => 0)) plLw nL_undo (by decide) (Nat.le_of_ble_eq_true rfl) ?_
  refine kw_aload_n (pc := 0) dL_undo_0 rfl ?_
  refine kw_iconst (v := 0) (pc := 1) dL_undo_1 (by decide) ?_
  refine kw_aload_n (pc := 2) dL_undo_2 rfl ?_
  refine kw_callVw1 (pc := 3) dL_undo_3 lL_56 hC h0 rfl rfl rfl ⟨by omega, by decide, Nat.le_of_ble_eq_true rfl⟩ (fun w1 hw1 => ?_)
  obtain ⟨C1, F1⟩ := hw1
  refine kw_i2l (pc := 6) dL_undo_6 ?_
  refine kw_lastore (pc := 7) dL_undo_7 ((F1 134 (by decide)).trans hf) vp01 (kgen (fun w2 hw2 => ?_))
  rw [kuL] at hw2
  refine kw_goto (tgt := 14) (pc := 8) dL_undo_8 (by decide) ?_
  refine kw_iconst (v := 0) (pc := 14) dL_undo_14 (by decide) ?_
  exact kw_ireturn nL_undo (pc := 15) dL_undo_15 rfl rfl ⟨rfl, ⟨C1.fr (fun a ha => by rw [hw2]; exact kup_ne (by omega)), fun a h1 h2 => by rw [hw2, kup_ne h2]; exact F1 a h1, _, (by rw [hw2]; exact kup_self _ _ _), fun _ => if_pos rfl⟩, Nat.le_refl _⟩
set_option maxRecDepth 100000 in
set_option maxHeartbeats 4000000 in
theorem hL_undo_X1 {w : kM} {d : Nat} {s : Nat → Int32} {q : Nat} {kp bf : Nat → Int32} {T : Nat} {P : kM → Prop} (hd : d ≤ 11) (h0 : w 0 = kO 5 xF) (ho : outW w) (hC : kCtrX mX5_undo d [.ref 0] w kISE P) (hP : ∀ w1, P w1 → clP w s q kp bf T w1) : hR mL_undo [.ref 0, .ref 134] w 1 (outC w 0 s q kp bf T 1) := by
  obtain ⟨f, hf⟩ := ho
  intro n
  refine kCtr.ofH (X := (0, fun _ => 0)) plLw nL_undo (by decide) (Nat.le_of_ble_eq_true rfl) ?_
  refine kw_aload_n (pc := 0) dL_undo_0 rfl ?_
  refine kw_iconst (v := 0) (pc := 1) dL_undo_1 (by decide) ?_
  refine kw_aload_n (pc := 2) dL_undo_2 rfl ?_
  refine kw_callV (pc := 3) dL_undo_3 lL_56 (hC n) h0 rfl rfl rfl ⟨by omega, by decide, Nat.le_of_ble_eq_true rfl, Nat.le_refl _, Nat.le_refl _⟩ (fun E w1 n1 h => ?_) (fun v w1 n1 h => by cases h.1)
  obtain ⟨h1, h2, h3⟩ := h
  cases h1
  obtain ⟨C1, F1⟩ := hP w1 h2
  refine kwx_catch_n (pc := 3) (hpc := 11) (nm := kISE) nL_undo [] ⟨0, 8, 11, 44⟩ [] rfl (fun z hz => absurd hz List.not_mem_nil) (by decide) (by decide) nLa_44 nCa_44 rfl dL_undo_11 (by decide) rfl ?_
  refine kw_iconst (v := 1) (pc := 12) dL_undo_12 (by decide) ?_
  exact kw_ireturn nL_undo (pc := 13) dL_undo_13 rfl rfl ⟨rfl, ⟨C1, fun a h1 _ => F1 a h1, f, (F1 134 (by decide)).trans hf, fun q => absurd q (by decide)⟩, h3⟩
theorem nL_parcelOf : mL_parcelOf.1.name ≠ "law" := by decide +kernel
set_option maxRecDepth 100000 in
set_option maxHeartbeats 4000000 in
theorem hL_parcelOf_T {w : kM} {a1 a2 : Int32} {d : Nat} {s : Nat → Int32} {q : Nat} {kp bf : Nat → Int32} {T : Nat} {v : Int32} (hd : d ≤ 11) (h0 : w 0 = kO 5 xF) (ho : outW w) (hC : kCtrW mX5_parcelOf d [.ref 0, .int a1, .int a2] w (some (.int v)) (clP w s q kp bf T)) : hR mL_parcelOf [.ref 0, .int a1, .int a2, .ref 134] w 0 (outC w v s q kp bf T 0) := by
  obtain ⟨f, hf⟩ := ho
  intro n
  refine kCtr.ofH (X := (0, fun _ => 0)) plLw nL_parcelOf (by decide) (Nat.le_of_ble_eq_true rfl) ?_
  refine kw_aload_n (pc := 0) dL_parcelOf_0 rfl ?_
  refine kw_iconst (v := 0) (pc := 1) dL_parcelOf_1 (by decide) ?_
  refine kw_aload_n (pc := 2) dL_parcelOf_2 rfl ?_
  refine kw_iload_n (pc := 3) dL_parcelOf_3 rfl ?_
  refine kw_iload_n (pc := 4) dL_parcelOf_4 rfl ?_
  refine kw_callVw1 (pc := 5) dL_parcelOf_5 lL_59 hC h0 rfl rfl rfl ⟨by omega, by decide, Nat.le_of_ble_eq_true rfl⟩ (fun w1 hw1 => ?_)
  obtain ⟨C1, F1⟩ := hw1
  refine kw_i2l (pc := 8) dL_parcelOf_8 ?_
  refine kw_lastore (pc := 9) dL_parcelOf_9 ((F1 134 (by decide)).trans hf) vp01 (kgen (fun w2 hw2 => ?_))
  rw [kuL] at hw2
  refine kw_goto (tgt := 21) (pc := 10) dL_parcelOf_10 (by decide) ?_
  refine kw_iconst (v := 0) (pc := 21) dL_parcelOf_21 (by decide) ?_
  exact kw_ireturn nL_parcelOf (pc := 22) dL_parcelOf_22 rfl rfl ⟨rfl, ⟨C1.fr (fun a ha => by rw [hw2]; exact kup_ne (by omega)), fun a h1 h2 => by rw [hw2, kup_ne h2]; exact F1 a h1, _, (by rw [hw2]; exact kup_self _ _ _), fun _ => if_pos rfl⟩, Nat.le_refl _⟩
set_option maxRecDepth 100000 in
set_option maxHeartbeats 4000000 in
theorem hL_parcelOf_X1 {w : kM} {a1 a2 : Int32} {d : Nat} {s : Nat → Int32} {q : Nat} {kp bf : Nat → Int32} {T : Nat} {P : kM → Prop} (hd : d ≤ 11) (h0 : w 0 = kO 5 xF) (ho : outW w) (hC : kCtrX mX5_parcelOf d [.ref 0, .int a1, .int a2] w kIOB P) (hP : ∀ w1, P w1 → clP w s q kp bf T w1) : hR mL_parcelOf [.ref 0, .int a1, .int a2, .ref 134] w 1 (outC w 0 s q kp bf T 1) := by
  obtain ⟨f, hf⟩ := ho
  intro n
  refine kCtr.ofH (X := (0, fun _ => 0)) plLw nL_parcelOf (by decide) (Nat.le_of_ble_eq_true rfl) ?_
  refine kw_aload_n (pc := 0) dL_parcelOf_0 rfl ?_
  refine kw_iconst (v := 0) (pc := 1) dL_parcelOf_1 (by decide) ?_
  refine kw_aload_n (pc := 2) dL_parcelOf_2 rfl ?_
  refine kw_iload_n (pc := 3) dL_parcelOf_3 rfl ?_
  refine kw_iload_n (pc := 4) dL_parcelOf_4 rfl ?_
  refine kw_callV (pc := 5) dL_parcelOf_5 lL_59 (hC n) h0 rfl rfl rfl ⟨by omega, by decide, Nat.le_of_ble_eq_true rfl, Nat.le_refl _, Nat.le_refl _⟩ (fun E w1 n1 h => ?_) (fun v w1 n1 h => by cases h.1)
  obtain ⟨h1, h2, h3⟩ := h
  cases h1
  obtain ⟨C1, F1⟩ := hP w1 h2
  refine kwx_catch (len := 2) (pc := 5) (hpc := 13) (nm := kIOB) nL_parcelOf [] ⟨0, 10, 13, 19⟩ [⟨0, 10, 17, 13⟩] rfl (fun z hz => absurd hz List.not_mem_nil) (by decide) (by decide) nLa_19 nCa_19 rfl dL_parcelOf_13 (by decide) rfl ?_
  refine kw_iconst (v := 1) (pc := 15) dL_parcelOf_15 (by decide) ?_
  exact kw_ireturn nL_parcelOf (pc := 16) dL_parcelOf_16 rfl rfl ⟨rfl, ⟨C1, fun a h1 _ => F1 a h1, f, (F1 134 (by decide)).trans hf, fun q => absurd q (by decide)⟩, h3⟩
set_option maxRecDepth 100000 in
set_option maxHeartbeats 4000000 in
theorem hL_parcelOf_X2 {w : kM} {a1 a2 : Int32} {d : Nat} {s : Nat → Int32} {q : Nat} {kp bf : Nat → Int32} {T : Nat} {P : kM → Prop} (hd : d ≤ 11) (h0 : w 0 = kO 5 xF) (ho : outW w) (hC : kCtrX mX5_parcelOf d [.ref 0, .int a1, .int a2] w kIAE P) (hP : ∀ w1, P w1 → clP w s q kp bf T w1) : hR mL_parcelOf [.ref 0, .int a1, .int a2, .ref 134] w 2 (outC w 0 s q kp bf T 2) := by
  obtain ⟨f, hf⟩ := ho
  intro n
  refine kCtr.ofH (X := (0, fun _ => 0)) plLw nL_parcelOf (by decide) (Nat.le_of_ble_eq_true rfl) ?_
  refine kw_aload_n (pc := 0) dL_parcelOf_0 rfl ?_
  refine kw_iconst (v := 0) (pc := 1) dL_parcelOf_1 (by decide) ?_
  refine kw_aload_n (pc := 2) dL_parcelOf_2 rfl ?_
  refine kw_iload_n (pc := 3) dL_parcelOf_3 rfl ?_
  refine kw_iload_n (pc := 4) dL_parcelOf_4 rfl ?_
  refine kw_callV (pc := 5) dL_parcelOf_5 lL_59 (hC n) h0 rfl rfl rfl ⟨by omega, by decide, Nat.le_of_ble_eq_true rfl, Nat.le_refl _, Nat.le_refl _⟩ (fun E w1 n1 h => ?_) (fun v w1 n1 h => by cases h.1)
  obtain ⟨h1, h2, h3⟩ := h
  cases h1
  obtain ⟨C1, F1⟩ := hP w1 h2
  refine kwx_catch (len := 2) (pc := 5) (hpc := 17) (nm := kIAE) nL_parcelOf [⟨0, 10, 13, 19⟩] ⟨0, 10, 17, 13⟩ [] rfl (fun z hz => by rw [List.mem_singleton.mp hz]; exact ⟨by decide, _, nLa_19, nNc_1⟩) (by decide) (by decide) nLa_13 nCa_13 rfl dL_parcelOf_17 (by decide) rfl ?_
  refine kw_iconst (v := 2) (pc := 19) dL_parcelOf_19 (by decide) ?_
  exact kw_ireturn nL_parcelOf (pc := 20) dL_parcelOf_20 rfl rfl ⟨rfl, ⟨C1, fun a h1 _ => F1 a h1, f, (F1 134 (by decide)).trans hf, fun q => absurd q (by decide)⟩, h3⟩
theorem nL_rate : mL_rate.1.name ≠ "law" := by decide +kernel
set_option maxRecDepth 100000 in
set_option maxHeartbeats 4000000 in
theorem hL_rate_T {w : kM} {a1 a2 : Int32} {d : Nat} {s : Nat → Int32} {q : Nat} {kp bf : Nat → Int32} {T : Nat} {v : Int32} (hd : d ≤ 11) (h0 : w 0 = kO 5 xF) (ho : outW w) (hC : kCtrW mX5_rate d [.ref 0, .int a1, .int a2] w (some (.int v)) (clP w s q kp bf T)) : hR mL_rate [.ref 0, .int a1, .int a2, .ref 134] w 0 (outC w v s q kp bf T 0) := by
  obtain ⟨f, hf⟩ := ho
  intro n
  refine kCtr.ofH (X := (0, fun _ => 0)) plLw nL_rate (by decide) (Nat.le_of_ble_eq_true rfl) ?_
  refine kw_aload_n (pc := 0) dL_rate_0 rfl ?_
  refine kw_iconst (v := 0) (pc := 1) dL_rate_1 (by decide) ?_
  refine kw_aload_n (pc := 2) dL_rate_2 rfl ?_
  refine kw_iload_n (pc := 3) dL_rate_3 rfl ?_
  refine kw_iload_n (pc := 4) dL_rate_4 rfl ?_
  refine kw_callVw1 (pc := 5) dL_rate_5 lL_62 hC h0 rfl rfl rfl ⟨by omega, by decide, Nat.le_of_ble_eq_true rfl⟩ (fun w1 hw1 => ?_)
  obtain ⟨C1, F1⟩ := hw1
  refine kw_i2l (pc := 8) dL_rate_8 ?_
  refine kw_lastore (pc := 9) dL_rate_9 ((F1 134 (by decide)).trans hf) vp01 (kgen (fun w2 hw2 => ?_))
  rw [kuL] at hw2
  refine kw_goto (tgt := 17) (pc := 10) dL_rate_10 (by decide) ?_
  refine kw_iconst (v := 0) (pc := 17) dL_rate_17 (by decide) ?_
  exact kw_ireturn nL_rate (pc := 18) dL_rate_18 rfl rfl ⟨rfl, ⟨C1.fr (fun a ha => by rw [hw2]; exact kup_ne (by omega)), fun a h1 h2 => by rw [hw2, kup_ne h2]; exact F1 a h1, _, (by rw [hw2]; exact kup_self _ _ _), fun _ => if_pos rfl⟩, Nat.le_refl _⟩
set_option maxRecDepth 100000 in
set_option maxHeartbeats 4000000 in
theorem hL_rate_X1 {w : kM} {a1 a2 : Int32} {d : Nat} {s : Nat → Int32} {q : Nat} {kp bf : Nat → Int32} {T : Nat} {P : kM → Prop} (hd : d ≤ 11) (h0 : w 0 = kO 5 xF) (ho : outW w) (hC : kCtrX mX5_rate d [.ref 0, .int a1, .int a2] w kIAE P) (hP : ∀ w1, P w1 → clP w s q kp bf T w1) : hR mL_rate [.ref 0, .int a1, .int a2, .ref 134] w 1 (outC w 0 s q kp bf T 1) := by
  obtain ⟨f, hf⟩ := ho
  intro n
  refine kCtr.ofH (X := (0, fun _ => 0)) plLw nL_rate (by decide) (Nat.le_of_ble_eq_true rfl) ?_
  refine kw_aload_n (pc := 0) dL_rate_0 rfl ?_
  refine kw_iconst (v := 0) (pc := 1) dL_rate_1 (by decide) ?_
  refine kw_aload_n (pc := 2) dL_rate_2 rfl ?_
  refine kw_iload_n (pc := 3) dL_rate_3 rfl ?_
  refine kw_iload_n (pc := 4) dL_rate_4 rfl ?_
  refine kw_callV (pc := 5) dL_rate_5 lL_62 (hC n) h0 rfl rfl rfl ⟨by omega, by decide, Nat.le_of_ble_eq_true rfl, Nat.le_refl _, Nat.le_refl _⟩ (fun E w1 n1 h => ?_) (fun v w1 n1 h => by cases h.1)
  obtain ⟨h1, h2, h3⟩ := h
  cases h1
  obtain ⟨C1, F1⟩ := hP w1 h2
  refine kwx_catch (len := 2) (pc := 5) (hpc := 13) (nm := kIAE) nL_rate [] ⟨0, 10, 13, 13⟩ [] rfl (fun z hz => absurd hz List.not_mem_nil) (by decide) (by decide) nLa_13 nCa_13 rfl dL_rate_13 (by decide) rfl ?_
  refine kw_iconst (v := 1) (pc := 15) dL_rate_15 (by decide) ?_
  exact kw_ireturn nL_rate (pc := 16) dL_rate_16 rfl rfl ⟨rfl, ⟨C1, fun a h1 _ => F1 a h1, f, (F1 134 (by decide)).trans hf, fun q => absurd q (by decide)⟩, h3⟩
theorem nL_count : mL_count.1.name ≠ "law" := by decide +kernel
set_option maxRecDepth 100000 in
set_option maxHeartbeats 4000000 in
theorem hL_count_T {w : kM} {a1 : Int32} {d : Nat} {s : Nat → Int32} {q : Nat} {kp bf : Nat → Int32} {T : Nat} {v : Int32} (hd : d ≤ 11) (h0 : w 0 = kO 5 xF) (ho : outW w) (hC : kCtrW mX5_count d [.ref 0, .int a1] w (some (.int v)) (clP w s q kp bf T)) : hR mL_count [.ref 0, .int a1, .ref 134] w 0 (outC w v s q kp bf T 0) := by
  obtain ⟨f, hf⟩ := ho
  intro n
  refine kCtr.ofH (X := (0, fun _ => 0)) plLw nL_count (by decide) (Nat.le_of_ble_eq_true rfl) ?_
  refine kw_aload_n (pc := 0) dL_count_0 rfl ?_
  refine kw_iconst (v := 0) (pc := 1) dL_count_1 (by decide) ?_
  refine kw_aload_n (pc := 2) dL_count_2 rfl ?_
  refine kw_iload_n (pc := 3) dL_count_3 rfl ?_
  refine kw_callVw1 (pc := 4) dL_count_4 lL_65 hC h0 rfl rfl rfl ⟨by omega, by decide, Nat.le_of_ble_eq_true rfl⟩ (fun w1 hw1 => ?_)
  obtain ⟨C1, F1⟩ := hw1
  refine kw_i2l (pc := 7) dL_count_7 ?_
  refine kw_lastore (pc := 8) dL_count_8 ((F1 134 (by decide)).trans hf) vp01 (kgen (fun w2 hw2 => ?_))
  rw [kuL] at hw2
  refine kw_goto (tgt := 15) (pc := 9) dL_count_9 (by decide) ?_
  refine kw_iconst (v := 0) (pc := 15) dL_count_15 (by decide) ?_
  exact kw_ireturn nL_count (pc := 16) dL_count_16 rfl rfl ⟨rfl, ⟨C1.fr (fun a ha => by rw [hw2]; exact kup_ne (by omega)), fun a h1 h2 => by rw [hw2, kup_ne h2]; exact F1 a h1, _, (by rw [hw2]; exact kup_self _ _ _), fun _ => if_pos rfl⟩, Nat.le_refl _⟩
set_option maxRecDepth 100000 in
set_option maxHeartbeats 4000000 in
theorem hL_count_X1 {w : kM} {a1 : Int32} {d : Nat} {s : Nat → Int32} {q : Nat} {kp bf : Nat → Int32} {T : Nat} {P : kM → Prop} (hd : d ≤ 11) (h0 : w 0 = kO 5 xF) (ho : outW w) (hC : kCtrX mX5_count d [.ref 0, .int a1] w kIAE P) (hP : ∀ w1, P w1 → clP w s q kp bf T w1) : hR mL_count [.ref 0, .int a1, .ref 134] w 1 (outC w 0 s q kp bf T 1) := by
  obtain ⟨f, hf⟩ := ho
  intro n
  refine kCtr.ofH (X := (0, fun _ => 0)) plLw nL_count (by decide) (Nat.le_of_ble_eq_true rfl) ?_
  refine kw_aload_n (pc := 0) dL_count_0 rfl ?_
  refine kw_iconst (v := 0) (pc := 1) dL_count_1 (by decide) ?_
  refine kw_aload_n (pc := 2) dL_count_2 rfl ?_
  refine kw_iload_n (pc := 3) dL_count_3 rfl ?_
  refine kw_callV (pc := 4) dL_count_4 lL_65 (hC n) h0 rfl rfl rfl ⟨by omega, by decide, Nat.le_of_ble_eq_true rfl, Nat.le_refl _, Nat.le_refl _⟩ (fun E w1 n1 h => ?_) (fun v w1 n1 h => by cases h.1)
  obtain ⟨h1, h2, h3⟩ := h
  cases h1
  obtain ⟨C1, F1⟩ := hP w1 h2
  refine kwx_catch_n (pc := 4) (hpc := 12) (nm := kIAE) nL_count [] ⟨0, 9, 12, 13⟩ [] rfl (fun z hz => absurd hz List.not_mem_nil) (by decide) (by decide) nLa_13 nCa_13 rfl dL_count_12 (by decide) rfl ?_
  refine kw_iconst (v := 1) (pc := 13) dL_count_13 (by decide) ?_
  exact kw_ireturn nL_count (pc := 14) dL_count_14 rfl rfl ⟨rfl, ⟨C1, fun a h1 _ => F1 a h1, f, (F1 134 (by decide)).trans hf, fun q => absurd q (by decide)⟩, h3⟩
theorem nL_setting : mL_setting.1.name ≠ "law" := by decide +kernel
set_option maxRecDepth 100000 in
set_option maxHeartbeats 4000000 in
theorem hL_setting_T {w : kM} {a1 : Int32} {d : Nat} {s : Nat → Int32} {q : Nat} {kp bf : Nat → Int32} {T : Nat} {v : Int32} (hd : d ≤ 11) (h0 : w 0 = kO 5 xF) (ho : outW w) (hC : kCtrW mX5_setting d [.ref 0, .int a1] w (some (.int v)) (clP w s q kp bf T)) : hR mL_setting [.ref 0, .int a1, .ref 134] w 0 (outC w v s q kp bf T 0) := by
  obtain ⟨f, hf⟩ := ho
  intro n
  refine kCtr.ofH (X := (0, fun _ => 0)) plLw nL_setting (by decide) (Nat.le_of_ble_eq_true rfl) ?_
  refine kw_aload_n (pc := 0) dL_setting_0 rfl ?_
  refine kw_iconst (v := 0) (pc := 1) dL_setting_1 (by decide) ?_
  refine kw_aload_n (pc := 2) dL_setting_2 rfl ?_
  refine kw_iload_n (pc := 3) dL_setting_3 rfl ?_
  refine kw_callVw1 (pc := 4) dL_setting_4 lL_68 hC h0 rfl rfl rfl ⟨by omega, by decide, Nat.le_of_ble_eq_true rfl⟩ (fun w1 hw1 => ?_)
  obtain ⟨C1, F1⟩ := hw1
  refine kw_i2l (pc := 7) dL_setting_7 ?_
  refine kw_lastore (pc := 8) dL_setting_8 ((F1 134 (by decide)).trans hf) vp01 (kgen (fun w2 hw2 => ?_))
  rw [kuL] at hw2
  refine kw_goto (tgt := 15) (pc := 9) dL_setting_9 (by decide) ?_
  refine kw_iconst (v := 0) (pc := 15) dL_setting_15 (by decide) ?_
  exact kw_ireturn nL_setting (pc := 16) dL_setting_16 rfl rfl ⟨rfl, ⟨C1.fr (fun a ha => by rw [hw2]; exact kup_ne (by omega)), fun a h1 h2 => by rw [hw2, kup_ne h2]; exact F1 a h1, _, (by rw [hw2]; exact kup_self _ _ _), fun _ => if_pos rfl⟩, Nat.le_refl _⟩
set_option maxRecDepth 100000 in
set_option maxHeartbeats 4000000 in
theorem hL_setting_X1 {w : kM} {a1 : Int32} {d : Nat} {s : Nat → Int32} {q : Nat} {kp bf : Nat → Int32} {T : Nat} {P : kM → Prop} (hd : d ≤ 11) (h0 : w 0 = kO 5 xF) (ho : outW w) (hC : kCtrX mX5_setting d [.ref 0, .int a1] w kIOB P) (hP : ∀ w1, P w1 → clP w s q kp bf T w1) : hR mL_setting [.ref 0, .int a1, .ref 134] w 1 (outC w 0 s q kp bf T 1) := by
  obtain ⟨f, hf⟩ := ho
  intro n
  refine kCtr.ofH (X := (0, fun _ => 0)) plLw nL_setting (by decide) (Nat.le_of_ble_eq_true rfl) ?_
  refine kw_aload_n (pc := 0) dL_setting_0 rfl ?_
  refine kw_iconst (v := 0) (pc := 1) dL_setting_1 (by decide) ?_
  refine kw_aload_n (pc := 2) dL_setting_2 rfl ?_
  refine kw_iload_n (pc := 3) dL_setting_3 rfl ?_
  refine kw_callV (pc := 4) dL_setting_4 lL_68 (hC n) h0 rfl rfl rfl ⟨by omega, by decide, Nat.le_of_ble_eq_true rfl, Nat.le_refl _, Nat.le_refl _⟩ (fun E w1 n1 h => ?_) (fun v w1 n1 h => by cases h.1)
  obtain ⟨h1, h2, h3⟩ := h
  cases h1
  obtain ⟨C1, F1⟩ := hP w1 h2
  refine kwx_catch_n (pc := 4) (hpc := 12) (nm := kIOB) nL_setting [] ⟨0, 9, 12, 19⟩ [] rfl (fun z hz => absurd hz List.not_mem_nil) (by decide) (by decide) nLa_19 nCa_19 rfl dL_setting_12 (by decide) rfl ?_
  refine kw_iconst (v := 1) (pc := 13) dL_setting_13 (by decide) ?_
  exact kw_ireturn nL_setting (pc := 14) dL_setting_14 rfl rfl ⟨rfl, ⟨C1, fun a h1 _ => F1 a h1, f, (F1 134 (by decide)).trans hf, fun q => absurd q (by decide)⟩, h3⟩
theorem nL_cheapestWay : mL_cheapestWay.1.name ≠ "law" := by decide +kernel
set_option maxRecDepth 100000 in
set_option maxHeartbeats 4000000 in
theorem hL_cheapestWay_T {w : kM} {a1 : Int32} {d : Nat} {s : Nat → Int32} {q : Nat} {kp bf : Nat → Int32} {T : Nat} {v : Int32} (hd : d ≤ 11) (h0 : w 0 = kO 5 xF) (ho : outW w) (hC : kCtrW mX5_cheapestWay d [.ref 0, .int a1] w (some (.int v)) (clP w s q kp bf T)) : hR mL_cheapestWay [.ref 0, .int a1, .ref 134] w 0 (outC w v s q kp bf T 0) := by
  obtain ⟨f, hf⟩ := ho
  intro n
  refine kCtr.ofH (X := (0, fun _ => 0)) plLw nL_cheapestWay (by decide) (Nat.le_of_ble_eq_true rfl) ?_
  refine kw_aload_n (pc := 0) dL_cheapestWay_0 rfl ?_
  refine kw_iconst (v := 0) (pc := 1) dL_cheapestWay_1 (by decide) ?_
  refine kw_aload_n (pc := 2) dL_cheapestWay_2 rfl ?_
  refine kw_iload_n (pc := 3) dL_cheapestWay_3 rfl ?_
  refine kw_callVw1 (pc := 4) dL_cheapestWay_4 lL_71 hC h0 rfl rfl rfl ⟨by omega, by decide, Nat.le_of_ble_eq_true rfl⟩ (fun w1 hw1 => ?_)
  obtain ⟨C1, F1⟩ := hw1
  refine kw_i2l (pc := 7) dL_cheapestWay_7 ?_
  refine kw_lastore (pc := 8) dL_cheapestWay_8 ((F1 134 (by decide)).trans hf) vp01 (kgen (fun w2 hw2 => ?_))
  rw [kuL] at hw2
  refine kw_goto (tgt := 15) (pc := 9) dL_cheapestWay_9 (by decide) ?_
  refine kw_iconst (v := 0) (pc := 15) dL_cheapestWay_15 (by decide) ?_
  exact kw_ireturn nL_cheapestWay (pc := 16) dL_cheapestWay_16 rfl rfl ⟨rfl, ⟨C1.fr (fun a ha => by rw [hw2]; exact kup_ne (by omega)), fun a h1 h2 => by rw [hw2, kup_ne h2]; exact F1 a h1, _, (by rw [hw2]; exact kup_self _ _ _), fun _ => if_pos rfl⟩, Nat.le_refl _⟩
set_option maxRecDepth 100000 in
set_option maxHeartbeats 4000000 in
theorem hL_cheapestWay_X1 {w : kM} {a1 : Int32} {d : Nat} {s : Nat → Int32} {q : Nat} {kp bf : Nat → Int32} {T : Nat} {P : kM → Prop} (hd : d ≤ 11) (h0 : w 0 = kO 5 xF) (ho : outW w) (hC : kCtrX mX5_cheapestWay d [.ref 0, .int a1] w kIOB P) (hP : ∀ w1, P w1 → clP w s q kp bf T w1) : hR mL_cheapestWay [.ref 0, .int a1, .ref 134] w 1 (outC w 0 s q kp bf T 1) := by
  obtain ⟨f, hf⟩ := ho
  intro n
  refine kCtr.ofH (X := (0, fun _ => 0)) plLw nL_cheapestWay (by decide) (Nat.le_of_ble_eq_true rfl) ?_
  refine kw_aload_n (pc := 0) dL_cheapestWay_0 rfl ?_
  refine kw_iconst (v := 0) (pc := 1) dL_cheapestWay_1 (by decide) ?_
  refine kw_aload_n (pc := 2) dL_cheapestWay_2 rfl ?_
  refine kw_iload_n (pc := 3) dL_cheapestWay_3 rfl ?_
  refine kw_callV (pc := 4) dL_cheapestWay_4 lL_71 (hC n) h0 rfl rfl rfl ⟨by omega, by decide, Nat.le_of_ble_eq_true rfl, Nat.le_refl _, Nat.le_refl _⟩ (fun E w1 n1 h => ?_) (fun v w1 n1 h => by cases h.1)
  obtain ⟨h1, h2, h3⟩ := h
  cases h1
  obtain ⟨C1, F1⟩ := hP w1 h2
  refine kwx_catch_n (pc := 4) (hpc := 12) (nm := kIOB) nL_cheapestWay [] ⟨0, 9, 12, 19⟩ [] rfl (fun z hz => absurd hz List.not_mem_nil) (by decide) (by decide) nLa_19 nCa_19 rfl dL_cheapestWay_12 (by decide) rfl ?_
  refine kw_iconst (v := 1) (pc := 13) dL_cheapestWay_13 (by decide) ?_
  exact kw_ireturn nL_cheapestWay (pc := 14) dL_cheapestWay_14 rfl rfl ⟨rfl, ⟨C1, fun a h1 _ => F1 a h1, f, (F1 134 (by decide)).trans hf, fun q => absurd q (by decide)⟩, h3⟩
theorem nL_ifBundled : mL_ifBundled.1.name ≠ "law" := by decide +kernel
set_option maxRecDepth 100000 in
set_option maxHeartbeats 4000000 in
theorem hL_ifBundled_T {w : kM} {a1 a2 : Int32} {d : Nat} {s : Nat → Int32} {q : Nat} {kp bf : Nat → Int32} {T : Nat} {v : Int32} (hd : d ≤ 11) (h0 : w 0 = kO 5 xF) (ho : outW w) (hC : kCtrW mX5_ifBundled d [.ref 0, .int a1, .int a2] w (some (.int v)) (clP w s q kp bf T)) : hR mL_ifBundled [.ref 0, .int a1, .int a2, .ref 134] w 0 (outC w v s q kp bf T 0) := by
  obtain ⟨f, hf⟩ := ho
  intro n
  refine kCtr.ofH (X := (0, fun _ => 0)) plLw nL_ifBundled (by decide) (Nat.le_of_ble_eq_true rfl) ?_
  refine kw_aload_n (pc := 0) dL_ifBundled_0 rfl ?_
  refine kw_iconst (v := 0) (pc := 1) dL_ifBundled_1 (by decide) ?_
  refine kw_aload_n (pc := 2) dL_ifBundled_2 rfl ?_
  refine kw_iload_n (pc := 3) dL_ifBundled_3 rfl ?_
  refine kw_iload_n (pc := 4) dL_ifBundled_4 rfl ?_
  refine kw_callVw1 (pc := 5) dL_ifBundled_5 lL_74 hC h0 rfl rfl rfl ⟨by omega, by decide, Nat.le_of_ble_eq_true rfl⟩ (fun w1 hw1 => ?_)
  obtain ⟨C1, F1⟩ := hw1
  refine kw_i2l (pc := 8) dL_ifBundled_8 ?_
  refine kw_lastore (pc := 9) dL_ifBundled_9 ((F1 134 (by decide)).trans hf) vp01 (kgen (fun w2 hw2 => ?_))
  rw [kuL] at hw2
  refine kw_goto (tgt := 21) (pc := 10) dL_ifBundled_10 (by decide) ?_
  refine kw_iconst (v := 0) (pc := 21) dL_ifBundled_21 (by decide) ?_
  exact kw_ireturn nL_ifBundled (pc := 22) dL_ifBundled_22 rfl rfl ⟨rfl, ⟨C1.fr (fun a ha => by rw [hw2]; exact kup_ne (by omega)), fun a h1 h2 => by rw [hw2, kup_ne h2]; exact F1 a h1, _, (by rw [hw2]; exact kup_self _ _ _), fun _ => if_pos rfl⟩, Nat.le_refl _⟩
set_option maxRecDepth 100000 in
set_option maxHeartbeats 4000000 in
theorem hL_ifBundled_X1 {w : kM} {a1 a2 : Int32} {d : Nat} {s : Nat → Int32} {q : Nat} {kp bf : Nat → Int32} {T : Nat} {P : kM → Prop} (hd : d ≤ 11) (h0 : w 0 = kO 5 xF) (ho : outW w) (hC : kCtrX mX5_ifBundled d [.ref 0, .int a1, .int a2] w kIOB P) (hP : ∀ w1, P w1 → clP w s q kp bf T w1) : hR mL_ifBundled [.ref 0, .int a1, .int a2, .ref 134] w 1 (outC w 0 s q kp bf T 1) := by
  obtain ⟨f, hf⟩ := ho
  intro n
  refine kCtr.ofH (X := (0, fun _ => 0)) plLw nL_ifBundled (by decide) (Nat.le_of_ble_eq_true rfl) ?_
  refine kw_aload_n (pc := 0) dL_ifBundled_0 rfl ?_
  refine kw_iconst (v := 0) (pc := 1) dL_ifBundled_1 (by decide) ?_
  refine kw_aload_n (pc := 2) dL_ifBundled_2 rfl ?_
  refine kw_iload_n (pc := 3) dL_ifBundled_3 rfl ?_
  refine kw_iload_n (pc := 4) dL_ifBundled_4 rfl ?_
  refine kw_callV (pc := 5) dL_ifBundled_5 lL_74 (hC n) h0 rfl rfl rfl ⟨by omega, by decide, Nat.le_of_ble_eq_true rfl, Nat.le_refl _, Nat.le_refl _⟩ (fun E w1 n1 h => ?_) (fun v w1 n1 h => by cases h.1)
  obtain ⟨h1, h2, h3⟩ := h
  cases h1
  obtain ⟨C1, F1⟩ := hP w1 h2
  refine kwx_catch (len := 2) (pc := 5) (hpc := 13) (nm := kIOB) nL_ifBundled [] ⟨0, 10, 13, 19⟩ [⟨0, 10, 17, 13⟩] rfl (fun z hz => absurd hz List.not_mem_nil) (by decide) (by decide) nLa_19 nCa_19 rfl dL_ifBundled_13 (by decide) rfl ?_
  refine kw_iconst (v := 1) (pc := 15) dL_ifBundled_15 (by decide) ?_
  exact kw_ireturn nL_ifBundled (pc := 16) dL_ifBundled_16 rfl rfl ⟨rfl, ⟨C1, fun a h1 _ => F1 a h1, f, (F1 134 (by decide)).trans hf, fun q => absurd q (by decide)⟩, h3⟩
set_option maxRecDepth 100000 in
set_option maxHeartbeats 4000000 in
theorem hL_ifBundled_X2 {w : kM} {a1 a2 : Int32} {d : Nat} {s : Nat → Int32} {q : Nat} {kp bf : Nat → Int32} {T : Nat} {P : kM → Prop} (hd : d ≤ 11) (h0 : w 0 = kO 5 xF) (ho : outW w) (hC : kCtrX mX5_ifBundled d [.ref 0, .int a1, .int a2] w kIAE P) (hP : ∀ w1, P w1 → clP w s q kp bf T w1) : hR mL_ifBundled [.ref 0, .int a1, .int a2, .ref 134] w 2 (outC w 0 s q kp bf T 2) := by
  obtain ⟨f, hf⟩ := ho
  intro n
  refine kCtr.ofH (X := (0, fun _ => 0)) plLw nL_ifBundled (by decide) (Nat.le_of_ble_eq_true rfl) ?_
  refine kw_aload_n (pc := 0) dL_ifBundled_0 rfl ?_
  refine kw_iconst (v := 0) (pc := 1) dL_ifBundled_1 (by decide) ?_
  refine kw_aload_n (pc := 2) dL_ifBundled_2 rfl ?_
  refine kw_iload_n (pc := 3) dL_ifBundled_3 rfl ?_
  refine kw_iload_n (pc := 4) dL_ifBundled_4 rfl ?_
  refine kw_callV (pc := 5) dL_ifBundled_5 lL_74 (hC n) h0 rfl rfl rfl ⟨by omega, by decide, Nat.le_of_ble_eq_true rfl, Nat.le_refl _, Nat.le_refl _⟩ (fun E w1 n1 h => ?_) (fun v w1 n1 h => by cases h.1)
  obtain ⟨h1, h2, h3⟩ := h
  cases h1
  obtain ⟨C1, F1⟩ := hP w1 h2
  refine kwx_catch (len := 2) (pc := 5) (hpc := 17) (nm := kIAE) nL_ifBundled [⟨0, 10, 13, 19⟩] ⟨0, 10, 17, 13⟩ [] rfl (fun z hz => by rw [List.mem_singleton.mp hz]; exact ⟨by decide, _, nLa_19, nNc_1⟩) (by decide) (by decide) nLa_13 nCa_13 rfl dL_ifBundled_17 (by decide) rfl ?_
  refine kw_iconst (v := 2) (pc := 19) dL_ifBundled_19 (by decide) ?_
  exact kw_ireturn nL_ifBundled (pc := 20) dL_ifBundled_20 rfl rfl ⟨rfl, ⟨C1, fun a h1 _ => F1 a h1, f, (F1 134 (by decide)).trans hf, fun q => absurd q (by decide)⟩, h3⟩
theorem nL_cheapest : mL_cheapest.1.name ≠ "law" := by decide +kernel
set_option maxRecDepth 100000 in
set_option maxHeartbeats 4000000 in
theorem hL_cheapest_T {w : kM} {a1 : Int32} {d : Nat} {s : Nat → Int32} {q : Nat} {kp bf : Nat → Int32} {T : Nat} {v : Int32} (hd : d ≤ 11) (h0 : w 0 = kO 5 xF) (ho : outW w) (hC : kCtrW mX5_cheapest d [.ref 0, .int a1] w (some (.int v)) (clP w s q kp bf T)) : hR mL_cheapest [.ref 0, .int a1, .ref 134] w 0 (outC w v s q kp bf T 0) := by
  obtain ⟨f, hf⟩ := ho
  intro n
  refine kCtr.ofH (X := (0, fun _ => 0)) plLw nL_cheapest (by decide) (Nat.le_of_ble_eq_true rfl) ?_
  refine kw_aload_n (pc := 0) dL_cheapest_0 rfl ?_
  refine kw_iconst (v := 0) (pc := 1) dL_cheapest_1 (by decide) ?_
  refine kw_aload_n (pc := 2) dL_cheapest_2 rfl ?_
  refine kw_iload_n (pc := 3) dL_cheapest_3 rfl ?_
  refine kw_callVw1 (pc := 4) dL_cheapest_4 lL_77 hC h0 rfl rfl rfl ⟨by omega, by decide, Nat.le_of_ble_eq_true rfl⟩ (fun w1 hw1 => ?_)
  obtain ⟨C1, F1⟩ := hw1
  refine kw_i2l (pc := 7) dL_cheapest_7 ?_
  refine kw_lastore (pc := 8) dL_cheapest_8 ((F1 134 (by decide)).trans hf) vp01 (kgen (fun w2 hw2 => ?_))
  rw [kuL] at hw2
  refine kw_goto (tgt := 15) (pc := 9) dL_cheapest_9 (by decide) ?_
  refine kw_iconst (v := 0) (pc := 15) dL_cheapest_15 (by decide) ?_
  exact kw_ireturn nL_cheapest (pc := 16) dL_cheapest_16 rfl rfl ⟨rfl, ⟨C1.fr (fun a ha => by rw [hw2]; exact kup_ne (by omega)), fun a h1 h2 => by rw [hw2, kup_ne h2]; exact F1 a h1, _, (by rw [hw2]; exact kup_self _ _ _), fun _ => if_pos rfl⟩, Nat.le_refl _⟩
set_option maxRecDepth 100000 in
set_option maxHeartbeats 4000000 in
theorem hL_cheapest_X1 {w : kM} {a1 : Int32} {d : Nat} {s : Nat → Int32} {q : Nat} {kp bf : Nat → Int32} {T : Nat} {P : kM → Prop} (hd : d ≤ 11) (h0 : w 0 = kO 5 xF) (ho : outW w) (hC : kCtrX mX5_cheapest d [.ref 0, .int a1] w kIAE P) (hP : ∀ w1, P w1 → clP w s q kp bf T w1) : hR mL_cheapest [.ref 0, .int a1, .ref 134] w 1 (outC w 0 s q kp bf T 1) := by
  obtain ⟨f, hf⟩ := ho
  intro n
  refine kCtr.ofH (X := (0, fun _ => 0)) plLw nL_cheapest (by decide) (Nat.le_of_ble_eq_true rfl) ?_
  refine kw_aload_n (pc := 0) dL_cheapest_0 rfl ?_
  refine kw_iconst (v := 0) (pc := 1) dL_cheapest_1 (by decide) ?_
  refine kw_aload_n (pc := 2) dL_cheapest_2 rfl ?_
  refine kw_iload_n (pc := 3) dL_cheapest_3 rfl ?_
  refine kw_callV (pc := 4) dL_cheapest_4 lL_77 (hC n) h0 rfl rfl rfl ⟨by omega, by decide, Nat.le_of_ble_eq_true rfl, Nat.le_refl _, Nat.le_refl _⟩ (fun E w1 n1 h => ?_) (fun v w1 n1 h => by cases h.1)
  obtain ⟨h1, h2, h3⟩ := h
  cases h1
  obtain ⟨C1, F1⟩ := hP w1 h2
  refine kwx_catch_n (pc := 4) (hpc := 12) (nm := kIAE) nL_cheapest [] ⟨0, 9, 12, 13⟩ [] rfl (fun z hz => absurd hz List.not_mem_nil) (by decide) (by decide) nLa_13 nCa_13 rfl dL_cheapest_12 (by decide) rfl ?_
  refine kw_iconst (v := 1) (pc := 13) dL_cheapest_13 (by decide) ?_
  exact kw_ireturn nL_cheapest (pc := 14) dL_cheapest_14 rfl rfl ⟨rfl, ⟨C1, fun a h1 _ => F1 a h1, f, (F1 134 (by decide)).trans hf, fun q => absurd q (by decide)⟩, h3⟩
