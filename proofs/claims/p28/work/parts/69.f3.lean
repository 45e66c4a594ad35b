set_option maxRecDepth 100000 in
set_option maxHeartbeats 4000000 in
theorem c5_sendT {w : kM} {s : Nat → Int32} {q : Nat} {kp bf : Nat → Int32} {T : Nat} (C : cls w s q kp bf T) {c : Nat} (hc : s 20 = nI c) (hc7 : c ≤ 7) {k : Nat} (hk : k < c) (hf : fineP s (pa s (21 + 7 * k))) (ht : pR s (pa s (21 + 7 * k)) = 0) : kCtrW mX5_send 5 [.ref 0, .int (nI k)] w (some (.int (10 + pP s (pa s (21 + 7 * k))))) (fun w' => cls w' (sentS (svS s q) k c (pP s (pa s (21 + 7 * k)))) (svN q) kp bf T ∧ ∀ a, 128 ≤ a → w' a = w a) := by
  refine kCtrW.of pl5 nlX5_send rfl (Nat.le_of_ble_eq_true rfl) (fun n => ?_)
  refine kw_aload_n (pc := 0) dX5_send_0 rfl ?_
  refine kw_iload_n (pc := 1) dX5_send_1 rfl ?_
  refine kw_callVw0 (pc := 2) dX5_send_2 lX5_61 (c5_parT C hc hc7 hk) C.1 rfl rfl rfl ⟨by decide, by decide, Nat.le_of_ble_eq_true rfl⟩ (fun wq hwq => ?_)
  have hwq : w = wq := Eq.symm hwq
  subst hwq
  refine kw_aload_n (pc := 5) dX5_send_5 rfl ?_
  refine kw_getfield (pc := 6) kfw dX5_send_6 fX5_27 C.1 rfl ?_
  refine kw_aload_n (pc := 9) dX5_send_9 rfl ?_
  refine kw_getfield (pc := 10) kfw dX5_send_10 fX5_10 C.1 rfl ?_
  refine kw_callVw0 (pc := 13) dX5_send_13 lX5_53 (c4_save C.2.2.1 C.2.1 (by decide)) C.2.2.1.ob rfl rfl rfl ⟨by decide, by decide, Nat.le_of_ble_eq_true rfl⟩ (fun w1 hw1 => ?_)
  obtain ⟨P1, G1⟩ := hw1
  have C1 := C.saved P1 G1
  have E1 : ∀ a, 128 ≤ a → w1 a = w a := fun a h => G1 a (by omega)
  obtain ⟨σ, H⟩ := C1.2.1.c ((svS_low (by decide)).trans hc) hc7
  refine kw_aload_n (pc := 16) dX5_send_16 rfl ?_
  refine kw_getfield (pc := 17) kfw dX5_send_17 fX5_10 C1.1 rfl ?_
  refine kw_iload_n (pc := 20) dX5_send_20 rfl ?_
  refine kw_callVw1 (pc := 21) dX5_send_21 lX5_78 (c1_sendT H hk (fineP_congr (fun i hi => svS_low hi) (sv_pa (by omega)) hf) ((pR_congr (fun i hi => svS_low hi) (sv_pa (by omega))).trans ht)) H.ob rfl rfl rfl ⟨by decide, by decide, Nat.le_of_ble_eq_true rfl⟩ (fun w2 hw2 => ?_)
  obtain ⟨σ2, H2, G0⟩ := hw2
  have G2 : ∀ a, (a < 1 ∨ 13 ≤ a) → w2 a = w1 a := fun a h => G0 a (by omega) (by omega)
  exact kw_ireturn nlX5_send (pc := 24) dX5_send_24 rfl rfl ⟨kv_eq (by rw [(pP_congr (fun i hi => svS_low hi) (sv_pa (by omega)) hf)]), ⟨by rw [← (pP_congr (fun i hi => svS_low hi) (sv_pa (by omega)) hf)]; exact C1.setOff ⟨_, _, H2⟩ (fun i hi => sentS_hi hi hc7) (fun a h => G2 a (by omega)), fun a h => (G2 a (by omega)).trans (E1 a h)⟩, rfl⟩
set_option maxRecDepth 100000 in
set_option maxHeartbeats 4000000 in
theorem c5_sendR {w : kM} {s : Nat → Int32} {q : Nat} {kp bf : Nat → Int32} {T : Nat} (C : cls w s q kp bf T) {c : Nat} (hc : s 20 = nI c) (hc7 : c ≤ 7) {k : Nat} (hk : k < c) {v : Int32} (ht : pR s (pa s (21 + 7 * k)) = v) (hv : ¬ v = 0) : kCtrW mX5_send 5 [.ref 0, .int (nI k)] w (some (.int v)) (fun w' => cls w' (kuf (svS s q) 74 ((svS s q) 74 + 1)) (svN q) kp bf T ∧ ∀ a, 128 ≤ a → w' a = w a) := by
  refine kCtrW.of pl5 nlX5_send rfl (Nat.le_of_ble_eq_true rfl) (fun n => ?_)
  refine kw_aload_n (pc := 0) dX5_send_0 rfl ?_
  refine kw_iload_n (pc := 1) dX5_send_1 rfl ?_
  refine kw_callVw0 (pc := 2) dX5_send_2 lX5_61 (c5_parT C hc hc7 hk) C.1 rfl rfl rfl ⟨by decide, by decide, Nat.le_of_ble_eq_true rfl⟩ (fun wq hwq => ?_)
  have hwq : w = wq := Eq.symm hwq
  subst hwq
  refine kw_aload_n (pc := 5) dX5_send_5 rfl ?_
  refine kw_getfield (pc := 6) kfw dX5_send_6 fX5_27 C.1 rfl ?_
  refine kw_aload_n (pc := 9) dX5_send_9 rfl ?_
  refine kw_getfield (pc := 10) kfw dX5_send_10 fX5_10 C.1 rfl ?_
  refine kw_callVw0 (pc := 13) dX5_send_13 lX5_53 (c4_save C.2.2.1 C.2.1 (by decide)) C.2.2.1.ob rfl rfl rfl ⟨by decide, by decide, Nat.le_of_ble_eq_true rfl⟩ (fun w1 hw1 => ?_)
  obtain ⟨P1, G1⟩ := hw1
  have C1 := C.saved P1 G1
  have E1 : ∀ a, 128 ≤ a → w1 a = w a := fun a h => G1 a (by omega)
  obtain ⟨σ, H⟩ := C1.2.1.c ((svS_low (by decide)).trans hc) hc7
  refine kw_aload_n (pc := 16) dX5_send_16 rfl ?_
  refine kw_getfield (pc := 17) kfw dX5_send_17 fX5_10 C1.1 rfl ?_
  refine kw_iload_n (pc := 20) dX5_send_20 rfl ?_
  refine kw_callVw1 (pc := 21) dX5_send_21 lX5_78 (c1_sendR H hk ((pR_congr (fun i hi => svS_low hi) (sv_pa (by omega))).trans ht) hv) H.ob rfl rfl rfl ⟨by decide, by decide, Nat.le_of_ble_eq_true rfl⟩ (fun w2 hw2 => ?_)
  obtain ⟨σ2, H2, G0⟩ := hw2
  have G2 : ∀ a, (a < 1 ∨ 13 ≤ a) → w2 a = w1 a := fun a h => G0 a (by omega) (by omega)
  exact kw_ireturn nlX5_send (pc := 24) dX5_send_24 rfl rfl ⟨rfl, ⟨C1.setOff ⟨_, _, H2⟩ (fun i hi => kuf_ne (by omega)) (fun a h => G2 a (by omega)), fun a h => (G2 a (by omega)).trans (E1 a h)⟩, rfl⟩
set_option maxRecDepth 100000 in
set_option maxHeartbeats 4000000 in
theorem c5_sendA {w : kM} {s : Nat → Int32} {q : Nat} {kp bf : Nat → Int32} {T : Nat} (C : cls w s q kp bf T) {c : Nat} (hc : s 20 = nI c) (hc7 : c ≤ 7) {p : Int32} (hp : ¬ ∃ k, k < c ∧ p = nI k) : kCtrX mX5_send 8 [.ref 0, .int p] w kIOB (fun w' => w' = w) := by
  refine kCtrX.of pl5 nlX5_send rfl (Nat.le_of_ble_eq_true rfl) (fun n => ?_)
  refine kw_aload_n (pc := 0) dX5_send_0 rfl ?_
  refine kw_iload_n (pc := 1) dX5_send_1 rfl ?_
  exact kw_callVx (pc := 2) dX5_send_2 lX5_61 (c5_parX C hc hc7 hp) C.1 rfl rfl rfl ⟨by decide, by decide, Nat.le_of_ble_eq_true rfl, by decide, by decide⟩ nlX5_send rfl (fun w' n' hp hn => ⟨rfl, hp, hn⟩)
set_option maxRecDepth 100000 in
set_option maxHeartbeats 4000000 in
theorem c5_dispT {w : kM} {s : Nat → Int32} {q : Nat} {kp bf : Nat → Int32} {T : Nat} (C : cls w s q kp bf T) {c : Nat} (hc : s 20 = nI c) (hc7 : c ≤ 7) {k : Nat} (hk : k < c) {z : Int32} (hz : 1 ≤ z ∧ z ≤ 999) (h4 : fineZ (pa s (21 + 7 * k))) (h5 : fineB z) (ht : pR s (pa s (21 + 7 * k)) = 0) (hA : (if 0 ≤ (z - pS s (pa s (21 + 7 * k))) then (z - pS s (pa s (21 + 7 * k))) else 0 - (z - pS s (pa s (21 + 7 * k)))) ≤ s 3) : kCtrW mX5_dispute 5 [.ref 0, .int (nI k), .int z] w (some (.int (10 + pW s (pa s (21 + 7 * k)) z))) (fun w' => cls w' (sentS (kuf (svS s q) 72 ((svS s q) 72 + 1)) k c (pW s (pa s (21 + 7 * k)) z)) (svN q) kp bf T ∧ ∀ a, 128 ≤ a → w' a = w a) := by
  refine kCtrW.of pl5 nlX5_dispute rfl (Nat.le_of_ble_eq_true rfl) (fun n => ?_)
  refine kw_aload_n (pc := 0) dX5_dispute_0 rfl ?_
  refine kw_iload_n (pc := 1) dX5_dispute_1 rfl ?_
  refine kw_callVw0 (pc := 2) dX5_dispute_2 lX5_61 (c5_parT C hc hc7 hk) C.1 rfl rfl rfl ⟨by decide, by decide, Nat.le_of_ble_eq_true rfl⟩ (fun wq hwq => ?_)
  have hwq : w = wq := Eq.symm hwq
  subst hwq
  refine kw_iload_n (pc := 5) dX5_dispute_5 rfl ?_
  refine kw_iconst (v := 1) (pc := 6) dX5_dispute_6 (by decide) ?_
  refine kw_sipush (v := 999) (pc := 7) dX5_dispute_7 (by decide) ?_
  refine kw_callSr (pc := 10) dX5_dispute_10 lX5_45 (c5_isInT hz) rfl rfl ⟨by decide, by decide, Nat.le_of_ble_eq_true rfl⟩ ?_
  refine kw_callSw0 (pc := 13) dX5_dispute_13 lX5_49 (c5_argT (by decide)) rfl rfl ⟨by decide, by decide, Nat.le_of_ble_eq_true rfl⟩ (fun wq hwq => ?_)
  have hwq : w = wq := Eq.symm hwq
  subst hwq
  refine kw_aload_n (pc := 16) dX5_dispute_16 rfl ?_
  refine kw_getfield (pc := 17) kfw dX5_dispute_17 fX5_27 C.1 rfl ?_
  refine kw_aload_n (pc := 20) dX5_dispute_20 rfl ?_
  refine kw_getfield (pc := 21) kfw dX5_dispute_21 fX5_10 C.1 rfl ?_
  refine kw_callVw0 (pc := 24) dX5_dispute_24 lX5_53 (c4_save C.2.2.1 C.2.1 (by decide)) C.2.2.1.ob rfl rfl rfl ⟨by decide, by decide, Nat.le_of_ble_eq_true rfl⟩ (fun w1 hw1 => ?_)
  obtain ⟨P1, G1⟩ := hw1
  have C1 := C.saved P1 G1
  have E1 : ∀ a, 128 ≤ a → w1 a = w a := fun a h => G1 a (by omega)
  obtain ⟨σ, H⟩ := C1.2.1.c ((svS_low (by decide)).trans hc) hc7
  refine kw_aload_n (pc := 27) dX5_dispute_27 rfl ?_
  refine kw_getfield (pc := 28) kfw dX5_dispute_28 fX5_10 C1.1 rfl ?_
  refine kw_iload_n (pc := 31) dX5_dispute_31 rfl ?_
  refine kw_iload_n (pc := 32) dX5_dispute_32 rfl ?_
  refine kw_callVw1 (pc := 33) dX5_dispute_33 lX5_81 (c1_dispT H hk (fineZ_congr (P := (pa s (21 + 7 * k))) (sv_pa (by omega)) h4) h5 ((pR_congr (fun i hi => svS_low hi) (sv_pa (by omega))).trans ht) (by rw [(pS_congr (fun i hi => svS_low hi) (sv_pa (by omega))), svS_low (by decide)]; exact hA)) H.ob rfl rfl rfl ⟨by decide, by decide, Nat.le_of_ble_eq_true rfl⟩ (fun w2 hw2 => ?_)
  obtain ⟨σ2, H2, G0⟩ := hw2
  have G2 : ∀ a, (a < 1 ∨ 13 ≤ a) → w2 a = w1 a := fun a h => G0 a (by omega) (by omega)
  exact kw_ireturn nlX5_dispute (pc := 36) dX5_dispute_36 rfl rfl ⟨kv_eq (by rw [(pW_congr (fun i hi => svS_low hi) (sv_pa (by omega)) h4 h5)]), ⟨by rw [← (pW_congr (fun i hi => svS_low hi) (sv_pa (by omega)) h4 h5)]; exact C1.setOff ⟨_, _, H2⟩ (fun i hi => (sentS_hi hi hc7).trans (kuf_ne (by omega))) (fun a h => G2 a (by omega)), fun a h => (G2 a (by omega)).trans (E1 a h)⟩, rfl⟩
set_option maxRecDepth 100000 in
set_option maxHeartbeats 4000000 in
theorem c5_dispL {w : kM} {s : Nat → Int32} {q : Nat} {kp bf : Nat → Int32} {T : Nat} (C : cls w s q kp bf T) {c : Nat} (hc : s 20 = nI c) (hc7 : c ≤ 7) {k : Nat} (hk : k < c) {z : Int32} (hz : 1 ≤ z ∧ z ≤ 999) (ht : pR s (pa s (21 + 7 * k)) = 0) (hA : ¬ (if 0 ≤ (z - pS s (pa s (21 + 7 * k))) then (z - pS s (pa s (21 + 7 * k))) else 0 - (z - pS s (pa s (21 + 7 * k)))) ≤ s 3) : kCtrW mX5_dispute 5 [.ref 0, .int (nI k), .int z] w (some (.int 4)) (fun w' => cls w' (kuf (svS s q) 73 ((svS s q) 73 + 1)) (svN q) kp bf T ∧ ∀ a, 128 ≤ a → w' a = w a) := by
  refine kCtrW.of pl5 nlX5_dispute rfl (Nat.le_of_ble_eq_true rfl) (fun n => ?_)
  refine kw_aload_n (pc := 0) dX5_dispute_0 rfl ?_
  refine kw_iload_n (pc := 1) dX5_dispute_1 rfl ?_
  refine kw_callVw0 (pc := 2) dX5_dispute_2 lX5_61 (c5_parT C hc hc7 hk) C.1 rfl rfl rfl ⟨by decide, by decide, Nat.le_of_ble_eq_true rfl⟩ (fun wq hwq => ?_)
  have hwq : w = wq := Eq.symm hwq
  subst hwq
  refine kw_iload_n (pc := 5) dX5_dispute_5 rfl ?_
  refine kw_iconst (v := 1) (pc := 6) dX5_dispute_6 (by decide) ?_
  refine kw_sipush (v := 999) (pc := 7) dX5_dispute_7 (by decide) ?_
  refine kw_callSr (pc := 10) dX5_dispute_10 lX5_45 (c5_isInT hz) rfl rfl ⟨by decide, by decide, Nat.le_of_ble_eq_true rfl⟩ ?_
  refine kw_callSw0 (pc := 13) dX5_dispute_13 lX5_49 (c5_argT (by decide)) rfl rfl ⟨by decide, by decide, Nat.le_of_ble_eq_true rfl⟩ (fun wq hwq => ?_)
  have hwq : w = wq := Eq.symm hwq
  subst hwq
  refine kw_aload_n (pc := 16) dX5_dispute_16 rfl ?_
  refine kw_getfield (pc := 17) kfw dX5_dispute_17 fX5_27 C.1 rfl ?_
  refine kw_aload_n (pc := 20) dX5_dispute_20 rfl ?_
  refine kw_getfield (pc := 21) kfw dX5_dispute_21 fX5_10 C.1 rfl ?_
  refine kw_callVw0 (pc := 24) dX5_dispute_24 lX5_53 (c4_save C.2.2.1 C.2.1 (by decide)) C.2.2.1.ob rfl rfl rfl ⟨by decide, by decide, Nat.le_of_ble_eq_true rfl⟩ (fun w1 hw1 => ?_)
  obtain ⟨P1, G1⟩ := hw1
  have C1 := C.saved P1 G1
  have E1 : ∀ a, 128 ≤ a → w1 a = w a := fun a h => G1 a (by omega)
  obtain ⟨σ, H⟩ := C1.2.1.c ((svS_low (by decide)).trans hc) hc7
  refine kw_aload_n (pc := 27) dX5_dispute_27 rfl ?_
  refine kw_getfield (pc := 28) kfw dX5_dispute_28 fX5_10 C1.1 rfl ?_
  refine kw_iload_n (pc := 31) dX5_dispute_31 rfl ?_
  refine kw_iload_n (pc := 32) dX5_dispute_32 rfl ?_
  refine kw_callVw1 (pc := 33) dX5_dispute_33 lX5_81 (c1_dispL H hk ((pR_congr (fun i hi => svS_low hi) (sv_pa (by omega))).trans ht) (by rw [(pS_congr (fun i hi => svS_low hi) (sv_pa (by omega))), svS_low (by decide)]; exact hA)) H.ob rfl rfl rfl ⟨by decide, by decide, Nat.le_of_ble_eq_true rfl⟩ (fun w2 hw2 => ?_)
  obtain ⟨σ2, H2, G0⟩ := hw2
  have G2 : ∀ a, (a < 1 ∨ 13 ≤ a) → w2 a = w1 a := fun a h => G0 a (by omega) (by omega)
  exact kw_ireturn nlX5_dispute (pc := 36) dX5_dispute_36 rfl rfl ⟨rfl, ⟨C1.setOff ⟨_, _, H2⟩ (fun i hi => kuf_ne (by omega)) (fun a h => G2 a (by omega)), fun a h => (G2 a (by omega)).trans (E1 a h)⟩, rfl⟩
set_option maxRecDepth 100000 in
set_option maxHeartbeats 4000000 in
theorem c5_dispR {w : kM} {s : Nat → Int32} {q : Nat} {kp bf : Nat → Int32} {T : Nat} (C : cls w s q kp bf T) {c : Nat} (hc : s 20 = nI c) (hc7 : c ≤ 7) {k : Nat} (hk : k < c) {z : Int32} (hz : 1 ≤ z ∧ z ≤ 999) {v : Int32} (ht : pR s (pa s (21 + 7 * k)) = v) (hv : ¬ v = 0) : kCtrW mX5_dispute 5 [.ref 0, .int (nI k), .int z] w (some (.int v)) (fun w' => cls w' (kuf (svS s q) 74 ((svS s q) 74 + 1)) (svN q) kp bf T ∧ ∀ a, 128 ≤ a → w' a = w a) := by
  refine kCtrW.of pl5 nlX5_dispute rfl (Nat.le_of_ble_eq_true rfl) (fun n => ?_)
  refine kw_aload_n (pc := 0) dX5_dispute_0 rfl ?_
  refine kw_iload_n (pc := 1) dX5_dispute_1 rfl ?_
  refine kw_callVw0 (pc := 2) dX5_dispute_2 lX5_61 (c5_parT C hc hc7 hk) C.1 rfl rfl rfl ⟨by decide, by decide, Nat.le_of_ble_eq_true rfl⟩ (fun wq hwq => ?_)
  have hwq : w = wq := Eq.symm hwq
  subst hwq
  refine kw_iload_n (pc := 5) dX5_dispute_5 rfl ?_
  refine kw_iconst (v := 1) (pc := 6) dX5_dispute_6 (by decide) ?_
  refine kw_sipush (v := 999) (pc := 7) dX5_dispute_7 (by decide) ?_
  refine kw_callSr (pc := 10) dX5_dispute_10 lX5_45 (c5_isInT hz) rfl rfl ⟨by decide, by decide, Nat.le_of_ble_eq_true rfl⟩ ?_
  refine kw_callSw0 (pc := 13) dX5_dispute_13 lX5_49 (c5_argT (by decide)) rfl rfl ⟨by decide, by decide, Nat.le_of_ble_eq_true rfl⟩ (fun wq hwq => ?_)
  have hwq : w = wq := Eq.symm hwq
  subst hwq
  refine kw_aload_n (pc := 16) dX5_dispute_16 rfl ?_
  refine kw_getfield (pc := 17) kfw dX5_dispute_17 fX5_27 C.1 rfl ?_
  refine kw_aload_n (pc := 20) dX5_dispute_20 rfl ?_
  refine kw_getfield (pc := 21) kfw dX5_dispute_21 fX5_10 C.1 rfl ?_
  refine kw_callVw0 (pc := 24) dX5_dispute_24 lX5_53 (c4_save C.2.2.1 C.2.1 (by decide)) C.2.2.1.ob rfl rfl rfl ⟨by decide, by decide, Nat.le_of_ble_eq_true rfl⟩ (fun w1 hw1 => ?_)
  obtain ⟨P1, G1⟩ := hw1
  have C1 := C.saved P1 G1
  have E1 : ∀ a, 128 ≤ a → w1 a = w a := fun a h => G1 a (by omega)
  obtain ⟨σ, H⟩ := C1.2.1.c ((svS_low (by decide)).trans hc) hc7
  refine kw_aload_n (pc := 27) dX5_dispute_27 rfl ?_
  refine kw_getfield (pc := 28) kfw dX5_dispute_28 fX5_10 C1.1 rfl ?_
  refine kw_iload_n (pc := 31) dX5_dispute_31 rfl ?_
  refine kw_iload_n (pc := 32) dX5_dispute_32 rfl ?_
  refine kw_callVw1 (pc := 33) dX5_dispute_33 lX5_81 (c1_dispR H hk ((pR_congr (fun i hi => svS_low hi) (sv_pa (by omega))).trans ht) hv) H.ob rfl rfl rfl ⟨by decide, by decide, Nat.le_of_ble_eq_true rfl⟩ (fun w2 hw2 => ?_)
  obtain ⟨σ2, H2, G0⟩ := hw2
  have G2 : ∀ a, (a < 1 ∨ 13 ≤ a) → w2 a = w1 a := fun a h => G0 a (by omega) (by omega)
  exact kw_ireturn nlX5_dispute (pc := 36) dX5_dispute_36 rfl rfl ⟨rfl, ⟨C1.setOff ⟨_, _, H2⟩ (fun i hi => kuf_ne (by omega)) (fun a h => G2 a (by omega)), fun a h => (G2 a (by omega)).trans (E1 a h)⟩, rfl⟩
set_option maxRecDepth 100000 in
set_option maxHeartbeats 4000000 in
theorem c5_dispA {w : kM} {s : Nat → Int32} {q : Nat} {kp bf : Nat → Int32} {T : Nat} (C : cls w s q kp bf T) {c : Nat} (hc : s 20 = nI c) (hc7 : c ≤ 7) {p z : Int32} (hp : ¬ ∃ k, k < c ∧ p = nI k) : kCtrX mX5_dispute 8 [.ref 0, .int p, .int z] w kIOB (fun w' => w' = w) := by
  refine kCtrX.of pl5 nlX5_dispute rfl (Nat.le_of_ble_eq_true rfl) (fun n => ?_)
  refine kw_aload_n (pc := 0) dX5_dispute_0 rfl ?_
  refine kw_iload_n (pc := 1) dX5_dispute_1 rfl ?_
  exact kw_callVx (pc := 2) dX5_dispute_2 lX5_61 (c5_parX C hc hc7 hp) C.1 rfl rfl rfl ⟨by decide, by decide, Nat.le_of_ble_eq_true rfl, by decide, by decide⟩ nlX5_dispute rfl (fun w' n' hp hn => ⟨rfl, hp, hn⟩)
set_option maxRecDepth 100000 in
set_option maxHeartbeats 4000000 in
theorem c5_dispB {w : kM} {s : Nat → Int32} {q : Nat} {kp bf : Nat → Int32} {T : Nat} (C : cls w s q kp bf T) {c : Nat} (hc : s 20 = nI c) (hc7 : c ≤ 7) {k : Nat} (hk : k < c) {z : Int32} (hz : ¬ (1 ≤ z ∧ z ≤ 999)) : kCtrX mX5_dispute 7 [.ref 0, .int (nI k), .int z] w kIAE (fun w' => w' = w) := by
  refine kCtrX.of pl5 nlX5_dispute rfl (Nat.le_of_ble_eq_true rfl) (fun n => ?_)
  refine kw_aload_n (pc := 0) dX5_dispute_0 rfl ?_
  refine kw_iload_n (pc := 1) dX5_dispute_1 rfl ?_
  refine kw_callVw0 (pc := 2) dX5_dispute_2 lX5_61 (c5_parT C hc hc7 hk) C.1 rfl rfl rfl ⟨by decide, by decide, Nat.le_of_ble_eq_true rfl⟩ (fun wq hwq => ?_)
  have hwq : w = wq := Eq.symm hwq
  subst hwq
  refine kw_iload_n (pc := 5) dX5_dispute_5 rfl ?_
  refine kw_iconst (v := 1) (pc := 6) dX5_dispute_6 (by decide) ?_
  refine kw_sipush (v := 999) (pc := 7) dX5_dispute_7 (by decide) ?_
  refine kw_callSr (pc := 10) dX5_dispute_10 lX5_45 (c5_isInF hz) rfl rfl ⟨by decide, by decide, Nat.le_of_ble_eq_true rfl⟩ ?_
  exact kw_callSx (pc := 13) dX5_dispute_13 lX5_49 (c5_argX rfl) rfl rfl ⟨by decide, by decide, Nat.le_of_ble_eq_true rfl, by decide, by decide⟩ nlX5_dispute rfl (fun w' n' hp hn => ⟨rfl, hp, hn⟩)
set_option maxRecDepth 100000 in
set_option maxHeartbeats 4000000 in
theorem c5_takeBack {w : kM} {s : Nat → Int32} {q : Nat} {kp bf : Nat → Int32} {T : Nat} (C : cls w s q kp bf T) {c : Nat} (hc : s 20 = nI c) (hc7 : c ≤ 7) {k : Nat} (hk : k < c) : kCtrW mX5_takeBack 3 [.ref 0, .int (nI k)] w (some (.int (nI (c - 1)))) (fun w' => cls w' (goneS (svS s q) k c) (svN q) kp bf T ∧ ∀ a, 128 ≤ a → w' a = w a) := by
  refine kCtrW.of pl5 nlX5_takeBack rfl (Nat.le_of_ble_eq_true rfl) (fun n => ?_)
  refine kw_aload_n (pc := 0) dX5_takeBack_0 rfl ?_
  refine kw_iload_n (pc := 1) dX5_takeBack_1 rfl ?_
  refine kw_callVw0 (pc := 2) dX5_takeBack_2 lX5_61 (c5_parT C hc hc7 hk) C.1 rfl rfl rfl ⟨by decide, by decide, Nat.le_of_ble_eq_true rfl⟩ (fun wq hwq => ?_)
  have hwq : w = wq := Eq.symm hwq
  subst hwq
  refine kw_aload_n (pc := 5) dX5_takeBack_5 rfl ?_
  refine kw_getfield (pc := 6) kfw dX5_takeBack_6 fX5_27 C.1 rfl ?_
  refine kw_aload_n (pc := 9) dX5_takeBack_9 rfl ?_
  refine kw_getfield (pc := 10) kfw dX5_takeBack_10 fX5_10 C.1 rfl ?_
  refine kw_callVw0 (pc := 13) dX5_takeBack_13 lX5_53 (c4_save C.2.2.1 C.2.1 (by decide)) C.2.2.1.ob rfl rfl rfl ⟨by decide, by decide, Nat.le_of_ble_eq_true rfl⟩ (fun w1 hw1 => ?_)
  obtain ⟨P1, G1⟩ := hw1
  have C1 := C.saved P1 G1
  have E1 : ∀ a, 128 ≤ a → w1 a = w a := fun a h => G1 a (by omega)
  obtain ⟨σ, H⟩ := C1.2.1.c ((svS_low (by decide)).trans hc) hc7
  refine kw_aload_n (pc := 16) dX5_takeBack_16 rfl ?_
  refine kw_getfield (pc := 17) kfw dX5_takeBack_17 fX5_10 C1.1 rfl ?_
  refine kw_iload_n (pc := 20) dX5_takeBack_20 rfl ?_
  refine kw_callVw0 (pc := 21) dX5_takeBack_21 lX5_85 (c1_remove H hk) H.ob rfl rfl rfl ⟨by decide, by decide, Nat.le_of_ble_eq_true rfl⟩ (fun w2 hw2 => ?_)
  obtain ⟨σ2, H2, G0⟩ := hw2
  have G2 : ∀ a, (a < 1 ∨ 13 ≤ a) → w2 a = w1 a := fun a h => G0 a (by omega) (by omega)
  have hx2 := (G2 0 (by omega)).trans C1.1
  refine kw_aload_n (pc := 24) dX5_takeBack_24 rfl ?_
  refine kw_getfield (pc := 25) kfw dX5_takeBack_25 fX5_10 hx2 rfl ?_
  refine kw_getfield (pc := 28) kfw dX5_takeBack_28 fX5_88 H2.ob rfl ?_
  exact kw_ireturn nlX5_takeBack (pc := 31) dX5_takeBack_31 rfl rfl ⟨kv_eq H2.sz, ⟨C1.setOff ⟨_, _, H2⟩ (fun i hi => goneS_hi hc7 (by omega)) (fun a h => G2 a (by omega)), fun a h => (G2 a (by omega)).trans (E1 a h)⟩, rfl⟩
set_option maxRecDepth 100000 in
set_option maxHeartbeats 4000000 in
theorem c5_takeBackA {w : kM} {s : Nat → Int32} {q : Nat} {kp bf : Nat → Int32} {T : Nat} (C : cls w s q kp bf T) {c : Nat} (hc : s 20 = nI c) (hc7 : c ≤ 7) {p : Int32} (hp : ¬ ∃ k, k < c ∧ p = nI k) : kCtrX mX5_takeBack 8 [.ref 0, .int p] w kIOB (fun w' => w' = w) := by
  refine kCtrX.of pl5 nlX5_takeBack rfl (Nat.le_of_ble_eq_true rfl) (fun n => ?_)
  refine kw_aload_n (pc := 0) dX5_takeBack_0 rfl ?_
  refine kw_iload_n (pc := 1) dX5_takeBack_1 rfl ?_
  exact kw_callVx (pc := 2) dX5_takeBack_2 lX5_61 (c5_parX C hc hc7 hp) C.1 rfl rfl rfl ⟨by decide, by decide, Nat.le_of_ble_eq_true rfl, by decide, by decide⟩ nlX5_takeBack rfl (fun w' n' hp hn => ⟨rfl, hp, hn⟩)
