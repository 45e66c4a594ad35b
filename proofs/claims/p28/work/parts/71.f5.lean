set_option maxRecDepth 100000 in
set_option maxHeartbeats 4000000 in
theorem c5_parcelOf {w : kM} {s : Nat → Int32} {q : Nat} {kp bf : Nat → Int32} {T : Nat} (C : cls w s q kp bf T) {c : Nat} (hc : s 20 = nI c) (hc7 : c ≤ 7) {k : Nat} (hk : k < c) {j : Nat} (hj : j < 11) (hf : fineP s (pa s (21 + 7 * k))) : kCtrR mX5_parcelOf 5 [.ref 0, .int (nI k), .int (nI j)] w (.int (prp s (pa s (21 + 7 * k)) j)) := by
  refine kCtrR.of pl5 nlX5_parcelOf rfl (Nat.le_of_ble_eq_true rfl) (fun n => ?_)
  obtain ⟨σ, H⟩ := C.2.1.c hc hc7
  refine kw_aload_n (pc := 0) dX5_parcelOf_0 rfl ?_
  refine kw_iload_n (pc := 1) dX5_parcelOf_1 rfl ?_
  refine kw_callVw0 (pc := 2) dX5_parcelOf_2 lX5_61 (c5_parT C hc hc7 hk) C.1 rfl rfl rfl ⟨by decide, by decide, Nat.le_of_ble_eq_true rfl⟩ (fun wq hwq => ?_)
  have hwq : w = wq := Eq.symm hwq
  subst hwq
  refine kw_iload_n (pc := 5) dX5_parcelOf_5 rfl ?_
  refine kw_iconst (v := 0) (pc := 6) dX5_parcelOf_6 (by decide) ?_
  refine kw_bipush (v := 10) (pc := 7) dX5_parcelOf_7 (by decide) ?_
  refine kw_callSr (pc := 9) dX5_parcelOf_9 lX5_45 (c5_isInT (in_nat (b := j) (n := 11) (by decide) hj)) rfl rfl ⟨by decide, by decide, Nat.le_of_ble_eq_true rfl⟩ ?_
  refine kw_callSw0 (pc := 12) dX5_parcelOf_12 lX5_49 (c5_argT (by decide)) rfl rfl ⟨by decide, by decide, Nat.le_of_ble_eq_true rfl⟩ (fun wq hwq => ?_)
  have hwq : w = wq := Eq.symm hwq
  subst hwq
  refine kw_aload_n (pc := 15) dX5_parcelOf_15 rfl ?_
  refine kw_getfield (pc := 16) kfw dX5_parcelOf_16 fX5_10 C.1 rfl ?_
  refine kw_aload_n (pc := 19) dX5_parcelOf_19 rfl ?_
  refine kw_getfield (pc := 20) kfw dX5_parcelOf_20 fX5_10 C.1 rfl ?_
  refine kw_getfield (pc := 23) kfw dX5_parcelOf_23 fX5_65 H.ob rfl ?_
  refine kw_iload_n (pc := 26) dX5_parcelOf_26 rfl ?_
  refine kw_aaloadT (pc := 27) (i := k) dX5_parcelOf_27 H.ps rfl rfl (by omega) (by decide) rfl ?_
  refine kw_iload_n (pc := 28) dX5_parcelOf_28 rfl ?_
  refine kw_callVr (pc := 29) dX5_parcelOf_29 lX5_156 (c1_number H (H.par k (by omega)) hf hj) H.ob rfl rfl rfl ⟨by decide, by decide, Nat.le_of_ble_eq_true rfl⟩ ?_
  exact kw_ireturn nlX5_parcelOf (pc := 32) dX5_parcelOf_32 rfl rfl (by exact ⟨rfl, rfl, rfl⟩)
set_option maxRecDepth 100000 in
set_option maxHeartbeats 4000000 in
theorem c5_parcelOfA {w : kM} {s : Nat → Int32} {q : Nat} {kp bf : Nat → Int32} {T : Nat} (C : cls w s q kp bf T) {c : Nat} (hc : s 20 = nI c) (hc7 : c ≤ 7) {p v : Int32} (hp : ¬ ∃ k, k < c ∧ p = nI k) : kCtrX mX5_parcelOf 8 [.ref 0, .int p, .int v] w kIOB (fun w' => w' = w) := by
  refine kCtrX.of pl5 nlX5_parcelOf rfl (Nat.le_of_ble_eq_true rfl) (fun n => ?_)
  refine kw_aload_n (pc := 0) dX5_parcelOf_0 rfl ?_
  refine kw_iload_n (pc := 1) dX5_parcelOf_1 rfl ?_
  exact kw_callVx (pc := 2) dX5_parcelOf_2 lX5_61 (c5_parX C hc hc7 hp) C.1 rfl rfl rfl ⟨by decide, by decide, Nat.le_of_ble_eq_true rfl, by decide, by decide⟩ nlX5_parcelOf rfl (fun w' n' hp hn => ⟨rfl, hp, hn⟩)
set_option maxRecDepth 100000 in
set_option maxHeartbeats 4000000 in
theorem c5_parcelOfB {w : kM} {s : Nat → Int32} {q : Nat} {kp bf : Nat → Int32} {T : Nat} (C : cls w s q kp bf T) {c : Nat} (hc : s 20 = nI c) (hc7 : c ≤ 7) {k : Nat} (hk : k < c) {v : Int32} (hv : ¬ (0 ≤ v ∧ v ≤ 10)) : kCtrX mX5_parcelOf 7 [.ref 0, .int (nI k), .int v] w kIAE (fun w' => w' = w) := by
  refine kCtrX.of pl5 nlX5_parcelOf rfl (Nat.le_of_ble_eq_true rfl) (fun n => ?_)
  refine kw_aload_n (pc := 0) dX5_parcelOf_0 rfl ?_
  refine kw_iload_n (pc := 1) dX5_parcelOf_1 rfl ?_
  refine kw_callVw0 (pc := 2) dX5_parcelOf_2 lX5_61 (c5_parT C hc hc7 hk) C.1 rfl rfl rfl ⟨by decide, by decide, Nat.le_of_ble_eq_true rfl⟩ (fun wq hwq => ?_)
  have hwq : w = wq := Eq.symm hwq
  subst hwq
  refine kw_iload_n (pc := 5) dX5_parcelOf_5 rfl ?_
  refine kw_iconst (v := 0) (pc := 6) dX5_parcelOf_6 (by decide) ?_
  refine kw_bipush (v := 10) (pc := 7) dX5_parcelOf_7 (by decide) ?_
  refine kw_callSr (pc := 9) dX5_parcelOf_9 lX5_45 (c5_isInF hv) rfl rfl ⟨by decide, by decide, Nat.le_of_ble_eq_true rfl⟩ ?_
  exact kw_callSx (pc := 12) dX5_parcelOf_12 lX5_49 (c5_argX rfl) rfl rfl ⟨by decide, by decide, Nat.le_of_ble_eq_true rfl, by decide, by decide⟩ nlX5_parcelOf rfl (fun w' n' hp hn => ⟨rfl, hp, hn⟩)
set_option maxRecDepth 100000 in
set_option maxHeartbeats 4000000 in
theorem c5_rate {w : kM} {s : Nat → Int32} {q : Nat} {kp bf : Nat → Int32} {T : Nat} (C : cls w s q kp bf T) {c : Nat} (hc : s 20 = nI c) (hc7 : c ≤ 7) {z : Int32} (hz : 1 ≤ z ∧ z ≤ 999) {v : Int32} (hv : 0 ≤ v ∧ v ≤ 1) {K : Nat} (hb : bnd z = nI K) (hK : K < 12) : kCtrR mX5_rate 3 [.ref 0, .int z, .int v] w (.int (if v = 0 then rM s (K + 1) else s (4 + rDn s K K))) := by
  refine kCtrR.of pl5 nlX5_rate rfl (Nat.le_of_ble_eq_true rfl) (fun n => ?_)
  obtain ⟨σ, H⟩ := C.2.1.c hc hc7
  refine kw_iload_n (pc := 0) dX5_rate_0 rfl ?_
  refine kw_iconst (v := 1) (pc := 1) dX5_rate_1 (by decide) ?_
  refine kw_sipush (v := 999) (pc := 2) dX5_rate_2 (by decide) ?_
  refine kw_callSr (pc := 5) dX5_rate_5 lX5_45 (c5_isInT hz) rfl rfl ⟨by decide, by decide, Nat.le_of_ble_eq_true rfl⟩ ?_
  refine kw_if_eq (tgt := 24) (pc := 8) dX5_rate_8 (by decide) (fun h8 => ?_) (fun h8 => ?_)
  · exact absurd h8 (by decide)
  · refine kw_iload_n (pc := 11) dX5_rate_11 rfl ?_
    refine kw_iconst (v := 0) (pc := 12) dX5_rate_12 (by decide) ?_
    refine kw_iconst (v := 1) (pc := 13) dX5_rate_13 (by decide) ?_
    refine kw_callSr (pc := 14) dX5_rate_14 lX5_45 (c5_isInT hv) rfl rfl ⟨by decide, by decide, Nat.le_of_ble_eq_true rfl⟩ ?_
    refine kw_if_eq (tgt := 24) (pc := 17) dX5_rate_17 (by decide) (fun h17 => ?_) (fun h17 => ?_)
    · exact absurd h17 (by decide)
    · refine kw_iconst (v := 1) (pc := 20) dX5_rate_20 (by decide) ?_
      refine kw_goto (tgt := 25) (pc := 21) dX5_rate_21 (by decide) ?_
      refine kw_callSw0 (pc := 25) dX5_rate_25 lX5_49 (c5_argT (by decide)) rfl rfl ⟨by decide, by decide, Nat.le_of_ble_eq_true rfl⟩ (fun wq hwq => ?_)
      have hwq : w = wq := Eq.symm hwq
      subst hwq
      refine kw_iload_n (pc := 28) dX5_rate_28 rfl ?_
      refine kw_if_ne (tgt := 43) (pc := 29) dX5_rate_29 (by decide) (fun h29 => ?_) (fun h29 => ?_)
      · refine kw_aload_n (pc := 43) dX5_rate_43 rfl ?_
        refine kw_getfield (pc := 44) kfw dX5_rate_44 fX5_10 C.1 rfl ?_
        refine kw_iload_n (pc := 47) dX5_rate_47 rfl ?_
        refine kw_callVr (pc := 48) dX5_rate_48 lX5_163 (c1_rateDown H hb hK) H.ob rfl rfl rfl ⟨by decide, by decide, Nat.le_of_ble_eq_true rfl⟩ ?_
        exact kw_ireturn nlX5_rate (pc := 51) dX5_rate_51 rfl rfl ⟨kv_eq (by first | rw [if_pos h29] | rw [if_neg h29]), rfl, rfl⟩
      · refine kw_aload_n (pc := 32) dX5_rate_32 rfl ?_
        refine kw_getfield (pc := 33) kfw dX5_rate_33 fX5_10 C.1 rfl ?_
        refine kw_iload_n (pc := 36) dX5_rate_36 rfl ?_
        refine kw_callVr (pc := 37) dX5_rate_37 lX5_160 (c1_rateUp H hb hK) H.ob rfl rfl rfl ⟨by decide, by decide, Nat.le_of_ble_eq_true rfl⟩ ?_
        refine kw_goto (tgt := 51) (pc := 40) dX5_rate_40 (by decide) ?_
        exact kw_ireturn nlX5_rate (pc := 51) dX5_rate_51 rfl rfl ⟨kv_eq (by first | rw [if_pos h29] | rw [if_neg h29]), rfl, rfl⟩
set_option maxRecDepth 100000 in
set_option maxHeartbeats 4000000 in
theorem c5_rateA {w : kM} {z v : Int32} (hz : ¬ ((1 ≤ z ∧ z ≤ 999) ∧ (0 ≤ v ∧ v ≤ 1))) : kCtrX mX5_rate 7 [.ref 0, .int z, .int v] w kIAE (fun w' => w' = w) := by
  refine kCtrX.of pl5 nlX5_rate rfl (Nat.le_of_ble_eq_true rfl) (fun n => ?_)
  refine kw_iload_n (pc := 0) dX5_rate_0 rfl ?_
  refine kw_iconst (v := 1) (pc := 1) dX5_rate_1 (by decide) ?_
  refine kw_sipush (v := 999) (pc := 2) dX5_rate_2 (by decide) ?_
  refine kw_callSr (pc := 5) dX5_rate_5 lX5_45 (c5_isIn _ _ _) rfl rfl ⟨by decide, by decide, Nat.le_of_ble_eq_true rfl⟩ ?_
  refine kw_if_eq (tgt := 24) (pc := 8) dX5_rate_8 (by decide) (fun h8 => ?_) (fun h8 => ?_)
  · refine kw_iconst (v := 0) (pc := 24) dX5_rate_24 (by decide) ?_
    exact kw_callSx (pc := 25) dX5_rate_25 lX5_49 (c5_argX rfl) rfl rfl ⟨by decide, by decide, Nat.le_of_ble_eq_true rfl, by decide, by decide⟩ nlX5_rate rfl (fun w' n' hp hn => ⟨rfl, hp, hn⟩)
  · refine kw_iload_n (pc := 11) dX5_rate_11 rfl ?_
    refine kw_iconst (v := 0) (pc := 12) dX5_rate_12 (by decide) ?_
    refine kw_iconst (v := 1) (pc := 13) dX5_rate_13 (by decide) ?_
    refine kw_callSr (pc := 14) dX5_rate_14 lX5_45 (c5_isIn _ _ _) rfl rfl ⟨by decide, by decide, Nat.le_of_ble_eq_true rfl⟩ ?_
    refine kw_if_eq (tgt := 24) (pc := 17) dX5_rate_17 (by decide) (fun h17 => ?_) (fun h17 => ?_)
    · refine kw_iconst (v := 0) (pc := 24) dX5_rate_24 (by decide) ?_
      exact kw_callSx (pc := 25) dX5_rate_25 lX5_49 (c5_argX rfl) rfl rfl ⟨by decide, by decide, Nat.le_of_ble_eq_true rfl, by decide, by decide⟩ nlX5_rate rfl (fun w' n' hp hn => ⟨rfl, hp, hn⟩)
    · refine kw_iconst (v := 1) (pc := 20) dX5_rate_20 (by decide) ?_
      refine kw_goto (tgt := 25) (pc := 21) dX5_rate_21 (by decide) ?_
      refine kw_callSw0 (pc := 25) dX5_rate_25 lX5_49 (c5_argT (by decide)) rfl rfl ⟨by decide, by decide, Nat.le_of_ble_eq_true rfl⟩ (fun wq hwq => ?_)
      have hwq : w = wq := Eq.symm hwq
      subst hwq
      exfalso; grind [b2i]
set_option maxRecDepth 100000 in
set_option maxHeartbeats 4000000 in
theorem c5_count {w : kM} {s : Nat → Int32} {q : Nat} {kp bf : Nat → Int32} {T : Nat} (C : cls w s q kp bf T) {c : Nat} (hc : s 20 = nI c) (hc7 : c ≤ 7) {j : Nat} (hj : j < 10) : kCtrR mX5_count 5 [.ref 0, .int (nI j)] w (.int (ctd s (nI q) c j)) := by
  refine kCtrR.of pl5 nlX5_count rfl (Nat.le_of_ble_eq_true rfl) (fun n => ?_)
  obtain ⟨σ, H⟩ := C.2.1.c hc hc7
  refine kw_iload_n (pc := 0) dX5_count_0 rfl ?_
  refine kw_iconst (v := 0) (pc := 1) dX5_count_1 (by decide) ?_
  refine kw_bipush (v := 9) (pc := 2) dX5_count_2 (by decide) ?_
  refine kw_callSr (pc := 4) dX5_count_4 lX5_45 (c5_isInT (in_nat (b := j) (n := 10) (by decide) hj)) rfl rfl ⟨by decide, by decide, Nat.le_of_ble_eq_true rfl⟩ ?_
  refine kw_callSw0 (pc := 7) dX5_count_7 lX5_49 (c5_argT (by decide)) rfl rfl ⟨by decide, by decide, Nat.le_of_ble_eq_true rfl⟩ (fun wq hwq => ?_)
  have hwq : w = wq := Eq.symm hwq
  subst hwq
  refine kw_iload_n (pc := 10) dX5_count_10 rfl ?_
  refine kw_bipush (v := 9) (pc := 11) dX5_count_11 (by decide) ?_
  refine kw_icmp_ne (tgt := 26) (pc := 13) dX5_count_13 (by decide) (fun h13 => ?_) (fun h13 => ?_)
  · have h13 := mt (kEqI (a := j) (b := 9) (by omega) (by omega) rfl (rfl : (9 : Int32) = nI 9)).mpr h13
    refine kw_aload_n (pc := 26) dX5_count_26 rfl ?_
    refine kw_getfield (pc := 27) kfw dX5_count_27 fX5_10 C.1 rfl ?_
    refine kw_iload_n (pc := 30) dX5_count_30 rfl ?_
    refine kw_callVr (pc := 31) dX5_count_31 lX5_166 (c1_tally H (nI q) (by omega)) H.ob rfl rfl rfl ⟨by decide, by decide, Nat.le_of_ble_eq_true rfl⟩ ?_
    exact kw_ireturn nlX5_count (pc := 34) dX5_count_34 rfl rfl ⟨kv_eq (by first | rfl | (subst h13; rfl)), rfl, rfl⟩
  · have h13 := (kEqI (a := j) (b := 9) (by omega) (by omega) rfl (rfl : (9 : Int32) = nI 9)).mp h13
    refine kw_aload_n (pc := 16) dX5_count_16 rfl ?_
    refine kw_getfield (pc := 17) kfw dX5_count_17 fX5_27 C.1 rfl ?_
    refine kw_getfield (pc := 20) kfw dX5_count_20 fX5_150 C.2.2.1.ob rfl ?_
    refine kw_goto (tgt := 34) (pc := 23) dX5_count_23 (by decide) ?_
    exact kw_ireturn nlX5_count (pc := 34) dX5_count_34 rfl rfl ⟨kv_eq (by first | rfl | (subst h13; rfl)), rfl, rfl⟩
set_option maxRecDepth 100000 in
set_option maxHeartbeats 4000000 in
theorem c5_countA {w : kM} {v : Int32} (hv : ¬ (0 ≤ v ∧ v ≤ 9)) : kCtrX mX5_count 7 [.ref 0, .int v] w kIAE (fun w' => w' = w) := by
  refine kCtrX.of pl5 nlX5_count rfl (Nat.le_of_ble_eq_true rfl) (fun n => ?_)
  refine kw_iload_n (pc := 0) dX5_count_0 rfl ?_
  refine kw_iconst (v := 0) (pc := 1) dX5_count_1 (by decide) ?_
  refine kw_bipush (v := 9) (pc := 2) dX5_count_2 (by decide) ?_
  refine kw_callSr (pc := 4) dX5_count_4 lX5_45 (c5_isInF hv) rfl rfl ⟨by decide, by decide, Nat.le_of_ble_eq_true rfl⟩ ?_
  exact kw_callSx (pc := 7) dX5_count_7 lX5_49 (c5_argX rfl) rfl rfl ⟨by decide, by decide, Nat.le_of_ble_eq_true rfl, by decide, by decide⟩ nlX5_count rfl (fun w' n' hp hn => ⟨rfl, hp, hn⟩)
set_option maxRecDepth 100000 in
set_option maxHeartbeats 4000000 in
theorem c5_setting {w : kM} {s : Nat → Int32} {q : Nat} {kp bf : Nat → Int32} {T : Nat} (C : cls w s q kp bf T) {c : Nat} (hc : s 20 = nI c) (hc7 : c ≤ 7) {j : Nat} (hj : j < 4) : kCtrR mX5_setting 1 [.ref 0, .int (nI j)] w (.int (s j)) := by
  refine kCtrR.of pl5 nlX5_setting rfl (Nat.le_of_ble_eq_true rfl) (fun n => ?_)
  obtain ⟨σ, H⟩ := C.2.1.c hc hc7
  refine kw_iload_n (pc := 0) dX5_setting_0 rfl ?_
  refine kw_iconst (v := 4) (pc := 1) dX5_setting_1 (by decide) ?_
  refine kw_callSw0 (pc := 2) dX5_setting_2 lX5_92 (c5_idxT ⟨nI_pos' (by omega), nI_lt (b := 4) (by omega) (by omega)⟩) rfl rfl ⟨by decide, by decide, Nat.le_of_ble_eq_true rfl⟩ (fun wq hwq => ?_)
  have hwq : w = wq := Eq.symm hwq
  subst hwq
  refine kw_aload_n (pc := 5) dX5_setting_5 rfl ?_
  refine kw_getfield (pc := 6) kfw dX5_setting_6 fX5_10 C.1 rfl ?_
  refine kw_getfield (pc := 9) kfw dX5_setting_9 fX5_109 H.ob rfl ?_
  refine kw_iload_n (pc := 12) dX5_setting_12 rfl ?_
  refine kw_ialoadT (pc := 13) (i := j) dX5_setting_13 H.se rfl (by omega) (by decide) ?_
  exact kw_ireturn nlX5_setting (pc := 14) dX5_setting_14 rfl rfl (by exact ⟨rfl, rfl, rfl⟩)
set_option maxRecDepth 100000 in
set_option maxHeartbeats 4000000 in
theorem c5_settingA {w : kM} {v : Int32} (hv : ¬ (0 ≤ v ∧ v < 4)) : kCtrX mX5_setting 7 [.ref 0, .int v] w kIOB (fun w' => w' = w) := by
  refine kCtrX.of pl5 nlX5_setting rfl (Nat.le_of_ble_eq_true rfl) (fun n => ?_)
  refine kw_iload_n (pc := 0) dX5_setting_0 rfl ?_
  refine kw_iconst (v := 4) (pc := 1) dX5_setting_1 (by decide) ?_
  exact kw_callSx (pc := 2) dX5_setting_2 lX5_92 (c5_idxX hv) rfl rfl ⟨by decide, by decide, Nat.le_of_ble_eq_true rfl, by decide, by decide⟩ nlX5_setting rfl (fun w' n' hp hn => ⟨rfl, hp, hn⟩)
set_option maxRecDepth 100000 in
set_option maxHeartbeats 4000000 in
theorem c5_cheapestWay {w : kM} {s : Nat → Int32} {q : Nat} {kp bf : Nat → Int32} {T : Nat} (C : cls w s q kp bf T) {c : Nat} (hc : s 20 = nI c) (hc7 : c ≤ 7) {k : Nat} (hk : k < c) (hf : ∀ v, v < 3 → fineP s (wyP (pa s (21 + 7 * k)) (nI v))) : kCtrR mX5_cheapestWay 4 [.ref 0, .int (nI k)] w (.int (wyF s (pa s (21 + 7 * k)))) := by
  refine kCtrR.of pl5 nlX5_cheapestWay rfl (Nat.le_of_ble_eq_true rfl) (fun n => ?_)
  obtain ⟨σ, H⟩ := C.2.1.c hc hc7
  refine kw_aload_n (pc := 0) dX5_cheapestWay_0 rfl ?_
  refine kw_iload_n (pc := 1) dX5_cheapestWay_1 rfl ?_
  refine kw_callVw0 (pc := 2) dX5_cheapestWay_2 lX5_61 (c5_parT C hc hc7 hk) C.1 rfl rfl rfl ⟨by decide, by decide, Nat.le_of_ble_eq_true rfl⟩ (fun wq hwq => ?_)
  have hwq : w = wq := Eq.symm hwq
  subst hwq
  refine kw_aload_n (pc := 5) dX5_cheapestWay_5 rfl ?_
  refine kw_getfield (pc := 6) kfw dX5_cheapestWay_6 fX5_10 C.1 rfl ?_
  refine kw_aload_n (pc := 9) dX5_cheapestWay_9 rfl ?_
  refine kw_getfield (pc := 10) kfw dX5_cheapestWay_10 fX5_10 C.1 rfl ?_
  refine kw_getfield (pc := 13) kfw dX5_cheapestWay_13 fX5_65 H.ob rfl ?_
  refine kw_iload_n (pc := 16) dX5_cheapestWay_16 rfl ?_
  refine kw_aaloadT (pc := 17) (i := k) dX5_cheapestWay_17 H.ps rfl rfl (by omega) (by decide) rfl ?_
  refine kw_callVr (pc := 18) dX5_cheapestWay_18 lX5_169 (c1_leastWay H (H.par k (by omega)) hf) H.ob rfl rfl rfl ⟨by decide, by decide, Nat.le_of_ble_eq_true rfl⟩ ?_
  exact kw_ireturn nlX5_cheapestWay (pc := 21) dX5_cheapestWay_21 rfl rfl (by exact ⟨rfl, rfl, rfl⟩)
set_option maxRecDepth 100000 in
set_option maxHeartbeats 4000000 in
theorem c5_cheapestWayA {w : kM} {s : Nat → Int32} {q : Nat} {kp bf : Nat → Int32} {T : Nat} (C : cls w s q kp bf T) {c : Nat} (hc : s 20 = nI c) (hc7 : c ≤ 7) {p : Int32} (hp : ¬ ∃ k, k < c ∧ p = nI k) : kCtrX mX5_cheapestWay 8 [.ref 0, .int p] w kIOB (fun w' => w' = w) := by
  refine kCtrX.of pl5 nlX5_cheapestWay rfl (Nat.le_of_ble_eq_true rfl) (fun n => ?_)
  refine kw_aload_n (pc := 0) dX5_cheapestWay_0 rfl ?_
  refine kw_iload_n (pc := 1) dX5_cheapestWay_1 rfl ?_
  exact kw_callVx (pc := 2) dX5_cheapestWay_2 lX5_61 (c5_parX C hc hc7 hp) C.1 rfl rfl rfl ⟨by decide, by decide, Nat.le_of_ble_eq_true rfl, by decide, by decide⟩ nlX5_cheapestWay rfl (fun w' n' hp hn => ⟨rfl, hp, hn⟩)
set_option maxRecDepth 100000 in
set_option maxHeartbeats 4000000 in
theorem c5_dearest {w : kM} {s : Nat → Int32} {q : Nat} {kp bf : Nat → Int32} {T : Nat} (C : cls w s q kp bf T) {c : Nat} (hc : s 20 = nI c) (hc7 : c ≤ 7) (hf : ∀ k, k < c → fineP s (pa s (21 + 7 * k))) : kCtrR mX5_dearest 4 [.ref 0] w (.int (oI (dpN s c))) := by
  refine kCtrR.of pl5 nlX5_dearest rfl (Nat.le_of_ble_eq_true rfl) (fun n => ?_)
  obtain ⟨σ, H⟩ := C.2.1.c hc hc7
  refine kw_aload_n (pc := 0) dX5_dearest_0 rfl ?_
  refine kw_getfield (pc := 1) kfw dX5_dearest_1 fX5_10 C.1 rfl ?_
  refine kw_callVr (pc := 4) dX5_dearest_4 lX5_186 (c1_dearest H hf) H.ob rfl rfl rfl ⟨by decide, by decide, Nat.le_of_ble_eq_true rfl⟩ ?_
  exact kw_ireturn nlX5_dearest (pc := 7) dX5_dearest_7 rfl rfl (by exact ⟨rfl, rfl, rfl⟩)
theorem bnS.bu {w : kM} {y z : Nat} {a : Nat → Int32} {G : Nat → Nat → Int32} {L X : Nat → Int32} (B : bnS w y z a G L) : bnS (kup w (y + 1) (kO 2 (pF X))) y z a G L := by
  obtain ⟨b1, -, b3, b4, b5, b6⟩ := B
  exact ⟨(kup_ne (by omega)).trans b1, ⟨X, kup_self _ _ _⟩, (kup_ne (by omega)).trans b3, (kup_ne (by omega)).trans b4, fun k hk => (kup_ne (by omega)).trans (b5 k hk), (kup_ne (by omega)).trans b6⟩
theorem set_sym {s a : Nat → Int32} {G : Nat → Nat → Int32} {c : Nat} (hc7 : c ≤ 7) (hA : alOK s c a) (hG : tgOK s c 0 G) : setC a (fun q t => G t q) c = setC (alS s) (bdS s) c :=
  setC_al hA (fun k hk j hj hne => (hG j k (fun e => hne e.symm) (Or.inl ⟨hj, hk⟩)).trans bdF_comm) hc7
theorem lfI_al {a a' : Nat → Int32} {bd bd' : Nat → Nat → Int32} {rec rec' : Nat → Int32} {p m : Nat} (h1 : a p = a' p) (h3 : ∀ x, rec x = rec' x) : ∀ r, (∀ q, p < q → q < p + 1 + r → bd p q = bd' p q) → lfI a bd rec p m r = lfI a' bd' rec' p m r
  | 0, _ => by
    unfold lfI
    rw [h1, h3]
  | r + 1, h2 => by
    rw [lfI_u, lfI_u, lfI_al h1 h3 r (fun q h4 h5 => h2 q h4 (by omega)), h2 (p + 1 + r) (by omega) (by omega), h3]
theorem lfF_al {a a' : Nat → Int32} {bd bd' : Nat → Nat → Int32} {c : Nat} (h1 : ∀ k, k < c → a k = a' k) (h2 : ∀ k, k < c → ∀ j, j < c → k ≠ j → bd k j = bd' k j) : ∀ (d p m : Nat), p + d = c → lfF a bd d p m = lfF a' bd' d p m
  | 0, _, _, _ => rfl
  | d + 1, p, m, h => by
    unfold lfF
    rw [lfF_al h1 h2 d (p + 1) m (by omega), lfI_al (h1 p (by omega)) (fun x => lfF_al h1 h2 d (p + 1) x (by omega)) d (fun q h4 h5 => h2 p (by omega) q (by omega) (by omega))]
set_option maxRecDepth 100000 in
set_option maxHeartbeats 4000000 in
theorem c5_ifBundled {w : kM} {s : Nat → Int32} {q : Nat} {kp bf : Nat → Int32} {T : Nat} (C : cls w s q kp bf T) {c : Nat} (hc : s 20 = nI c) (hc7 : c ≤ 7) (F : fineS s c) (hN : ∀ k, k < c → nnP (pa s (21 + 7 * k))) {k j : Nat} (hk : k < c) (hj : j < c) (hne : k ≠ j) : kCtrW mX5_ifBundled 4 [.ref 0, .int (nI k), .int (nI j)] w (some (.int (bdS s k j))) (fun w' => cls w' s q kp bf T ∧ ∀ a, 128 ≤ a → w' a = w a) := by
  refine kCtrW.of pl5 nlX5_ifBundled rfl (Nat.le_of_ble_eq_true rfl) (fun n => ?_)
  obtain ⟨σ, H⟩ := C.2.1.c hc hc7
  obtain ⟨z, a, G, L, B⟩ := C.2.2.2.2.2
  obtain ⟨X, hX⟩ := B.2.1
  refine kw_aload_n (pc := 0) dX5_ifBundled_0 rfl ?_
  refine kw_iload_n (pc := 1) dX5_ifBundled_1 rfl ?_
  refine kw_callVw0 (pc := 2) dX5_ifBundled_2 lX5_61 (c5_parT C hc hc7 hk) C.1 rfl rfl rfl ⟨by decide, by decide, Nat.le_of_ble_eq_true rfl⟩ (fun wq hwq => ?_)
  have hwq : w = wq := Eq.symm hwq
  subst hwq
  refine kw_aload_n (pc := 5) dX5_ifBundled_5 rfl ?_
  refine kw_iload_n (pc := 6) dX5_ifBundled_6 rfl ?_
  refine kw_callVw0 (pc := 7) dX5_ifBundled_7 lX5_61 (c5_parT C hc hc7 hj) C.1 rfl rfl rfl ⟨by decide, by decide, Nat.le_of_ble_eq_true rfl⟩ (fun wq hwq => ?_)
  have hwq : w = wq := Eq.symm hwq
  subst hwq
  refine kw_iload_n (pc := 10) dX5_ifBundled_10 rfl ?_
  refine kw_iload_n (pc := 11) dX5_ifBundled_11 rfl ?_
  refine kw_icmp_eq (tgt := 19) (pc := 12) dX5_ifBundled_12 (by decide) (fun h12 => ?_) (fun h12 => ?_)
  · have h12 := (kEqI (a := k) (b := j) (by omega) (by omega) rfl rfl).mp h12
    exfalso; omega
  · have h12 := mt (kEqI (a := k) (b := j) (by omega) (by omega) rfl rfl).mpr h12
    refine kw_iconst (v := 1) (pc := 15) dX5_ifBundled_15 (by decide) ?_
    refine kw_goto (tgt := 20) (pc := 16) dX5_ifBundled_16 (by decide) ?_
    refine kw_callSw0 (pc := 20) dX5_ifBundled_20 lX5_49 (c5_argT (by decide)) rfl rfl ⟨by decide, by decide, Nat.le_of_ble_eq_true rfl⟩ (fun wq hwq => ?_)
    have hwq : w = wq := Eq.symm hwq
    subst hwq
    refine kw_aload_n (pc := 23) dX5_ifBundled_23 rfl ?_
    refine kw_getfield (pc := 24) kfw dX5_ifBundled_24 fX5_41 C.1 rfl ?_
    refine kw_aload_n (pc := 27) dX5_ifBundled_27 rfl ?_
    refine kw_getfield (pc := 28) kfw dX5_ifBundled_28 fX5_10 C.1 rfl ?_
    refine kw_aload_n (pc := 31) dX5_ifBundled_31 rfl ?_
    refine kw_getfield (pc := 32) kfw dX5_ifBundled_32 fX5_10 C.1 rfl ?_
    refine kw_getfield (pc := 35) kfw dX5_ifBundled_35 fX5_65 H.ob rfl ?_
    refine kw_iload_n (pc := 38) dX5_ifBundled_38 rfl ?_
    refine kw_aaloadT (pc := 39) (i := k) dX5_ifBundled_39 H.ps rfl rfl (by omega) (by decide) rfl ?_
    refine kw_aload_n (pc := 40) dX5_ifBundled_40 rfl ?_
    refine kw_getfield (pc := 41) kfw dX5_ifBundled_41 fX5_10 C.1 rfl ?_
    refine kw_getfield (pc := 44) kfw dX5_ifBundled_44 fX5_65 H.ob rfl ?_
    refine kw_iload_n (pc := 47) dX5_ifBundled_47 rfl ?_
    refine kw_aaloadT (pc := 48) (i := j) dX5_ifBundled_48 H.ps rfl rfl (by omega) (by decide) rfl ?_
    have hl1 := H.lt k (by omega)
    have hl2 := H.lt j (by omega)
    refine kw_callVw1 (pc := 49) dX5_ifBundled_49 lX5_173 (c0_pair B.1 hX H (by omega) (H.par k hk) (H.par j hj) (by omega) (by omega) (nn_hn (hN k hk) (hN j hj)) (F.2.2.2 k hk j hj hne)) B.1 rfl rfl rfl ⟨by decide, by decide, Nat.le_of_ble_eq_true rfl⟩ (fun w1 hw1 => ?_)
    obtain ⟨X1, hw1⟩ := hw1
    exact kw_ireturn nlX5_ifBundled (pc := 52) dX5_ifBundled_52 rfl rfl ⟨rfl, ⟨C.setBun ⟨_, _, _, _, by rw [hw1]; exact B.bu⟩ (fun a h => by rw [hw1]; exact kup_ne (by omega)), fun a h => by rw [hw1]; exact kup_ne (by omega)⟩, rfl⟩
set_option maxRecDepth 100000 in
set_option maxHeartbeats 4000000 in
theorem c5_ifBundledA {w : kM} {s : Nat → Int32} {q : Nat} {kp bf : Nat → Int32} {T : Nat} (C : cls w s q kp bf T) {c : Nat} (hc : s 20 = nI c) (hc7 : c ≤ 7) {p v : Int32} (hp : ¬ ∃ k, k < c ∧ p = nI k) : kCtrX mX5_ifBundled 8 [.ref 0, .int p, .int v] w kIOB (fun w' => w' = w) := by
  refine kCtrX.of pl5 nlX5_ifBundled rfl (Nat.le_of_ble_eq_true rfl) (fun n => ?_)
  refine kw_aload_n (pc := 0) dX5_ifBundled_0 rfl ?_
  refine kw_iload_n (pc := 1) dX5_ifBundled_1 rfl ?_
  exact kw_callVx (pc := 2) dX5_ifBundled_2 lX5_61 (c5_parX C hc hc7 hp) C.1 rfl rfl rfl ⟨by decide, by decide, Nat.le_of_ble_eq_true rfl, by decide, by decide⟩ nlX5_ifBundled rfl (fun w' n' hp hn => ⟨rfl, hp, hn⟩)
set_option maxRecDepth 100000 in
set_option maxHeartbeats 4000000 in
theorem c5_ifBundledA2 {w : kM} {s : Nat → Int32} {q : Nat} {kp bf : Nat → Int32} {T : Nat} (C : cls w s q kp bf T) {c : Nat} (hc : s 20 = nI c) (hc7 : c ≤ 7) {k : Nat} (hk : k < c) {p : Int32} (hp : ¬ ∃ k, k < c ∧ p = nI k) : kCtrX mX5_ifBundled 8 [.ref 0, .int (nI k), .int p] w kIOB (fun w' => w' = w) := by
  refine kCtrX.of pl5 nlX5_ifBundled rfl (Nat.le_of_ble_eq_true rfl) (fun n => ?_)
  refine kw_aload_n (pc := 0) dX5_ifBundled_0 rfl ?_
  refine kw_iload_n (pc := 1) dX5_ifBundled_1 rfl ?_
  refine kw_callVw0 (pc := 2) dX5_ifBundled_2 lX5_61 (c5_parT C hc hc7 hk) C.1 rfl rfl rfl ⟨by decide, by decide, Nat.le_of_ble_eq_true rfl⟩ (fun wq hwq => ?_)
  have hwq : w = wq := Eq.symm hwq
  subst hwq
  refine kw_aload_n (pc := 5) dX5_ifBundled_5 rfl ?_
  refine kw_iload_n (pc := 6) dX5_ifBundled_6 rfl ?_
  exact kw_callVx (pc := 7) dX5_ifBundled_7 lX5_61 (c5_parX C hc hc7 hp) C.1 rfl rfl rfl ⟨by decide, by decide, Nat.le_of_ble_eq_true rfl, by decide, by decide⟩ nlX5_ifBundled rfl (fun w' n' hp hn => ⟨rfl, hp, hn⟩)
set_option maxRecDepth 100000 in
set_option maxHeartbeats 4000000 in
theorem c5_ifBundledB {w : kM} {s : Nat → Int32} {q : Nat} {kp bf : Nat → Int32} {T : Nat} (C : cls w s q kp bf T) {c : Nat} (hc : s 20 = nI c) (hc7 : c ≤ 7) {k : Nat} (hk : k < c) : kCtrX mX5_ifBundled 7 [.ref 0, .int (nI k), .int (nI k)] w kIAE (fun w' => w' = w) := by
  refine kCtrX.of pl5 nlX5_ifBundled rfl (Nat.le_of_ble_eq_true rfl) (fun n => ?_)
  refine kw_aload_n (pc := 0) dX5_ifBundled_0 rfl ?_
  refine kw_iload_n (pc := 1) dX5_ifBundled_1 rfl ?_
  refine kw_callVw0 (pc := 2) dX5_ifBundled_2 lX5_61 (c5_parT C hc hc7 hk) C.1 rfl rfl rfl ⟨by decide, by decide, Nat.le_of_ble_eq_true rfl⟩ (fun wq hwq => ?_)
  have hwq : w = wq := Eq.symm hwq
  subst hwq
  refine kw_aload_n (pc := 5) dX5_ifBundled_5 rfl ?_
  refine kw_iload_n (pc := 6) dX5_ifBundled_6 rfl ?_
  refine kw_callVw0 (pc := 7) dX5_ifBundled_7 lX5_61 (c5_parT C hc hc7 hk) C.1 rfl rfl rfl ⟨by decide, by decide, Nat.le_of_ble_eq_true rfl⟩ (fun wq hwq => ?_)
  have hwq : w = wq := Eq.symm hwq
  subst hwq
  refine kw_iload_n (pc := 10) dX5_ifBundled_10 rfl ?_
  refine kw_iload_n (pc := 11) dX5_ifBundled_11 rfl ?_
  refine kw_icmp_eq (tgt := 19) (pc := 12) dX5_ifBundled_12 (by decide) (fun h12 => ?_) (fun h12 => ?_)
  · have h12 := (kEqI (a := k) (b := k) (by omega) (by omega) rfl rfl).mp h12
    refine kw_iconst (v := 0) (pc := 19) dX5_ifBundled_19 (by decide) ?_
    exact kw_callSx (pc := 20) dX5_ifBundled_20 lX5_49 (c5_argX rfl) rfl rfl ⟨by decide, by decide, Nat.le_of_ble_eq_true rfl, by decide, by decide⟩ nlX5_ifBundled rfl (fun w' n' hp hn => ⟨rfl, hp, hn⟩)
  · have h12 := mt (kEqI (a := k) (b := k) (by omega) (by omega) rfl rfl).mpr h12
    exfalso; omega
set_option maxRecDepth 100000 in
set_option maxHeartbeats 4000000 in
theorem c5_cheapest {w : kM} {s : Nat → Int32} {q : Nat} {kp bf : Nat → Int32} {T : Nat} (C : cls w s q kp bf T) {c : Nat} (hc : s 20 = nI c) (hc7 : c ≤ 7) (F : fineS s c) (hN : ∀ k, k < c → nnP (pa s (21 + 7 * k))) {v : Int32} (hv : 0 ≤ v ∧ v ≤ 1) : kCtrW mX5_cheapest 10 [.ref 0, .int v] w (some (.int (if v = 0 then setC (alS s) (bdS s) c else lfF (alS s) (bdS s) c 0 0))) (fun w' => cls w' s q kp bf T ∧ ∀ a, 128 ≤ a → w' a = w a) := by
  refine kCtrW.of pl5 nlX5_cheapest rfl (Nat.le_of_ble_eq_true rfl) (fun n => ?_)
  obtain ⟨σ, H⟩ := C.2.1.c hc hc7
  obtain ⟨z, a, G, L, B⟩ := C.2.2.2.2.2
  refine kw_iload_n (pc := 0) dX5_cheapest_0 rfl ?_
  refine kw_iconst (v := 0) (pc := 1) dX5_cheapest_1 (by decide) ?_
  refine kw_iconst (v := 1) (pc := 2) dX5_cheapest_2 (by decide) ?_
  refine kw_callSr (pc := 3) dX5_cheapest_3 lX5_45 (c5_isInT hv) rfl rfl ⟨by decide, by decide, Nat.le_of_ble_eq_true rfl⟩ ?_
  refine kw_callSw0 (pc := 6) dX5_cheapest_6 lX5_49 (c5_argT (by decide)) rfl rfl ⟨by decide, by decide, Nat.le_of_ble_eq_true rfl⟩ (fun wq hwq => ?_)
  have hwq : w = wq := Eq.symm hwq
  subst hwq
  refine kw_aload_n (pc := 9) dX5_cheapest_9 rfl ?_
  refine kw_getfield (pc := 10) kfw dX5_cheapest_10 fX5_41 C.1 rfl ?_
  refine kw_aload_n (pc := 13) dX5_cheapest_13 rfl ?_
  refine kw_getfield (pc := 14) kfw dX5_cheapest_14 fX5_10 C.1 rfl ?_
  refine kw_callVw0 (pc := 17) dX5_cheapest_17 lX5_177 (c0_weigh B H (by omega) F hN) B.1 rfl rfl rfl ⟨by decide, by decide, Nat.le_of_ble_eq_true rfl⟩ (fun w1 hw1 => ?_)
  obtain ⟨⟨a1, G1, B1, hA, hG⟩, E1⟩ := hw1
  have hx1 := (E1 0 (by omega)).trans C.1
  have C1 : cls w1 s q kp bf T := C.setBun ⟨_, _, _, _, B1⟩ (fun a h => E1 a (by omega))
  refine kw_iload_n (pc := 20) dX5_cheapest_20 rfl ?_
  refine kw_if_ne (tgt := 34) (pc := 21) dX5_cheapest_21 (by decide) (fun h21 => ?_) (fun h21 => ?_)
  · refine kw_aload_n (pc := 34) dX5_cheapest_34 rfl ?_
    refine kw_getfield (pc := 35) kfw dX5_cheapest_35 fX5_41 hx1 rfl ?_
    refine kw_callVr (pc := 38) dX5_cheapest_38 lX5_183 (c0_byTrying B1 hc7) B1.1 rfl rfl rfl ⟨by decide, by decide, Nat.le_of_ble_eq_true rfl⟩ ?_
    exact kw_ireturn nlX5_cheapest (pc := 41) dX5_cheapest_41 rfl rfl ⟨kv_eq (by rw [if_neg h21]; exact lfF_al hA (fun k hk j hj hne => hG k j hne (Or.inl ⟨hk, hj⟩)) c 0 0 (Nat.zero_add c)), ⟨C1, fun a h => E1 a (by omega)⟩, rfl⟩
  · refine kw_aload_n (pc := 24) dX5_cheapest_24 rfl ?_
    refine kw_getfield (pc := 25) kfw dX5_cheapest_25 fX5_41 hx1 rfl ?_
    refine kw_callVw1 (pc := 28) dX5_cheapest_28 lX5_180 (c0_bySets B1 hc7) B1.1 rfl rfl rfl ⟨by decide, by decide, Nat.le_of_ble_eq_true rfl⟩ (fun w2 hw2 => ?_)
    obtain ⟨⟨L2, B2⟩, E2⟩ := hw2
    have C2 : cls w2 s q kp bf T := C1.setBun ⟨_, _, _, _, B2⟩ (fun a h => E2 a (by omega))
    refine kw_goto (tgt := 41) (pc := 31) dX5_cheapest_31 (by decide) ?_
    exact kw_ireturn nlX5_cheapest (pc := 41) dX5_cheapest_41 rfl rfl ⟨kv_eq (by rw [if_pos h21]; exact set_sym hc7 hA hG), ⟨C2, fun a h => (E2 a (by omega)).trans (E1 a (by omega))⟩, rfl⟩
set_option maxRecDepth 100000 in
set_option maxHeartbeats 4000000 in
theorem c5_cheapestA {w : kM} {v : Int32} (hv : ¬ (0 ≤ v ∧ v ≤ 1)) : kCtrX mX5_cheapest 7 [.ref 0, .int v] w kIAE (fun w' => w' = w) := by
  refine kCtrX.of pl5 nlX5_cheapest rfl (Nat.le_of_ble_eq_true rfl) (fun n => ?_)
  refine kw_iload_n (pc := 0) dX5_cheapest_0 rfl ?_
  refine kw_iconst (v := 0) (pc := 1) dX5_cheapest_1 (by decide) ?_
  refine kw_iconst (v := 1) (pc := 2) dX5_cheapest_2 (by decide) ?_
  refine kw_callSr (pc := 3) dX5_cheapest_3 lX5_45 (c5_isInF hv) rfl rfl ⟨by decide, by decide, Nat.le_of_ble_eq_true rfl⟩ ?_
  exact kw_callSx (pc := 6) dX5_cheapest_6 lX5_49 (c5_argX rfl) rfl rfl ⟨by decide, by decide, Nat.le_of_ble_eq_true rfl, by decide, by decide⟩ nlX5_cheapest rfl (fun w' n' hp hn => ⟨rfl, hp, hn⟩)
set_option maxRecDepth 100000 in
set_option maxHeartbeats 4000000 in
theorem c5_savedShare {w : kM} {s : Nat → Int32} {q : Nat} {kp bf : Nat → Int32} {T : Nat} (C : cls w s q kp bf T) {c : Nat} (hc : s 20 = nI c) (hc7 : c ≤ 7) (F : fineS s c) (hN : ∀ k, k < c → nnP (pa s (21 + 7 * k))) : kCtrW mX5_savedShare 5 [.ref 0] w (some (.double (shS s c))) (fun w' => cls w' s q kp bf T ∧ ∀ a, 128 ≤ a → w' a = w a) := by
  refine kCtrW.of pl5 nlX5_savedShare rfl (Nat.le_of_ble_eq_true rfl) (fun n => ?_)
  obtain ⟨σ, H⟩ := C.2.1.c hc hc7
  obtain ⟨z, a, G, L, B⟩ := C.2.2.2.2.2
  refine kw_aload_n (pc := 0) dX5_savedShare_0 rfl ?_
  refine kw_getfield (pc := 1) kfw dX5_savedShare_1 fX5_41 C.1 rfl ?_
  refine kw_aload_n (pc := 4) dX5_savedShare_4 rfl ?_
  refine kw_getfield (pc := 5) kfw dX5_savedShare_5 fX5_10 C.1 rfl ?_
  refine kw_callVw0 (pc := 8) dX5_savedShare_8 lX5_177 (c0_weigh B H (by omega) F hN) B.1 rfl rfl rfl ⟨by decide, by decide, Nat.le_of_ble_eq_true rfl⟩ (fun w1 hw1 => ?_)
  obtain ⟨⟨a1, G1, B1, hA, hG⟩, E1⟩ := hw1
  have hx1 := (E1 0 (by omega)).trans C.1
  have C1 : cls w1 s q kp bf T := C.setBun ⟨_, _, _, _, B1⟩ (fun a h => E1 a (by omega))
  refine kw_aload_n (pc := 11) dX5_savedShare_11 rfl ?_
  refine kw_getfield (pc := 12) kfw dX5_savedShare_12 fX5_41 hx1 rfl ?_
  refine kw_callVr (pc := 15) dX5_savedShare_15 lX5_189 (c0_cost B1 hc7) B1.1 rfl rfl rfl ⟨by decide, by decide, Nat.le_of_ble_eq_true rfl⟩ ?_
  refine kw_istore_n (pc := 18) dX5_savedShare_18 (by decide) rfl ?_
  refine kw_iload_n (pc := 19) dX5_savedShare_19 rfl ?_
  refine kw_if_ne (tgt := 25) (pc := 20) dX5_savedShare_20 (by decide) (fun h20 => ?_) (fun h20 => ?_)
  · refine kw_iload_n (pc := 25) dX5_savedShare_25 rfl ?_
    refine kw_aload_n (pc := 26) dX5_savedShare_26 rfl ?_
    refine kw_getfield (pc := 27) kfw dX5_savedShare_27 fX5_41 hx1 rfl ?_
    refine kw_callVw1 (pc := 30) dX5_savedShare_30 lX5_180 (c0_bySets B1 hc7) B1.1 rfl rfl rfl ⟨by decide, by decide, Nat.le_of_ble_eq_true rfl⟩ (fun w2 hw2 => ?_)
    obtain ⟨⟨L2, B2⟩, E2⟩ := hw2
    have C2 : cls w2 s q kp bf T := C1.setBun ⟨_, _, _, _, B2⟩ (fun a h => E2 a (by omega))
    refine kw_isub (pc := 33) dX5_savedShare_33 ?_
    refine kw_i2d (pc := 34) dX5_savedShare_34 ?_
    refine kw_iload_n (pc := 35) dX5_savedShare_35 rfl ?_
    refine kw_i2d (pc := 36) dX5_savedShare_36 ?_
    refine kw_ddiv (pc := 37) dX5_savedShare_37 (n64_of (ddiv_ok h20)) ?_
    exact kw_dreturn nlX5_savedShare (pc := 38) dX5_savedShare_38 rfl ⟨kv_eqd (by show _ = shV (sumF (alS s) c) (setC (alS s) (bdS s) c); rw [← sumF_al c hA, ← set_sym hc7 hA hG]; unfold shV; rw [if_neg h20]), ⟨C2, fun a h => (E2 a (by omega)).trans (E1 a (by omega))⟩, rfl⟩
  · refine kw_dconst0 (pc := 23) dX5_savedShare_23 ?_
    exact kw_dreturn nlX5_savedShare (pc := 24) dX5_savedShare_24 rfl ⟨kv_eqd (by show _ = shV (sumF (alS s) c) (setC (alS s) (bdS s) c); rw [← sumF_al c hA]; unfold shV; rw [if_pos h20]), ⟨C1, fun a h => E1 a (by omega)⟩, rfl⟩
