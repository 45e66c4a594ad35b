/-- a number between two others is a natural one -/
theorem rngN {v : Int32} {lo hi : Nat} (hl : lo < 2147483648) (hh : hi < 2147483648) (h : nI lo ≤ v ∧ v ≤ nI hi) : ∃ n, lo ≤ n ∧ n ≤ hi ∧ v = nI n := by
  obtain ⟨h1, h2⟩ := h
  rw [Int32.le_iff_toInt_le, nI_toInt (by assumption)] at h1 h2
  exact ⟨v.toInt.toNat, by omega, by omega, by rw [← Int32.toInt_inj, nI_toInt (by omega)]; omega⟩
theorem chr_all : ∀ n : Nat, n < 128 → ((nI n).toUInt32 % 65536).toInt32 = nI n := by decide +kernel
theorem chr_of {v : Int32} (h : 33 ≤ v ∧ v ≤ 126) : (v.toUInt32 % 65536).toInt32 = v := by
  obtain ⟨n, h1, h2, rfl⟩ := rngN (lo := 33) (hi := 126) (by decide) (by decide) h
  exact chr_all n (by omega)
theorem chr_nall : ∀ n : Nat, n < 128 → ((nI n).toUInt32.toNat &&& 65535) = n := by decide +kernel
theorem chr_nar {v : Int32} (h : 33 ≤ v ∧ v ≤ 126) : narrow .char (.int (v.toUInt32 % 65536).toInt32) = .int (v.toUInt32 % 65536).toInt32 := by
  obtain ⟨n, h1, h2, rfl⟩ := rngN (lo := 33) (hi := 126) (by decide) (by decide) h
  rw [chr_all n (by omega)]
  exact congrArg Value.int (chr_all n (by omega))
set_option maxRecDepth 100000 in
set_option maxHeartbeats 4000000 in
theorem c_append {w0 : kM} {mo : Nat} {s : Nat → Int32} {sv : Int32} {kp bf : Nat → Int32} {ty th : Int32} {co ma : Nat → Int32} {sp : Int32}  {v : Int32} (hv : 33 ≤ v ∧ v ≤ 126) {T : Nat} (hT : ty = nI T) (hT60 : T < 60) : kCtrW mX6_append 3 [.ref mo, .int v] (mM w0 mo s sv kp bf ty th co ma sp) (some (.int (nI (T + 1)))) (fun w' => mSt w0 mo s sv kp (kuf bf T v) (nI (T + 1)) 0 w') := by
  refine kCtrW.of pl6 nlX6_append rfl (Nat.le_of_ble_eq_true rfl) (fun n => ?_)
  refine kw_aload_n (pc := 0) dX6_append_0 rfl ?_
  refine kw_iload_n (pc := 1) dX6_append_1 rfl ?_
  refine kw_bipush (v := 33) (pc := 2) dX6_append_2 (by decide) ?_
  refine kw_bipush (v := 126) (pc := 4) dX6_append_4 (by decide) ?_
  refine kw_callSr (pc := 6) dX6_append_6 lX6_41 (c_inT hv) rfl rfl ⟨by decide, by decide, Nat.le_of_ble_eq_true rfl⟩ ?_
  refine kw_aload_n (pc := 9) dX6_append_9 rfl ?_
  refine kw_getfield (pc := 10) kfw dX6_append_10 fX6_135 mM_0 rfl ?_
  refine kw_bipush (v := 60) (pc := 13) dX6_append_13 (by decide) ?_
  refine kw_icmp_ge (tgt := 22) (pc := 15) dX6_append_15 (by decide) (fun h15 => ?_) (fun h15 => ?_)
  · have h15 := (kLeI (a := 60) (b := T) (by omega) (by omega) (rfl : (60 : Int32) = nI 60) hT).mp h15
    exfalso; omega
  · have h15 := mt (kLeI (a := 60) (b := T) (by omega) (by omega) (rfl : (60 : Int32) = nI 60) hT).mpr h15
    refine kw_iconst (v := 1) (pc := 18) dX6_append_18 (by decide) ?_
    refine kw_goto (tgt := 23) (pc := 19) dX6_append_19 (by decide) ?_
    refine kw_callVw1 (pc := 23) dX6_append_23 lX6_111 (c_goes1 (by decide) (by decide)) mM_0 rfl rfl rfl ⟨by decide, by decide, Nat.le_of_ble_eq_true rfl⟩ (fun w1 hw1 => ?_)
    have hw1 : w1 = _ := hw1
    subst hw1
    refine kw_if_ne (tgt := 31) (pc := 26) dX6_append_26 (by decide) (fun h26 => ?_) (fun h26 => ?_)
    · refine kw_aload_n (pc := 31) dX6_append_31 rfl ?_
      refine kw_getfield (pc := 32) kfw dX6_append_32 fX6_17 mM_0 rfl ?_
      refine kw_aload_n (pc := 35) dX6_append_35 rfl ?_
      refine kw_getfield (pc := 36) kfw dX6_append_36 fX6_135 mM_0 rfl ?_
      refine kw_iload_n (pc := 39) dX6_append_39 rfl ?_
      refine kw_i2c (pc := 40) dX6_append_40 ?_
      refine kw_castoreN (pc := 41) (i := T) dX6_append_41 mM_3 hT (by omega) (by decide) (chr_nar hv) (kW.eq mMs_3 rfl ?_)
      refine kw_aload_n (pc := 42) dX6_append_42 rfl ?_
      refine kw_dup (pc := 43) dX6_append_43 rfl ?_
      refine kw_getfield (pc := 44) kfw dX6_append_44 fX6_135 mM_0 rfl ?_
      refine kw_iconst (v := 1) (pc := 47) dX6_append_47 (by decide) ?_
      refine kw_iadd (pc := 48) dX6_append_48 ?_
      refine kw_putfield (pc := 49) kfw dX6_append_49 fX6_135 mM_0 (fun _ _ => rfl) (fun _ _ => rfl) (kW.eq mMf_4 rfl ?_)
      refine kw_aload_n (pc := 52) dX6_append_52 rfl ?_
      refine kw_getfield (pc := 53) kfw dX6_append_53 fX6_135 mM_0 rfl ?_
      exact kw_ireturn nlX6_append (pc := 56) dX6_append_56 rfl rfl ⟨kv_eq (kA hT rfl), ⟨_, _, _, _, by rw [chr_of hv, kA hT (rfl : (1 : Int32) = nI 1)], agr.rf⟩, rfl⟩
    · exact absurd h26 (by decide)
set_option maxRecDepth 100000 in
set_option maxHeartbeats 4000000 in
theorem c_appendA {w0 : kM} {mo : Nat} {s : Nat → Int32} {sv : Int32} {kp bf : Nat → Int32} {ty th : Int32} {co ma : Nat → Int32} {sp : Int32}  {v : Int32} (hv : ¬ (33 ≤ v ∧ v ≤ 126)) : kCtrW mX6_append 3 [.ref mo, .int v] (mM w0 mo s sv kp bf ty th co ma sp) (some (.int 0)) (fun w' => mSt w0 mo s sv kp bf ty 1 w') := by
  refine kCtrW.of pl6 nlX6_append rfl (Nat.le_of_ble_eq_true rfl) (fun n => ?_)
  refine kw_aload_n (pc := 0) dX6_append_0 rfl ?_
  refine kw_iload_n (pc := 1) dX6_append_1 rfl ?_
  refine kw_bipush (v := 33) (pc := 2) dX6_append_2 (by decide) ?_
  refine kw_bipush (v := 126) (pc := 4) dX6_append_4 (by decide) ?_
  refine kw_callSr (pc := 6) dX6_append_6 lX6_41 (c_inF hv) rfl rfl ⟨by decide, by decide, Nat.le_of_ble_eq_true rfl⟩ ?_
  refine kw_aload_n (pc := 9) dX6_append_9 rfl ?_
  refine kw_getfield (pc := 10) kfw dX6_append_10 fX6_135 mM_0 rfl ?_
  refine kw_bipush (v := 60) (pc := 13) dX6_append_13 (by decide) ?_
  refine kw_icmp_ge (tgt := 22) (pc := 15) dX6_append_15 (by decide) (fun h15 => ?_) (fun h15 => ?_)
  · refine kw_iconst (v := 0) (pc := 22) dX6_append_22 (by decide) ?_
    refine kw_callVw1 (pc := 23) dX6_append_23 lX6_111 (c_goesA rfl) mM_0 rfl rfl rfl ⟨by decide, by decide, Nat.le_of_ble_eq_true rfl⟩ (fun w1 hw1 => ?_)
    have hw1 : w1 = _ := hw1
    subst hw1
    refine kw_if_ne (tgt := 31) (pc := 26) dX6_append_26 (by decide) (fun h26 => ?_) (fun h26 => ?_)
    · exact absurd (by decide) h26
    · refine kw_iconst (v := 0) (pc := 29) dX6_append_29 (by decide) ?_
      exact kw_ireturn nlX6_append (pc := 30) dX6_append_30 rfl rfl ⟨kv_eq rfl, ⟨_, _, _, _, rfl, agr.rf⟩, rfl⟩
  · refine kw_iconst (v := 1) (pc := 18) dX6_append_18 (by decide) ?_
    refine kw_goto (tgt := 23) (pc := 19) dX6_append_19 (by decide) ?_
    refine kw_callVw1 (pc := 23) dX6_append_23 lX6_111 (c_goesA rfl) mM_0 rfl rfl rfl ⟨by decide, by decide, Nat.le_of_ble_eq_true rfl⟩ (fun w1 hw1 => ?_)
    have hw1 : w1 = _ := hw1
    subst hw1
    refine kw_if_ne (tgt := 31) (pc := 26) dX6_append_26 (by decide) (fun h26 => ?_) (fun h26 => ?_)
    · exact absurd (by decide) h26
    · refine kw_iconst (v := 0) (pc := 29) dX6_append_29 (by decide) ?_
      exact kw_ireturn nlX6_append (pc := 30) dX6_append_30 rfl rfl ⟨kv_eq rfl, ⟨_, _, _, _, rfl, agr.rf⟩, rfl⟩
set_option maxRecDepth 100000 in
set_option maxHeartbeats 4000000 in
theorem c_appendB {w0 : kM} {mo : Nat} {s : Nat → Int32} {sv : Int32} {kp bf : Nat → Int32} {ty th : Int32} {co ma : Nat → Int32} {sp : Int32}  {v : Int32} (hv : 33 ≤ v ∧ v ≤ 126) (hT : ty = nI 60) : kCtrW mX6_append 3 [.ref mo, .int v] (mM w0 mo s sv kp bf ty th co ma sp) (some (.int 0)) (fun w' => mSt w0 mo s sv kp bf ty 2 w') := by
  refine kCtrW.of pl6 nlX6_append rfl (Nat.le_of_ble_eq_true rfl) (fun n => ?_)
  refine kw_aload_n (pc := 0) dX6_append_0 rfl ?_
  refine kw_iload_n (pc := 1) dX6_append_1 rfl ?_
  refine kw_bipush (v := 33) (pc := 2) dX6_append_2 (by decide) ?_
  refine kw_bipush (v := 126) (pc := 4) dX6_append_4 (by decide) ?_
  refine kw_callSr (pc := 6) dX6_append_6 lX6_41 (c_inT hv) rfl rfl ⟨by decide, by decide, Nat.le_of_ble_eq_true rfl⟩ ?_
  refine kw_aload_n (pc := 9) dX6_append_9 rfl ?_
  refine kw_getfield (pc := 10) kfw dX6_append_10 fX6_135 mM_0 rfl ?_
  refine kw_bipush (v := 60) (pc := 13) dX6_append_13 (by decide) ?_
  refine kw_icmp_ge (tgt := 22) (pc := 15) dX6_append_15 (by decide) (fun h15 => ?_) (fun h15 => ?_)
  · have h15 := (kLeI (a := 60) (b := 60) (by omega) (by omega) (rfl : (60 : Int32) = nI 60) hT).mp h15
    refine kw_iconst (v := 0) (pc := 22) dX6_append_22 (by decide) ?_
    refine kw_callVw1 (pc := 23) dX6_append_23 lX6_111 (c_goesB (by decide) rfl) mM_0 rfl rfl rfl ⟨by decide, by decide, Nat.le_of_ble_eq_true rfl⟩ (fun w1 hw1 => ?_)
    have hw1 : w1 = _ := hw1
    subst hw1
    refine kw_if_ne (tgt := 31) (pc := 26) dX6_append_26 (by decide) (fun h26 => ?_) (fun h26 => ?_)
    · exact absurd (by decide) h26
    · refine kw_iconst (v := 0) (pc := 29) dX6_append_29 (by decide) ?_
      exact kw_ireturn nlX6_append (pc := 30) dX6_append_30 rfl rfl ⟨kv_eq rfl, ⟨_, _, _, _, rfl, agr.rf⟩, rfl⟩
  · have h15 := mt (kLeI (a := 60) (b := 60) (by omega) (by omega) (rfl : (60 : Int32) = nI 60) hT).mpr h15
    exfalso; omega
set_option maxRecDepth 100000 in
set_option maxHeartbeats 4000000 in
theorem c_clearBuffer {w0 : kM} {mo : Nat} {s : Nat → Int32} {sv : Int32} {kp bf : Nat → Int32} {ty th : Int32} {co ma : Nat → Int32} {sp : Int32}   : kCtrW mX6_clearBuffer 0 [.ref mo] (mM w0 mo s sv kp bf ty th co ma sp) (some (.int ty)) (fun w' => mSt w0 mo s sv kp bf 0 0 w') := by
  refine kCtrW.of pl6 nlX6_clearBuffer rfl (Nat.le_of_ble_eq_true rfl) (fun n => ?_)
  refine kw_aload_n (pc := 0) dX6_clearBuffer_0 rfl ?_
  refine kw_iconst (v := 0) (pc := 1) dX6_clearBuffer_1 (by decide) ?_
  refine kw_putfield (pc := 2) kfw dX6_clearBuffer_2 fX6_27 mM_0 (fun _ _ => rfl) (fun _ _ => rfl) (kW.eq mMf_5 rfl ?_)
  refine kw_aload_n (pc := 5) dX6_clearBuffer_5 rfl ?_
  refine kw_getfield (pc := 6) kfw dX6_clearBuffer_6 fX6_135 mM_0 rfl ?_
  refine kw_istore_n (pc := 9) dX6_clearBuffer_9 (by decide) rfl ?_
  refine kw_aload_n (pc := 10) dX6_clearBuffer_10 rfl ?_
  refine kw_iconst (v := 0) (pc := 11) dX6_clearBuffer_11 (by decide) ?_
  refine kw_putfield (pc := 12) kfw dX6_clearBuffer_12 fX6_135 mM_0 (fun _ _ => rfl) (fun _ _ => rfl) (kW.eq mMf_4 rfl ?_)
  refine kw_iload_n (pc := 15) dX6_clearBuffer_15 rfl ?_
  exact kw_ireturn nlX6_clearBuffer (pc := 16) dX6_clearBuffer_16 rfl rfl ⟨kv_eq rfl, ⟨_, _, _, _, rfl, agr.rf⟩, rfl⟩
theorem slot_of {b : Nat} (hb : b < 2) : nI b = 0 ∨ nI b = 1 := by
  match b, hb with
  | 0, _ => exact Or.inl rfl
  | 1, _ => exact Or.inr rfl
set_option maxRecDepth 100000 in
set_option maxHeartbeats 4000000 in
theorem c_keep {w0 : kM} {mo : Nat} {s : Nat → Int32} {sv : Int32} {kp bf : Nat → Int32} {ty th : Int32} {co ma : Nat → Int32} {sp : Int32}  {b : Nat} (hb : b < 2) : kCtrW mX6_keep 2 [.ref mo, .int (nI b)] (mM w0 mo s sv kp bf ty th co ma sp) (some (.int (s 70))) (fun w' => mSt w0 mo (cpR s 0 (7 + b) 75) sv (kuf kp b 1) bf ty 0 w') := by
  refine kCtrW.of pl6 nlX6_keep rfl (Nat.le_of_ble_eq_true rfl) (fun n => ?_)
  refine kw_aload_n (pc := 0) dX6_keep_0 rfl ?_
  refine kw_iload_n (pc := 1) dX6_keep_1 rfl ?_
  refine kw_callSr (pc := 2) dX6_keep_2 lX6_159 (c_isSlotT (slot_of hb)) rfl rfl ⟨by decide, by decide, Nat.le_of_ble_eq_true rfl⟩ ?_
  refine kw_iconst (v := 1) (pc := 5) dX6_keep_5 (by decide) ?_
  refine kw_callVw1 (pc := 6) dX6_keep_6 lX6_111 (c_goes1 (by decide) (by decide)) mM_0 rfl rfl rfl ⟨by decide, by decide, Nat.le_of_ble_eq_true rfl⟩ (fun w1 hw1 => ?_)
  have hw1 : w1 = _ := hw1
  subst hw1
  refine kw_if_ne (tgt := 14) (pc := 9) dX6_keep_9 (by decide) (fun h9 => ?_) (fun h9 => ?_)
  · refine kw_aload_n (pc := 14) dX6_keep_14 rfl ?_
    refine kw_iconst (v := 0) (pc := 15) dX6_keep_15 (by decide) ?_
    refine kw_bipush (v := 7) (pc := 16) dX6_keep_16 (by decide) ?_
    refine kw_iload_n (pc := 18) dX6_keep_18 rfl ?_
    refine kw_iadd (pc := 19) dX6_keep_19 ?_
    refine kw_callVw0 (pc := 20) dX6_keep_20 lX6_34 (c_copiesE (f := 0) (t := (7 + b)) (rfl : (0 : Int32) = nI 0) (kA (a := 7) (b := b) (rfl : (7 : Int32) = nI 7) rfl) (by omega) (by omega) (by omega)) mM_0 rfl rfl rfl ⟨by decide, by decide, Nat.le_of_ble_eq_true rfl⟩ (fun w1 hw1 => ?_)
    have hw1 : w1 = _ := hw1
    subst hw1
    refine kw_aload_n (pc := 23) dX6_keep_23 rfl ?_
    refine kw_getfield (pc := 24) kfw dX6_keep_24 fX6_13 mM_0 rfl ?_
    refine kw_iload_n (pc := 27) dX6_keep_27 rfl ?_
    refine kw_iconst (v := 1) (pc := 28) dX6_keep_28 (by decide) ?_
    refine kw_zastoreN (pc := 29) (i := b) dX6_keep_29 mM_2 rfl (by omega) (by decide) rfl (kW.eq mMs_2 rfl ?_)
    refine kw_aload_n (pc := 30) dX6_keep_30 rfl ?_
    refine kw_getfield (pc := 31) kfw dX6_keep_31 fX6_7 mM_0 rfl ?_
    refine kw_bipush (v := 70) (pc := 34) dX6_keep_34 (by decide) ?_
    refine kw_ialoadN (pc := 36) (i := 70) dX6_keep_36 mM_1 (rfl : (70 : Int32) = nI 70) (by omega) (by decide) ?_
    exact kw_ireturn nlX6_keep (pc := 37) dX6_keep_37 rfl rfl ⟨kv_eq (cpR_low (by omega)), ⟨_, _, _, _, rfl, agr.rf⟩, rfl⟩
  · exact absurd h9 (by decide)
set_option maxRecDepth 100000 in
set_option maxHeartbeats 4000000 in
theorem c_keepA {w0 : kM} {mo : Nat} {s : Nat → Int32} {sv : Int32} {kp bf : Nat → Int32} {ty th : Int32} {co ma : Nat → Int32} {sp : Int32}  {v : Int32} (hv : ¬ (v = 0 ∨ v = 1)) : kCtrW mX6_keep 2 [.ref mo, .int v] (mM w0 mo s sv kp bf ty th co ma sp) (some (.int 0)) (fun w' => mSt w0 mo s sv kp bf ty 1 w') := by
  refine kCtrW.of pl6 nlX6_keep rfl (Nat.le_of_ble_eq_true rfl) (fun n => ?_)
  refine kw_aload_n (pc := 0) dX6_keep_0 rfl ?_
  refine kw_iload_n (pc := 1) dX6_keep_1 rfl ?_
  refine kw_callSr (pc := 2) dX6_keep_2 lX6_159 (c_isSlotF hv) rfl rfl ⟨by decide, by decide, Nat.le_of_ble_eq_true rfl⟩ ?_
  refine kw_iconst (v := 1) (pc := 5) dX6_keep_5 (by decide) ?_
  refine kw_callVw1 (pc := 6) dX6_keep_6 lX6_111 (c_goesA rfl) mM_0 rfl rfl rfl ⟨by decide, by decide, Nat.le_of_ble_eq_true rfl⟩ (fun w1 hw1 => ?_)
  have hw1 : w1 = _ := hw1
  subst hw1
  refine kw_if_ne (tgt := 14) (pc := 9) dX6_keep_9 (by decide) (fun h9 => ?_) (fun h9 => ?_)
  · exact absurd (by decide) h9
  · refine kw_iconst (v := 0) (pc := 12) dX6_keep_12 (by decide) ?_
    exact kw_ireturn nlX6_keep (pc := 13) dX6_keep_13 rfl rfl ⟨kv_eq rfl, ⟨_, _, _, _, rfl, agr.rf⟩, rfl⟩
set_option maxRecDepth 100000 in
set_option maxHeartbeats 4000000 in
theorem c_goBack {w0 : kM} {mo : Nat} {s : Nat → Int32} {sv : Int32} {kp bf : Nat → Int32} {ty th : Int32} {co ma : Nat → Int32} {sp : Int32}  {q : Nat} (hq : sv = nI q) (hq6 : q ≤ 6) {b : Nat} (hb : b < 2) (hk : ¬ kp b = 0) : kCtrW mX6_goBack 3 [.ref mo, .int (nI b)] (mM w0 mo s sv kp bf ty th co ma sp) (some (.int (svS s q (75 * (7 + b) + 70)))) (fun w' => mSt w0 mo (cpR (svS s q) (7 + b) 0 75) (nI (svN q)) kp bf ty 0 w') := by
  refine kCtrW.of pl6 nlX6_goBack rfl (Nat.le_of_ble_eq_true rfl) (fun n => ?_)
  refine kw_aload_n (pc := 0) dX6_goBack_0 rfl ?_
  refine kw_iload_n (pc := 1) dX6_goBack_1 rfl ?_
  refine kw_callSr (pc := 2) dX6_goBack_2 lX6_159 (c_isSlotT (slot_of hb)) rfl rfl ⟨by decide, by decide, Nat.le_of_ble_eq_true rfl⟩ ?_
  refine kw_iload_n (pc := 5) dX6_goBack_5 rfl ?_
  refine kw_callSr (pc := 6) dX6_goBack_6 lX6_159 (c_isSlotT (slot_of hb)) rfl rfl ⟨by decide, by decide, Nat.le_of_ble_eq_true rfl⟩ ?_
  refine kw_if_eq (tgt := 25) (pc := 9) dX6_goBack_9 (by decide) (fun h9 => ?_) (fun h9 => ?_)
  · exact absurd h9 (by decide)
  · refine kw_aload_n (pc := 12) dX6_goBack_12 rfl ?_
    refine kw_getfield (pc := 13) kfw dX6_goBack_13 fX6_13 mM_0 rfl ?_
    refine kw_iload_n (pc := 16) dX6_goBack_16 rfl ?_
    refine kw_zaloadN (pc := 17) (i := b) dX6_goBack_17 mM_2 rfl (by omega) (by decide) ?_
    refine kw_if_eq (tgt := 25) (pc := 18) dX6_goBack_18 (by decide) (fun h18 => ?_) (fun h18 => ?_)
    · exact absurd h18 hk
    · refine kw_iconst (v := 1) (pc := 21) dX6_goBack_21 (by decide) ?_
      refine kw_goto (tgt := 26) (pc := 22) dX6_goBack_22 (by decide) ?_
      refine kw_callVw1 (pc := 26) dX6_goBack_26 lX6_111 (c_goes1 (by decide) (by decide)) mM_0 rfl rfl rfl ⟨by decide, by decide, Nat.le_of_ble_eq_true rfl⟩ (fun w1 hw1 => ?_)
      have hw1 : w1 = _ := hw1
      subst hw1
      refine kw_if_ne (tgt := 34) (pc := 29) dX6_goBack_29 (by decide) (fun h29 => ?_) (fun h29 => ?_)
      · refine kw_aload_n (pc := 34) dX6_goBack_34 rfl ?_
        refine kw_callVw0 (pc := 35) dX6_goBack_35 lX6_38 (c_saves hq hq6) mM_0 rfl rfl rfl ⟨by decide, by decide, Nat.le_of_ble_eq_true rfl⟩ (fun w1 hw1 => ?_)
        have hw1 : w1 = _ := hw1
        subst hw1
        refine kw_aload_n (pc := 38) dX6_goBack_38 rfl ?_
        refine kw_bipush (v := 7) (pc := 39) dX6_goBack_39 (by decide) ?_
        refine kw_iload_n (pc := 41) dX6_goBack_41 rfl ?_
        refine kw_iadd (pc := 42) dX6_goBack_42 ?_
        refine kw_iconst (v := 0) (pc := 43) dX6_goBack_43 (by decide) ?_
        refine kw_callVw0 (pc := 44) dX6_goBack_44 lX6_34 (c_copiesE (f := (7 + b)) (t := 0) (kA (a := 7) (b := b) (rfl : (7 : Int32) = nI 7) rfl) (rfl : (0 : Int32) = nI 0) (by omega) (by omega) (by omega)) mM_0 rfl rfl rfl ⟨by decide, by decide, Nat.le_of_ble_eq_true rfl⟩ (fun w1 hw1 => ?_)
        have hw1 : w1 = _ := hw1
        subst hw1
        refine kw_aload_n (pc := 47) dX6_goBack_47 rfl ?_
        refine kw_getfield (pc := 48) kfw dX6_goBack_48 fX6_7 mM_0 rfl ?_
        refine kw_bipush (v := 70) (pc := 51) dX6_goBack_51 (by decide) ?_
        refine kw_ialoadN (pc := 53) (i := 70) dX6_goBack_53 mM_1 (rfl : (70 : Int32) = nI 70) (by omega) (by decide) ?_
        exact kw_ireturn nlX6_goBack (pc := 54) dX6_goBack_54 rfl rfl ⟨kv_eq (by unfold cpR; rw [if_pos (by omega)]), ⟨_, _, _, _, rfl, agr.rf⟩, rfl⟩
      · exact absurd h29 (by decide)
set_option maxRecDepth 100000 in
set_option maxHeartbeats 4000000 in
theorem c_goBackA {w0 : kM} {mo : Nat} {s : Nat → Int32} {sv : Int32} {kp bf : Nat → Int32} {ty th : Int32} {co ma : Nat → Int32} {sp : Int32}  {v : Int32} (hv : ¬ (v = 0 ∨ v = 1)) : kCtrW mX6_goBack 3 [.ref mo, .int v] (mM w0 mo s sv kp bf ty th co ma sp) (some (.int 0)) (fun w' => mSt w0 mo s sv kp bf ty 1 w') := by
  refine kCtrW.of pl6 nlX6_goBack rfl (Nat.le_of_ble_eq_true rfl) (fun n => ?_)
  refine kw_aload_n (pc := 0) dX6_goBack_0 rfl ?_
  refine kw_iload_n (pc := 1) dX6_goBack_1 rfl ?_
  refine kw_callSr (pc := 2) dX6_goBack_2 lX6_159 (c_isSlotF hv) rfl rfl ⟨by decide, by decide, Nat.le_of_ble_eq_true rfl⟩ ?_
  refine kw_iload_n (pc := 5) dX6_goBack_5 rfl ?_
  refine kw_callSr (pc := 6) dX6_goBack_6 lX6_159 (c_isSlotF hv) rfl rfl ⟨by decide, by decide, Nat.le_of_ble_eq_true rfl⟩ ?_
  refine kw_if_eq (tgt := 25) (pc := 9) dX6_goBack_9 (by decide) (fun h9 => ?_) (fun h9 => ?_)
  · refine kw_iconst (v := 0) (pc := 25) dX6_goBack_25 (by decide) ?_
    refine kw_callVw1 (pc := 26) dX6_goBack_26 lX6_111 (c_goesA rfl) mM_0 rfl rfl rfl ⟨by decide, by decide, Nat.le_of_ble_eq_true rfl⟩ (fun w1 hw1 => ?_)
    have hw1 : w1 = _ := hw1
    subst hw1
    refine kw_if_ne (tgt := 34) (pc := 29) dX6_goBack_29 (by decide) (fun h29 => ?_) (fun h29 => ?_)
    · exact absurd (by decide) h29
    · refine kw_iconst (v := 0) (pc := 32) dX6_goBack_32 (by decide) ?_
      exact kw_ireturn nlX6_goBack (pc := 33) dX6_goBack_33 rfl rfl ⟨kv_eq rfl, ⟨_, _, _, _, rfl, agr.rf⟩, rfl⟩
  · exact absurd (by decide) h9
set_option maxRecDepth 100000 in
set_option maxHeartbeats 4000000 in
theorem c_goBackB {w0 : kM} {mo : Nat} {s : Nat → Int32} {sv : Int32} {kp bf : Nat → Int32} {ty th : Int32} {co ma : Nat → Int32} {sp : Int32}  {b : Nat} (hb : b < 2) (hk : kp b = 0) : kCtrW mX6_goBack 3 [.ref mo, .int (nI b)] (mM w0 mo s sv kp bf ty th co ma sp) (some (.int 0)) (fun w' => mSt w0 mo s sv kp bf ty 2 w') := by
  refine kCtrW.of pl6 nlX6_goBack rfl (Nat.le_of_ble_eq_true rfl) (fun n => ?_)
  refine kw_aload_n (pc := 0) dX6_goBack_0 rfl ?_
  refine kw_iload_n (pc := 1) dX6_goBack_1 rfl ?_
  refine kw_callSr (pc := 2) dX6_goBack_2 lX6_159 (c_isSlotT (slot_of hb)) rfl rfl ⟨by decide, by decide, Nat.le_of_ble_eq_true rfl⟩ ?_
  refine kw_iload_n (pc := 5) dX6_goBack_5 rfl ?_
  refine kw_callSr (pc := 6) dX6_goBack_6 lX6_159 (c_isSlotT (slot_of hb)) rfl rfl ⟨by decide, by decide, Nat.le_of_ble_eq_true rfl⟩ ?_
  refine kw_if_eq (tgt := 25) (pc := 9) dX6_goBack_9 (by decide) (fun h9 => ?_) (fun h9 => ?_)
  · exact absurd h9 (by decide)
  · refine kw_aload_n (pc := 12) dX6_goBack_12 rfl ?_
    refine kw_getfield (pc := 13) kfw dX6_goBack_13 fX6_13 mM_0 rfl ?_
    refine kw_iload_n (pc := 16) dX6_goBack_16 rfl ?_
    refine kw_zaloadN (pc := 17) (i := b) dX6_goBack_17 mM_2 rfl (by omega) (by decide) ?_
    refine kw_if_eq (tgt := 25) (pc := 18) dX6_goBack_18 (by decide) (fun h18 => ?_) (fun h18 => ?_)
    · refine kw_iconst (v := 0) (pc := 25) dX6_goBack_25 (by decide) ?_
      refine kw_callVw1 (pc := 26) dX6_goBack_26 lX6_111 (c_goesB (by decide) rfl) mM_0 rfl rfl rfl ⟨by decide, by decide, Nat.le_of_ble_eq_true rfl⟩ (fun w1 hw1 => ?_)
      have hw1 : w1 = _ := hw1
      subst hw1
      refine kw_if_ne (tgt := 34) (pc := 29) dX6_goBack_29 (by decide) (fun h29 => ?_) (fun h29 => ?_)
      · exact absurd (by decide) h29
      · refine kw_iconst (v := 0) (pc := 32) dX6_goBack_32 (by decide) ?_
        exact kw_ireturn nlX6_goBack (pc := 33) dX6_goBack_33 rfl rfl ⟨kv_eq rfl, ⟨_, _, _, _, rfl, agr.rf⟩, rfl⟩
    · exact absurd hk h18
set_option maxRecDepth 100000 in
set_option maxHeartbeats 4000000 in
theorem c_undo {w0 : kM} {mo : Nat} {s : Nat → Int32} {sv : Int32} {kp bf : Nat → Int32} {ty th : Int32} {co ma : Nat → Int32} {sp : Int32}  {q : Nat} (hq : sv = nI (q + 1)) (hq6 : q < 6) : kCtrW mX6_undo 2 [.ref mo] (mM w0 mo s sv kp bf ty th co ma sp) (some (.int (nI q))) (fun w' => mSt w0 mo (cpR s (q + 1) 0 75) (nI q) kp bf ty 0 w') := by
  refine kCtrW.of pl6 nlX6_undo rfl (Nat.le_of_ble_eq_true rfl) (fun n => ?_)
  refine kw_aload_n (pc := 0) dX6_undo_0 rfl ?_
  refine kw_aload_n (pc := 1) dX6_undo_1 rfl ?_
  refine kw_getfield (pc := 2) kfw dX6_undo_2 fX6_31 mM_0 rfl ?_
  refine kw_if_le (tgt := 12) (pc := 5) dX6_undo_5 (by decide) (fun h5 => ?_) (fun h5 => ?_)
  · have h5 := (kLeI (a := (q + 1)) (b := 0) (by omega) (by omega) hq (rfl : (0 : Int32) = nI 0)).mp h5
    exfalso; omega
  · have h5 := mt (kLeI (a := (q + 1)) (b := 0) (by omega) (by omega) hq (rfl : (0 : Int32) = nI 0)).mpr h5
    refine kw_iconst (v := 1) (pc := 8) dX6_undo_8 (by decide) ?_
    refine kw_goto (tgt := 13) (pc := 9) dX6_undo_9 (by decide) ?_
    refine kw_iconst (v := 1) (pc := 13) dX6_undo_13 (by decide) ?_
    refine kw_callVw1 (pc := 14) dX6_undo_14 lX6_111 (c_goes1 (by decide) (by decide)) mM_0 rfl rfl rfl ⟨by decide, by decide, Nat.le_of_ble_eq_true rfl⟩ (fun w1 hw1 => ?_)
    have hw1 : w1 = _ := hw1
    subst hw1
    refine kw_if_ne (tgt := 22) (pc := 17) dX6_undo_17 (by decide) (fun h17 => ?_) (fun h17 => ?_)
    · refine kw_aload_n (pc := 22) dX6_undo_22 rfl ?_
      refine kw_aload_n (pc := 23) dX6_undo_23 rfl ?_
      refine kw_getfield (pc := 24) kfw dX6_undo_24 fX6_31 mM_0 rfl ?_
      refine kw_iconst (v := 0) (pc := 27) dX6_undo_27 (by decide) ?_
      refine kw_callVw0 (pc := 28) dX6_undo_28 lX6_34 (c_copiesE (f := (q + 1)) (t := 0) hq (rfl : (0 : Int32) = nI 0) (by omega) (by omega) (by omega)) mM_0 rfl rfl rfl ⟨by decide, by decide, Nat.le_of_ble_eq_true rfl⟩ (fun w1 hw1 => ?_)
      have hw1 : w1 = _ := hw1
      subst hw1
      refine kw_aload_n (pc := 31) dX6_undo_31 rfl ?_
      refine kw_dup (pc := 32) dX6_undo_32 rfl ?_
      refine kw_getfield (pc := 33) kfw dX6_undo_33 fX6_31 mM_0 rfl ?_
      refine kw_iconst (v := 1) (pc := 36) dX6_undo_36 (by decide) ?_
      refine kw_isub (pc := 37) dX6_undo_37 ?_
      refine kw_putfield (pc := 38) kfw dX6_undo_38 fX6_31 mM_0 (fun _ _ => rfl) (fun _ _ => rfl) (kW.eq mMf_1 rfl ?_)
      refine kw_aload_n (pc := 41) dX6_undo_41 rfl ?_
      refine kw_getfield (pc := 42) kfw dX6_undo_42 fX6_31 mM_0 rfl ?_
      exact kw_ireturn nlX6_undo (pc := 45) dX6_undo_45 rfl rfl ⟨kv_eq (kS (a := q + 1) (b := 1) hq (rfl : (1 : Int32) = nI 1) (Nat.le_add_left 1 q)), ⟨_, _, _, _, by rw [kS (a := q + 1) (b := 1) hq (rfl : (1 : Int32) = nI 1) (Nat.le_add_left 1 q)]; rfl, agr.rf⟩, rfl⟩
    · exact absurd h17 (by decide)
set_option maxRecDepth 100000 in
set_option maxHeartbeats 4000000 in
theorem c_undoA {w0 : kM} {mo : Nat} {s : Nat → Int32} {sv : Int32} {kp bf : Nat → Int32} {ty th : Int32} {co ma : Nat → Int32} {sp : Int32}  (hq : sv = nI 0) : kCtrW mX6_undo 2 [.ref mo] (mM w0 mo s sv kp bf ty th co ma sp) (some (.int 0)) (fun w' => mSt w0 mo s sv kp bf ty 1 w') := by
  refine kCtrW.of pl6 nlX6_undo rfl (Nat.le_of_ble_eq_true rfl) (fun n => ?_)
  refine kw_aload_n (pc := 0) dX6_undo_0 rfl ?_
  refine kw_aload_n (pc := 1) dX6_undo_1 rfl ?_
  refine kw_getfield (pc := 2) kfw dX6_undo_2 fX6_31 mM_0 rfl ?_
  refine kw_if_le (tgt := 12) (pc := 5) dX6_undo_5 (by decide) (fun h5 => ?_) (fun h5 => ?_)
  · have h5 := (kLeI (a := 0) (b := 0) (by omega) (by omega) hq (rfl : (0 : Int32) = nI 0)).mp h5
    refine kw_iconst (v := 0) (pc := 12) dX6_undo_12 (by decide) ?_
    refine kw_iconst (v := 1) (pc := 13) dX6_undo_13 (by decide) ?_
    refine kw_callVw1 (pc := 14) dX6_undo_14 lX6_111 (c_goesA rfl) mM_0 rfl rfl rfl ⟨by decide, by decide, Nat.le_of_ble_eq_true rfl⟩ (fun w1 hw1 => ?_)
    have hw1 : w1 = _ := hw1
    subst hw1
    refine kw_if_ne (tgt := 22) (pc := 17) dX6_undo_17 (by decide) (fun h17 => ?_) (fun h17 => ?_)
    · exact absurd (by decide) h17
    · refine kw_iconst (v := 0) (pc := 20) dX6_undo_20 (by decide) ?_
      exact kw_ireturn nlX6_undo (pc := 21) dX6_undo_21 rfl rfl ⟨kv_eq rfl, ⟨_, _, _, _, rfl, agr.rf⟩, rfl⟩
  · have h5 := mt (kLeI (a := 0) (b := 0) (by omega) (by omega) hq (rfl : (0 : Int32) = nI 0)).mpr h5
    exfalso; omega
set_option maxRecDepth 100000 in
set_option maxHeartbeats 4000000 in
theorem c_parcelOf {w0 : kM} {mo : Nat} {s : Nat → Int32} {sv : Int32} {kp bf : Nat → Int32} {ty th : Int32} {co ma : Nat → Int32} {sp : Int32}  {c : Nat} (hc : s 20 = nI c) (hc7 : c ≤ 7) {k j : Nat} (hk : k < c) (hj : j < 11) (hf : fineP s (pa s (21 + 7 * k))) : kCtrW mX6_parcelOf 5 [.ref mo, .int (nI k), .int (nI j)] (mM w0 mo s sv kp bf ty th co ma sp) (some (.int (prp s (pa s (21 + 7 * k)) j))) (fun w' => mSt w0 mo s sv kp bf ty 0 w') := by
  refine kCtrW.of pl6 nlX6_parcelOf rfl (Nat.le_of_ble_eq_true rfl) (fun n => ?_)
  refine kw_aload_n (pc := 0) dX6_parcelOf_0 rfl ?_
  refine kw_aload_n (pc := 1) dX6_parcelOf_1 rfl ?_
  refine kw_iload_n (pc := 2) dX6_parcelOf_2 rfl ?_
  refine kw_callVr (pc := 3) dX6_parcelOf_3 lX6_119 (c_isParcelT hc hc7 hk) mM_0 rfl rfl rfl ⟨by decide, by decide, Nat.le_of_ble_eq_true rfl⟩ ?_
  refine kw_iload_n (pc := 6) dX6_parcelOf_6 rfl ?_
  refine kw_iconst (v := 0) (pc := 7) dX6_parcelOf_7 (by decide) ?_
  refine kw_bipush (v := 10) (pc := 8) dX6_parcelOf_8 (by decide) ?_
  refine kw_callSr (pc := 10) dX6_parcelOf_10 lX6_41 (c_inT (in_nat (b := j) (by decide) hj)) rfl rfl ⟨by decide, by decide, Nat.le_of_ble_eq_true rfl⟩ ?_
  refine kw_callVw1 (pc := 13) dX6_parcelOf_13 lX6_111 (c_goes1 (by decide) (by decide)) mM_0 rfl rfl rfl ⟨by decide, by decide, Nat.le_of_ble_eq_true rfl⟩ (fun w1 hw1 => ?_)
  have hw1 : w1 = _ := hw1
  subst hw1
  refine kw_if_eq (tgt := 28) (pc := 16) dX6_parcelOf_16 (by decide) (fun h16 => ?_) (fun h16 => ?_)
  · exact absurd h16 (by decide)
  · refine kw_aload_n (pc := 19) dX6_parcelOf_19 rfl ?_
    refine kw_iload_n (pc := 20) dX6_parcelOf_20 rfl ?_
    refine kw_iload_n (pc := 21) dX6_parcelOf_21 rfl ?_
    refine kw_callVr (pc := 22) dX6_parcelOf_22 lX6_162 (c_property (by omega) hf hj) mM_0 rfl rfl rfl ⟨by decide, by decide, Nat.le_of_ble_eq_true rfl⟩ ?_
    refine kw_goto (tgt := 29) (pc := 25) dX6_parcelOf_25 (by decide) ?_
    exact kw_ireturn nlX6_parcelOf (pc := 29) dX6_parcelOf_29 rfl rfl ⟨kv_eq rfl, ⟨_, _, _, _, rfl, agr.rf⟩, rfl⟩
set_option maxRecDepth 100000 in
set_option maxHeartbeats 4000000 in
theorem c_parcelOfA {w0 : kM} {mo : Nat} {s : Nat → Int32} {sv : Int32} {kp bf : Nat → Int32} {ty th : Int32} {co ma : Nat → Int32} {sp : Int32}  {c : Nat} (hc : s 20 = nI c) (hc7 : c ≤ 7) {p v : Int32} (hp : ¬ ∃ k, k < c ∧ p = nI k) : kCtrW mX6_parcelOf 5 [.ref mo, .int p, .int v] (mM w0 mo s sv kp bf ty th co ma sp) (some (.int 0)) (fun w' => mSt w0 mo s sv kp bf ty 1 w') := by
  refine kCtrW.of pl6 nlX6_parcelOf rfl (Nat.le_of_ble_eq_true rfl) (fun n => ?_)
  refine kw_aload_n (pc := 0) dX6_parcelOf_0 rfl ?_
  refine kw_aload_n (pc := 1) dX6_parcelOf_1 rfl ?_
  refine kw_iload_n (pc := 2) dX6_parcelOf_2 rfl ?_
  refine kw_callVr (pc := 3) dX6_parcelOf_3 lX6_119 (c_isParcelF hc hc7 hp) mM_0 rfl rfl rfl ⟨by decide, by decide, Nat.le_of_ble_eq_true rfl⟩ ?_
  refine kw_iload_n (pc := 6) dX6_parcelOf_6 rfl ?_
  refine kw_iconst (v := 0) (pc := 7) dX6_parcelOf_7 (by decide) ?_
  refine kw_bipush (v := 10) (pc := 8) dX6_parcelOf_8 (by decide) ?_
  refine kw_callSr (pc := 10) dX6_parcelOf_10 lX6_41 (c_in _ _ _) rfl rfl ⟨by decide, by decide, Nat.le_of_ble_eq_true rfl⟩ ?_
  refine kw_callVw1 (pc := 13) dX6_parcelOf_13 lX6_111 (c_goesA rfl) mM_0 rfl rfl rfl ⟨by decide, by decide, Nat.le_of_ble_eq_true rfl⟩ (fun w1 hw1 => ?_)
  have hw1 : w1 = _ := hw1
  subst hw1
  refine kw_if_eq (tgt := 28) (pc := 16) dX6_parcelOf_16 (by decide) (fun h16 => ?_) (fun h16 => ?_)
  · refine kw_iconst (v := 0) (pc := 28) dX6_parcelOf_28 (by decide) ?_
    exact kw_ireturn nlX6_parcelOf (pc := 29) dX6_parcelOf_29 rfl rfl ⟨kv_eq rfl, ⟨_, _, _, _, rfl, agr.rf⟩, rfl⟩
  · exact absurd (by decide) h16
set_option maxRecDepth 100000 in
set_option maxHeartbeats 4000000 in
theorem c_parcelOfB {w0 : kM} {mo : Nat} {s : Nat → Int32} {sv : Int32} {kp bf : Nat → Int32} {ty th : Int32} {co ma : Nat → Int32} {sp : Int32}  {c : Nat} (hc : s 20 = nI c) (hc7 : c ≤ 7) {k : Nat} (hk : k < c) {v : Int32} (hv : ¬ (0 ≤ v ∧ v ≤ 10)) : kCtrW mX6_parcelOf 5 [.ref mo, .int (nI k), .int v] (mM w0 mo s sv kp bf ty th co ma sp) (some (.int 0)) (fun w' => mSt w0 mo s sv kp bf ty 2 w') := by
  refine kCtrW.of pl6 nlX6_parcelOf rfl (Nat.le_of_ble_eq_true rfl) (fun n => ?_)
  refine kw_aload_n (pc := 0) dX6_parcelOf_0 rfl ?_
  refine kw_aload_n (pc := 1) dX6_parcelOf_1 rfl ?_
  refine kw_iload_n (pc := 2) dX6_parcelOf_2 rfl ?_
  refine kw_callVr (pc := 3) dX6_parcelOf_3 lX6_119 (c_isParcelT hc hc7 hk) mM_0 rfl rfl rfl ⟨by decide, by decide, Nat.le_of_ble_eq_true rfl⟩ ?_
  refine kw_iload_n (pc := 6) dX6_parcelOf_6 rfl ?_
  refine kw_iconst (v := 0) (pc := 7) dX6_parcelOf_7 (by decide) ?_
  refine kw_bipush (v := 10) (pc := 8) dX6_parcelOf_8 (by decide) ?_
  refine kw_callSr (pc := 10) dX6_parcelOf_10 lX6_41 (c_inF hv) rfl rfl ⟨by decide, by decide, Nat.le_of_ble_eq_true rfl⟩ ?_
  refine kw_callVw1 (pc := 13) dX6_parcelOf_13 lX6_111 (c_goesB (by decide) rfl) mM_0 rfl rfl rfl ⟨by decide, by decide, Nat.le_of_ble_eq_true rfl⟩ (fun w1 hw1 => ?_)
  have hw1 : w1 = _ := hw1
  subst hw1
  refine kw_if_eq (tgt := 28) (pc := 16) dX6_parcelOf_16 (by decide) (fun h16 => ?_) (fun h16 => ?_)
  · refine kw_iconst (v := 0) (pc := 28) dX6_parcelOf_28 (by decide) ?_
    exact kw_ireturn nlX6_parcelOf (pc := 29) dX6_parcelOf_29 rfl rfl ⟨kv_eq rfl, ⟨_, _, _, _, rfl, agr.rf⟩, rfl⟩
  · exact absurd (by decide) h16
set_option maxRecDepth 100000 in
set_option maxHeartbeats 4000000 in
theorem c_rate {w0 : kM} {mo : Nat} {s : Nat → Int32} {sv : Int32} {kp bf : Nat → Int32} {ty th : Int32} {co ma : Nat → Int32} {sp : Int32}  {z : Int32} (hz : 1 ≤ z ∧ z ≤ 999) {w : Int32} (hw : 0 ≤ w ∧ w ≤ 1) {K : Nat} (hb : bnd z = nI K) (hK : K < 12) : kCtrW mX6_rate 3 [.ref mo, .int z, .int w] (mM w0 mo s sv kp bf ty th co ma sp) (some (.int (if w = 0 then rM s (K + 1) else s (4 + rDn s K K)))) (fun w' => mSt w0 mo s sv kp bf ty 0 w') := by
  refine kCtrW.of pl6 nlX6_rate rfl (Nat.le_of_ble_eq_true rfl) (fun n => ?_)
  refine kw_aload_n (pc := 0) dX6_rate_0 rfl ?_
  refine kw_iload_n (pc := 1) dX6_rate_1 rfl ?_
  refine kw_iconst (v := 1) (pc := 2) dX6_rate_2 (by decide) ?_
  refine kw_sipush (v := 999) (pc := 3) dX6_rate_3 (by decide) ?_
  refine kw_callSr (pc := 6) dX6_rate_6 lX6_41 (c_inT hz) rfl rfl ⟨by decide, by decide, Nat.le_of_ble_eq_true rfl⟩ ?_
  refine kw_if_eq (tgt := 25) (pc := 9) dX6_rate_9 (by decide) (fun h9 => ?_) (fun h9 => ?_)
  · exact absurd h9 (by decide)
  · refine kw_iload_n (pc := 12) dX6_rate_12 rfl ?_
    refine kw_iconst (v := 0) (pc := 13) dX6_rate_13 (by decide) ?_
    refine kw_iconst (v := 1) (pc := 14) dX6_rate_14 (by decide) ?_
    refine kw_callSr (pc := 15) dX6_rate_15 lX6_41 (c_inT hw) rfl rfl ⟨by decide, by decide, Nat.le_of_ble_eq_true rfl⟩ ?_
    refine kw_if_eq (tgt := 25) (pc := 18) dX6_rate_18 (by decide) (fun h18 => ?_) (fun h18 => ?_)
    · exact absurd h18 (by decide)
    · refine kw_iconst (v := 1) (pc := 21) dX6_rate_21 (by decide) ?_
      refine kw_goto (tgt := 26) (pc := 22) dX6_rate_22 (by decide) ?_
      refine kw_iconst (v := 1) (pc := 26) dX6_rate_26 (by decide) ?_
      refine kw_callVw1 (pc := 27) dX6_rate_27 lX6_111 (c_goes1 (by decide) (by decide)) mM_0 rfl rfl rfl ⟨by decide, by decide, Nat.le_of_ble_eq_true rfl⟩ (fun w1 hw1 => ?_)
      have hw1 : w1 = _ := hw1
      subst hw1
      refine kw_if_eq (tgt := 42) (pc := 30) dX6_rate_30 (by decide) (fun h30 => ?_) (fun h30 => ?_)
      · exact absurd h30 (by decide)
      · refine kw_aload_n (pc := 33) dX6_rate_33 rfl ?_
        refine kw_iload_n (pc := 34) dX6_rate_34 rfl ?_
        refine kw_iload_n (pc := 35) dX6_rate_35 rfl ?_
        refine kw_callVr (pc := 36) dX6_rate_36 lX6_168 (c_rated _ _ hb hK) mM_0 rfl rfl rfl ⟨by decide, by decide, Nat.le_of_ble_eq_true rfl⟩ ?_
        refine kw_goto (tgt := 43) (pc := 39) dX6_rate_39 (by decide) ?_
        exact kw_ireturn nlX6_rate (pc := 43) dX6_rate_43 rfl rfl ⟨kv_eq rfl, ⟨_, _, _, _, rfl, agr.rf⟩, rfl⟩
set_option maxRecDepth 100000 in
set_option maxHeartbeats 4000000 in
theorem c_rateA {w0 : kM} {mo : Nat} {s : Nat → Int32} {sv : Int32} {kp bf : Nat → Int32} {ty th : Int32} {co ma : Nat → Int32} {sp : Int32}  {z w : Int32} (hz : ¬ ((1 ≤ z ∧ z ≤ 999) ∧ (0 ≤ w ∧ w ≤ 1))) : kCtrW mX6_rate 3 [.ref mo, .int z, .int w] (mM w0 mo s sv kp bf ty th co ma sp) (some (.int 0)) (fun w' => mSt w0 mo s sv kp bf ty 1 w') := by
  refine kCtrW.of pl6 nlX6_rate rfl (Nat.le_of_ble_eq_true rfl) (fun n => ?_)
  refine kw_aload_n (pc := 0) dX6_rate_0 rfl ?_
  refine kw_iload_n (pc := 1) dX6_rate_1 rfl ?_
  refine kw_iconst (v := 1) (pc := 2) dX6_rate_2 (by decide) ?_
  refine kw_sipush (v := 999) (pc := 3) dX6_rate_3 (by decide) ?_
  refine kw_callSr (pc := 6) dX6_rate_6 lX6_41 (c_in _ _ _) rfl rfl ⟨by decide, by decide, Nat.le_of_ble_eq_true rfl⟩ ?_
  refine kw_if_eq (tgt := 25) (pc := 9) dX6_rate_9 (by decide) (fun h9 => ?_) (fun h9 => ?_)
  · refine kw_iconst (v := 0) (pc := 25) dX6_rate_25 (by decide) ?_
    refine kw_iconst (v := 1) (pc := 26) dX6_rate_26 (by decide) ?_
    refine kw_callVw1 (pc := 27) dX6_rate_27 lX6_111 (c_goesA rfl) mM_0 rfl rfl rfl ⟨by decide, by decide, Nat.le_of_ble_eq_true rfl⟩ (fun w1 hw1 => ?_)
    have hw1 : w1 = _ := hw1
    subst hw1
    refine kw_if_eq (tgt := 42) (pc := 30) dX6_rate_30 (by decide) (fun h30 => ?_) (fun h30 => ?_)
    · refine kw_iconst (v := 0) (pc := 42) dX6_rate_42 (by decide) ?_
      exact kw_ireturn nlX6_rate (pc := 43) dX6_rate_43 rfl rfl ⟨kv_eq rfl, ⟨_, _, _, _, rfl, agr.rf⟩, rfl⟩
    · exact absurd (by decide) h30
  · refine kw_iload_n (pc := 12) dX6_rate_12 rfl ?_
    refine kw_iconst (v := 0) (pc := 13) dX6_rate_13 (by decide) ?_
    refine kw_iconst (v := 1) (pc := 14) dX6_rate_14 (by decide) ?_
    refine kw_callSr (pc := 15) dX6_rate_15 lX6_41 (c_in _ _ _) rfl rfl ⟨by decide, by decide, Nat.le_of_ble_eq_true rfl⟩ ?_
    refine kw_if_eq (tgt := 25) (pc := 18) dX6_rate_18 (by decide) (fun h18 => ?_) (fun h18 => ?_)
    · refine kw_iconst (v := 0) (pc := 25) dX6_rate_25 (by decide) ?_
      refine kw_iconst (v := 1) (pc := 26) dX6_rate_26 (by decide) ?_
      refine kw_callVw1 (pc := 27) dX6_rate_27 lX6_111 (c_goesA rfl) mM_0 rfl rfl rfl ⟨by decide, by decide, Nat.le_of_ble_eq_true rfl⟩ (fun w1 hw1 => ?_)
      have hw1 : w1 = _ := hw1
      subst hw1
      refine kw_if_eq (tgt := 42) (pc := 30) dX6_rate_30 (by decide) (fun h30 => ?_) (fun h30 => ?_)
      · refine kw_iconst (v := 0) (pc := 42) dX6_rate_42 (by decide) ?_
        exact kw_ireturn nlX6_rate (pc := 43) dX6_rate_43 rfl rfl ⟨kv_eq rfl, ⟨_, _, _, _, rfl, agr.rf⟩, rfl⟩
      · exact absurd (by decide) h30
    · exfalso; grind [b2i]
set_option maxRecDepth 100000 in
set_option maxHeartbeats 4000000 in
theorem c_count {w0 : kM} {mo : Nat} {s : Nat → Int32} {sv : Int32} {kp bf : Nat → Int32} {ty th : Int32} {co ma : Nat → Int32} {sp : Int32}  {c : Nat} (hc : s 20 = nI c) (hc7 : c ≤ 7) {j : Nat} (hj : j < 10) : kCtrW mX6_count 5 [.ref mo, .int (nI j)] (mM w0 mo s sv kp bf ty th co ma sp) (some (.int (ctd s sv c j))) (fun w' => mSt w0 mo s sv kp bf ty 0 w') := by
  refine kCtrW.of pl6 nlX6_count rfl (Nat.le_of_ble_eq_true rfl) (fun n => ?_)
  refine kw_aload_n (pc := 0) dX6_count_0 rfl ?_
  refine kw_iload_n (pc := 1) dX6_count_1 rfl ?_
  refine kw_iconst (v := 0) (pc := 2) dX6_count_2 (by decide) ?_
  refine kw_bipush (v := 9) (pc := 3) dX6_count_3 (by decide) ?_
  refine kw_callSr (pc := 5) dX6_count_5 lX6_41 (c_inT (in_nat (b := j) (by decide) hj)) rfl rfl ⟨by decide, by decide, Nat.le_of_ble_eq_true rfl⟩ ?_
  refine kw_iconst (v := 1) (pc := 8) dX6_count_8 (by decide) ?_
  refine kw_callVw1 (pc := 9) dX6_count_9 lX6_111 (c_goes1 (by decide) (by decide)) mM_0 rfl rfl rfl ⟨by decide, by decide, Nat.le_of_ble_eq_true rfl⟩ (fun w1 hw1 => ?_)
  have hw1 : w1 = _ := hw1
  subst hw1
  refine kw_if_eq (tgt := 23) (pc := 12) dX6_count_12 (by decide) (fun h12 => ?_) (fun h12 => ?_)
  · exact absurd h12 (by decide)
  · refine kw_aload_n (pc := 15) dX6_count_15 rfl ?_
    refine kw_iload_n (pc := 16) dX6_count_16 rfl ?_
    refine kw_callVr (pc := 17) dX6_count_17 lX6_178 (c_counted hc hc7 hj) mM_0 rfl rfl rfl ⟨by decide, by decide, Nat.le_of_ble_eq_true rfl⟩ ?_
    refine kw_goto (tgt := 24) (pc := 20) dX6_count_20 (by decide) ?_
    exact kw_ireturn nlX6_count (pc := 24) dX6_count_24 rfl rfl ⟨kv_eq rfl, ⟨_, _, _, _, rfl, agr.rf⟩, rfl⟩
set_option maxRecDepth 100000 in
set_option maxHeartbeats 4000000 in
theorem c_countA {w0 : kM} {mo : Nat} {s : Nat → Int32} {sv : Int32} {kp bf : Nat → Int32} {ty th : Int32} {co ma : Nat → Int32} {sp : Int32}  {v : Int32} (hv : ¬ (0 ≤ v ∧ v ≤ 9)) : kCtrW mX6_count 5 [.ref mo, .int v] (mM w0 mo s sv kp bf ty th co ma sp) (some (.int 0)) (fun w' => mSt w0 mo s sv kp bf ty 1 w') := by
  refine kCtrW.of pl6 nlX6_count rfl (Nat.le_of_ble_eq_true rfl) (fun n => ?_)
  refine kw_aload_n (pc := 0) dX6_count_0 rfl ?_
  refine kw_iload_n (pc := 1) dX6_count_1 rfl ?_
  refine kw_iconst (v := 0) (pc := 2) dX6_count_2 (by decide) ?_
  refine kw_bipush (v := 9) (pc := 3) dX6_count_3 (by decide) ?_
  refine kw_callSr (pc := 5) dX6_count_5 lX6_41 (c_inF hv) rfl rfl ⟨by decide, by decide, Nat.le_of_ble_eq_true rfl⟩ ?_
  refine kw_iconst (v := 1) (pc := 8) dX6_count_8 (by decide) ?_
  refine kw_callVw1 (pc := 9) dX6_count_9 lX6_111 (c_goesA rfl) mM_0 rfl rfl rfl ⟨by decide, by decide, Nat.le_of_ble_eq_true rfl⟩ (fun w1 hw1 => ?_)
  have hw1 : w1 = _ := hw1
  subst hw1
  refine kw_if_eq (tgt := 23) (pc := 12) dX6_count_12 (by decide) (fun h12 => ?_) (fun h12 => ?_)
  · refine kw_iconst (v := 0) (pc := 23) dX6_count_23 (by decide) ?_
    exact kw_ireturn nlX6_count (pc := 24) dX6_count_24 rfl rfl ⟨kv_eq rfl, ⟨_, _, _, _, rfl, agr.rf⟩, rfl⟩
  · exact absurd (by decide) h12
set_option maxRecDepth 100000 in
set_option maxHeartbeats 4000000 in
theorem c_setting {w0 : kM} {mo : Nat} {s : Nat → Int32} {sv : Int32} {kp bf : Nat → Int32} {ty th : Int32} {co ma : Nat → Int32} {sp : Int32}  {j : Nat} (hj : j < 4) : kCtrW mX6_setting 5 [.ref mo, .int (nI j)] (mM w0 mo s sv kp bf ty th co ma sp) (some (.int (s j))) (fun w' => mSt w0 mo s sv kp bf ty 0 w') := by
  refine kCtrW.of pl6 nlX6_setting rfl (Nat.le_of_ble_eq_true rfl) (fun n => ?_)
  refine kw_aload_n (pc := 0) dX6_setting_0 rfl ?_
  refine kw_iload_n (pc := 1) dX6_setting_1 rfl ?_
  refine kw_iconst (v := 0) (pc := 2) dX6_setting_2 (by decide) ?_
  refine kw_iconst (v := 3) (pc := 3) dX6_setting_3 (by decide) ?_
  refine kw_callSr (pc := 4) dX6_setting_4 lX6_41 (c_inT (in_nat (b := j) (by decide) hj)) rfl rfl ⟨by decide, by decide, Nat.le_of_ble_eq_true rfl⟩ ?_
  refine kw_iconst (v := 1) (pc := 7) dX6_setting_7 (by decide) ?_
  refine kw_callVw1 (pc := 8) dX6_setting_8 lX6_111 (c_goes1 (by decide) (by decide)) mM_0 rfl rfl rfl ⟨by decide, by decide, Nat.le_of_ble_eq_true rfl⟩ (fun w1 hw1 => ?_)
  have hw1 : w1 = _ := hw1
  subst hw1
  refine kw_if_eq (tgt := 23) (pc := 11) dX6_setting_11 (by decide) (fun h11 => ?_) (fun h11 => ?_)
  · exact absurd h11 (by decide)
  · refine kw_aload_n (pc := 14) dX6_setting_14 rfl ?_
    refine kw_getfield (pc := 15) kfw dX6_setting_15 fX6_7 mM_0 rfl ?_
    refine kw_iload_n (pc := 18) dX6_setting_18 rfl ?_
    refine kw_ialoadN (pc := 19) (i := j) dX6_setting_19 mM_1 rfl (by omega) (by decide) ?_
    refine kw_goto (tgt := 24) (pc := 20) dX6_setting_20 (by decide) ?_
    exact kw_ireturn nlX6_setting (pc := 24) dX6_setting_24 rfl rfl ⟨kv_eq rfl, ⟨_, _, _, _, rfl, agr.rf⟩, rfl⟩
set_option maxRecDepth 100000 in
set_option maxHeartbeats 4000000 in
theorem c_settingA {w0 : kM} {mo : Nat} {s : Nat → Int32} {sv : Int32} {kp bf : Nat → Int32} {ty th : Int32} {co ma : Nat → Int32} {sp : Int32}  {v : Int32} (hv : ¬ (0 ≤ v ∧ v ≤ 3)) : kCtrW mX6_setting 5 [.ref mo, .int v] (mM w0 mo s sv kp bf ty th co ma sp) (some (.int 0)) (fun w' => mSt w0 mo s sv kp bf ty 1 w') := by
  refine kCtrW.of pl6 nlX6_setting rfl (Nat.le_of_ble_eq_true rfl) (fun n => ?_)
  refine kw_aload_n (pc := 0) dX6_setting_0 rfl ?_
  refine kw_iload_n (pc := 1) dX6_setting_1 rfl ?_
  refine kw_iconst (v := 0) (pc := 2) dX6_setting_2 (by decide) ?_
  refine kw_iconst (v := 3) (pc := 3) dX6_setting_3 (by decide) ?_
  refine kw_callSr (pc := 4) dX6_setting_4 lX6_41 (c_inF hv) rfl rfl ⟨by decide, by decide, Nat.le_of_ble_eq_true rfl⟩ ?_
  refine kw_iconst (v := 1) (pc := 7) dX6_setting_7 (by decide) ?_
  refine kw_callVw1 (pc := 8) dX6_setting_8 lX6_111 (c_goesA rfl) mM_0 rfl rfl rfl ⟨by decide, by decide, Nat.le_of_ble_eq_true rfl⟩ (fun w1 hw1 => ?_)
  have hw1 : w1 = _ := hw1
  subst hw1
  refine kw_if_eq (tgt := 23) (pc := 11) dX6_setting_11 (by decide) (fun h11 => ?_) (fun h11 => ?_)
  · refine kw_iconst (v := 0) (pc := 23) dX6_setting_23 (by decide) ?_
    exact kw_ireturn nlX6_setting (pc := 24) dX6_setting_24 rfl rfl ⟨kv_eq rfl, ⟨_, _, _, _, rfl, agr.rf⟩, rfl⟩
  · exact absurd (by decide) h11
set_option maxRecDepth 100000 in
set_option maxHeartbeats 4000000 in
theorem c_cheapestWay {w0 : kM} {mo : Nat} {s : Nat → Int32} {sv : Int32} {kp bf : Nat → Int32} {ty th : Int32} {co ma : Nat → Int32} {sp : Int32}  {c : Nat} (hc : s 20 = nI c) (hc7 : c ≤ 7) {k : Nat} (hk : k < c) (hf : ∀ v, v < 3 → fineP s (wyP (pa s (21 + 7 * k)) (nI v))) : kCtrW mX6_cheapestWay 5 [.ref mo, .int (nI k)] (mM w0 mo s sv kp bf ty th co ma sp) (some (.int (wyF s (pa s (21 + 7 * k))))) (fun w' => mSt w0 mo s sv kp bf ty 0 w') := by
  refine kCtrW.of pl6 nlX6_cheapestWay rfl (Nat.le_of_ble_eq_true rfl) (fun n => ?_)
  refine kw_aload_n (pc := 0) dX6_cheapestWay_0 rfl ?_
  refine kw_aload_n (pc := 1) dX6_cheapestWay_1 rfl ?_
  refine kw_iload_n (pc := 2) dX6_cheapestWay_2 rfl ?_
  refine kw_callVr (pc := 3) dX6_cheapestWay_3 lX6_119 (c_isParcelT hc hc7 hk) mM_0 rfl rfl rfl ⟨by decide, by decide, Nat.le_of_ble_eq_true rfl⟩ ?_
  refine kw_iconst (v := 1) (pc := 6) dX6_cheapestWay_6 (by decide) ?_
  refine kw_callVw1 (pc := 7) dX6_cheapestWay_7 lX6_111 (c_goes1 (by decide) (by decide)) mM_0 rfl rfl rfl ⟨by decide, by decide, Nat.le_of_ble_eq_true rfl⟩ (fun w1 hw1 => ?_)
  have hw1 : w1 = _ := hw1
  subst hw1
  refine kw_if_eq (tgt := 21) (pc := 10) dX6_cheapestWay_10 (by decide) (fun h10 => ?_) (fun h10 => ?_)
  · exact absurd h10 (by decide)
  · refine kw_aload_n (pc := 13) dX6_cheapestWay_13 rfl ?_
    refine kw_iload_n (pc := 14) dX6_cheapestWay_14 rfl ?_
    refine kw_callVw1 (pc := 15) dX6_cheapestWay_15 lX6_181 (c_wayFor (by omega) hf) mM_0 rfl rfl rfl ⟨by decide, by decide, Nat.le_of_ble_eq_true rfl⟩ (fun w1 hw1 => ?_)
    obtain ⟨s1, rfl, ha1⟩ := hw1
    refine kw_goto (tgt := 22) (pc := 18) dX6_cheapestWay_18 (by decide) ?_
    exact kw_ireturn nlX6_cheapestWay (pc := 22) dX6_cheapestWay_22 rfl rfl ⟨kv_eq rfl, ⟨_, _, _, _, rfl, ha1⟩, rfl⟩
set_option maxRecDepth 100000 in
set_option maxHeartbeats 4000000 in
theorem c_cheapestWayA {w0 : kM} {mo : Nat} {s : Nat → Int32} {sv : Int32} {kp bf : Nat → Int32} {ty th : Int32} {co ma : Nat → Int32} {sp : Int32}  {c : Nat} (hc : s 20 = nI c) (hc7 : c ≤ 7) {p : Int32} (hp : ¬ ∃ k, k < c ∧ p = nI k) : kCtrW mX6_cheapestWay 5 [.ref mo, .int p] (mM w0 mo s sv kp bf ty th co ma sp) (some (.int 0)) (fun w' => mSt w0 mo s sv kp bf ty 1 w') := by
  refine kCtrW.of pl6 nlX6_cheapestWay rfl (Nat.le_of_ble_eq_true rfl) (fun n => ?_)
  refine kw_aload_n (pc := 0) dX6_cheapestWay_0 rfl ?_
  refine kw_aload_n (pc := 1) dX6_cheapestWay_1 rfl ?_
  refine kw_iload_n (pc := 2) dX6_cheapestWay_2 rfl ?_
  refine kw_callVr (pc := 3) dX6_cheapestWay_3 lX6_119 (c_isParcelF hc hc7 hp) mM_0 rfl rfl rfl ⟨by decide, by decide, Nat.le_of_ble_eq_true rfl⟩ ?_
  refine kw_iconst (v := 1) (pc := 6) dX6_cheapestWay_6 (by decide) ?_
  refine kw_callVw1 (pc := 7) dX6_cheapestWay_7 lX6_111 (c_goesA rfl) mM_0 rfl rfl rfl ⟨by decide, by decide, Nat.le_of_ble_eq_true rfl⟩ (fun w1 hw1 => ?_)
  have hw1 : w1 = _ := hw1
  subst hw1
  refine kw_if_eq (tgt := 21) (pc := 10) dX6_cheapestWay_10 (by decide) (fun h10 => ?_) (fun h10 => ?_)
  · refine kw_iconst (v := 0) (pc := 21) dX6_cheapestWay_21 (by decide) ?_
    exact kw_ireturn nlX6_cheapestWay (pc := 22) dX6_cheapestWay_22 rfl rfl ⟨kv_eq rfl, ⟨_, _, _, _, rfl, agr.rf⟩, rfl⟩
  · exact absurd (by decide) h10
set_option maxRecDepth 100000 in
set_option maxHeartbeats 4000000 in
theorem c_ifBundled {w0 : kM} {mo : Nat} {s : Nat → Int32} {sv : Int32} {kp bf : Nat → Int32} {ty th : Int32} {co ma : Nat → Int32} {sp : Int32}  {c : Nat} (hc : s 20 = nI c) (hc7 : c ≤ 7) (H : fineS s c) {k j : Nat} (hk : k < c) (hj : j < c) (hne : k ≠ j) : kCtrW mX6_ifBundled 5 [.ref mo, .int (nI k), .int (nI j)] (mM w0 mo s sv kp bf ty th co ma sp) (some (.int (bdS s k j))) (fun w' => mSt w0 mo s sv kp bf ty 0 w') := by
  refine kCtrW.of pl6 nlX6_ifBundled rfl (Nat.le_of_ble_eq_true rfl) (fun n => ?_)
  refine kw_aload_n (pc := 0) dX6_ifBundled_0 rfl ?_
  refine kw_aload_n (pc := 1) dX6_ifBundled_1 rfl ?_
  refine kw_iload_n (pc := 2) dX6_ifBundled_2 rfl ?_
  refine kw_callVr (pc := 3) dX6_ifBundled_3 lX6_119 (c_isParcelT hc hc7 hk) mM_0 rfl rfl rfl ⟨by decide, by decide, Nat.le_of_ble_eq_true rfl⟩ ?_
  refine kw_if_eq (tgt := 21) (pc := 6) dX6_ifBundled_6 (by decide) (fun h6 => ?_) (fun h6 => ?_)
  · exact absurd h6 (by decide)
  · refine kw_aload_n (pc := 9) dX6_ifBundled_9 rfl ?_
    refine kw_iload_n (pc := 10) dX6_ifBundled_10 rfl ?_
    refine kw_callVr (pc := 11) dX6_ifBundled_11 lX6_119 (c_isParcelT hc hc7 hj) mM_0 rfl rfl rfl ⟨by decide, by decide, Nat.le_of_ble_eq_true rfl⟩ ?_
    refine kw_if_eq (tgt := 21) (pc := 14) dX6_ifBundled_14 (by decide) (fun h14 => ?_) (fun h14 => ?_)
    · exact absurd h14 (by decide)
    · refine kw_iconst (v := 1) (pc := 17) dX6_ifBundled_17 (by decide) ?_
      refine kw_goto (tgt := 22) (pc := 18) dX6_ifBundled_18 (by decide) ?_
      refine kw_iload_n (pc := 22) dX6_ifBundled_22 rfl ?_
      refine kw_iload_n (pc := 23) dX6_ifBundled_23 rfl ?_
      refine kw_icmp_eq (tgt := 31) (pc := 24) dX6_ifBundled_24 (by decide) (fun h24 => ?_) (fun h24 => ?_)
      · have h24 := (kEqI (a := k) (b := j) (by omega) (by omega) rfl rfl).mp h24
        exfalso; omega
      · have h24 := mt (kEqI (a := k) (b := j) (by omega) (by omega) rfl rfl).mpr h24
        refine kw_iconst (v := 1) (pc := 27) dX6_ifBundled_27 (by decide) ?_
        refine kw_goto (tgt := 32) (pc := 28) dX6_ifBundled_28 (by decide) ?_
        refine kw_callVw1 (pc := 32) dX6_ifBundled_32 lX6_111 (c_goes1 (by decide) (by decide)) mM_0 rfl rfl rfl ⟨by decide, by decide, Nat.le_of_ble_eq_true rfl⟩ (fun w1 hw1 => ?_)
        have hw1 : w1 = _ := hw1
        subst hw1
        refine kw_if_eq (tgt := 47) (pc := 35) dX6_ifBundled_35 (by decide) (fun h35 => ?_) (fun h35 => ?_)
        · exact absurd h35 (by decide)
        · refine kw_aload_n (pc := 38) dX6_ifBundled_38 rfl ?_
          refine kw_iload_n (pc := 39) dX6_ifBundled_39 rfl ?_
          refine kw_iload_n (pc := 40) dX6_ifBundled_40 rfl ?_
          refine kw_callVw1 (pc := 41) dX6_ifBundled_41 lX6_89 (c_bundled (by omega) (by omega) (H.2.2.2 k hk j hj hne)) mM_0 rfl rfl rfl ⟨by decide, by decide, Nat.le_of_ble_eq_true rfl⟩ (fun w1 hw1 => ?_)
          obtain ⟨s1, rfl, ha1⟩ := hw1
          refine kw_goto (tgt := 48) (pc := 44) dX6_ifBundled_44 (by decide) ?_
          exact kw_ireturn nlX6_ifBundled (pc := 48) dX6_ifBundled_48 rfl rfl ⟨kv_eq rfl, ⟨_, _, _, _, rfl, ha1⟩, rfl⟩
set_option maxRecDepth 100000 in
set_option maxHeartbeats 4000000 in
theorem c_ifBundledA {w0 : kM} {mo : Nat} {s : Nat → Int32} {sv : Int32} {kp bf : Nat → Int32} {ty th : Int32} {co ma : Nat → Int32} {sp : Int32}  {c : Nat} (hc : s 20 = nI c) (hc7 : c ≤ 7) {p v : Int32} (hp : ¬ ((∃ k, k < c ∧ p = nI k) ∧ ∃ j, j < c ∧ v = nI j)) : kCtrW mX6_ifBundled 5 [.ref mo, .int p, .int v] (mM w0 mo s sv kp bf ty th co ma sp) (some (.int 0)) (fun w' => mSt w0 mo s sv kp bf ty 1 w') := by
  refine kCtrW.of pl6 nlX6_ifBundled rfl (Nat.le_of_ble_eq_true rfl) (fun n => ?_)
  refine kw_aload_n (pc := 0) dX6_ifBundled_0 rfl ?_
  refine kw_aload_n (pc := 1) dX6_ifBundled_1 rfl ?_
  refine kw_iload_n (pc := 2) dX6_ifBundled_2 rfl ?_
  refine kw_callVr (pc := 3) dX6_ifBundled_3 lX6_119 (c_isParcel _) mM_0 rfl rfl rfl ⟨by decide, by decide, Nat.le_of_ble_eq_true rfl⟩ ?_
  refine kw_if_eq (tgt := 21) (pc := 6) dX6_ifBundled_6 (by decide) (fun h6 => ?_) (fun h6 => ?_)
  · refine kw_iconst (v := 0) (pc := 21) dX6_ifBundled_21 (by decide) ?_
    refine kw_iload_n (pc := 22) dX6_ifBundled_22 rfl ?_
    refine kw_iload_n (pc := 23) dX6_ifBundled_23 rfl ?_
    refine kw_icmp_eq (tgt := 31) (pc := 24) dX6_ifBundled_24 (by decide) (fun h24 => ?_) (fun h24 => ?_)
    · refine kw_iconst (v := 0) (pc := 31) dX6_ifBundled_31 (by decide) ?_
      refine kw_callVw1 (pc := 32) dX6_ifBundled_32 lX6_111 (c_goesA rfl) mM_0 rfl rfl rfl ⟨by decide, by decide, Nat.le_of_ble_eq_true rfl⟩ (fun w1 hw1 => ?_)
      have hw1 : w1 = _ := hw1
      subst hw1
      refine kw_if_eq (tgt := 47) (pc := 35) dX6_ifBundled_35 (by decide) (fun h35 => ?_) (fun h35 => ?_)
      · refine kw_iconst (v := 0) (pc := 47) dX6_ifBundled_47 (by decide) ?_
        exact kw_ireturn nlX6_ifBundled (pc := 48) dX6_ifBundled_48 rfl rfl ⟨kv_eq rfl, ⟨_, _, _, _, rfl, agr.rf⟩, rfl⟩
      · exact absurd (by decide) h35
    · refine kw_iconst (v := 1) (pc := 27) dX6_ifBundled_27 (by decide) ?_
      refine kw_goto (tgt := 32) (pc := 28) dX6_ifBundled_28 (by decide) ?_
      refine kw_callVw1 (pc := 32) dX6_ifBundled_32 lX6_111 (c_goesA rfl) mM_0 rfl rfl rfl ⟨by decide, by decide, Nat.le_of_ble_eq_true rfl⟩ (fun w1 hw1 => ?_)
      have hw1 : w1 = _ := hw1
      subst hw1
      refine kw_if_eq (tgt := 47) (pc := 35) dX6_ifBundled_35 (by decide) (fun h35 => ?_) (fun h35 => ?_)
      · refine kw_iconst (v := 0) (pc := 47) dX6_ifBundled_47 (by decide) ?_
        exact kw_ireturn nlX6_ifBundled (pc := 48) dX6_ifBundled_48 rfl rfl ⟨kv_eq rfl, ⟨_, _, _, _, rfl, agr.rf⟩, rfl⟩
      · exact absurd (by decide) h35
  · refine kw_aload_n (pc := 9) dX6_ifBundled_9 rfl ?_
    refine kw_iload_n (pc := 10) dX6_ifBundled_10 rfl ?_
    refine kw_callVr (pc := 11) dX6_ifBundled_11 lX6_119 (c_isParcel _) mM_0 rfl rfl rfl ⟨by decide, by decide, Nat.le_of_ble_eq_true rfl⟩ ?_
    refine kw_if_eq (tgt := 21) (pc := 14) dX6_ifBundled_14 (by decide) (fun h14 => ?_) (fun h14 => ?_)
    · refine kw_iconst (v := 0) (pc := 21) dX6_ifBundled_21 (by decide) ?_
      refine kw_iload_n (pc := 22) dX6_ifBundled_22 rfl ?_
      refine kw_iload_n (pc := 23) dX6_ifBundled_23 rfl ?_
      refine kw_icmp_eq (tgt := 31) (pc := 24) dX6_ifBundled_24 (by decide) (fun h24 => ?_) (fun h24 => ?_)
      · refine kw_iconst (v := 0) (pc := 31) dX6_ifBundled_31 (by decide) ?_
        refine kw_callVw1 (pc := 32) dX6_ifBundled_32 lX6_111 (c_goesA rfl) mM_0 rfl rfl rfl ⟨by decide, by decide, Nat.le_of_ble_eq_true rfl⟩ (fun w1 hw1 => ?_)
        have hw1 : w1 = _ := hw1
        subst hw1
        refine kw_if_eq (tgt := 47) (pc := 35) dX6_ifBundled_35 (by decide) (fun h35 => ?_) (fun h35 => ?_)
        · refine kw_iconst (v := 0) (pc := 47) dX6_ifBundled_47 (by decide) ?_
          exact kw_ireturn nlX6_ifBundled (pc := 48) dX6_ifBundled_48 rfl rfl ⟨kv_eq rfl, ⟨_, _, _, _, rfl, agr.rf⟩, rfl⟩
        · exact absurd (by decide) h35
      · refine kw_iconst (v := 1) (pc := 27) dX6_ifBundled_27 (by decide) ?_
        refine kw_goto (tgt := 32) (pc := 28) dX6_ifBundled_28 (by decide) ?_
        refine kw_callVw1 (pc := 32) dX6_ifBundled_32 lX6_111 (c_goesA rfl) mM_0 rfl rfl rfl ⟨by decide, by decide, Nat.le_of_ble_eq_true rfl⟩ (fun w1 hw1 => ?_)
        have hw1 : w1 = _ := hw1
        subst hw1
        refine kw_if_eq (tgt := 47) (pc := 35) dX6_ifBundled_35 (by decide) (fun h35 => ?_) (fun h35 => ?_)
        · refine kw_iconst (v := 0) (pc := 47) dX6_ifBundled_47 (by decide) ?_
          exact kw_ireturn nlX6_ifBundled (pc := 48) dX6_ifBundled_48 rfl rfl ⟨kv_eq rfl, ⟨_, _, _, _, rfl, agr.rf⟩, rfl⟩
        · exact absurd (by decide) h35
    · exfalso; have i1 := isP_iff hc hc7 p; have i2 := isP_iff hc hc7 v; grind [b2i]
set_option maxRecDepth 100000 in
set_option maxHeartbeats 4000000 in
theorem c_ifBundledB {w0 : kM} {mo : Nat} {s : Nat → Int32} {sv : Int32} {kp bf : Nat → Int32} {ty th : Int32} {co ma : Nat → Int32} {sp : Int32}  {c : Nat} (hc : s 20 = nI c) (hc7 : c ≤ 7) {k : Nat} (hk : k < c) : kCtrW mX6_ifBundled 5 [.ref mo, .int (nI k), .int (nI k)] (mM w0 mo s sv kp bf ty th co ma sp) (some (.int 0)) (fun w' => mSt w0 mo s sv kp bf ty 2 w') := by
  refine kCtrW.of pl6 nlX6_ifBundled rfl (Nat.le_of_ble_eq_true rfl) (fun n => ?_)
  refine kw_aload_n (pc := 0) dX6_ifBundled_0 rfl ?_
  refine kw_aload_n (pc := 1) dX6_ifBundled_1 rfl ?_
  refine kw_iload_n (pc := 2) dX6_ifBundled_2 rfl ?_
  refine kw_callVr (pc := 3) dX6_ifBundled_3 lX6_119 (c_isParcelT hc hc7 hk) mM_0 rfl rfl rfl ⟨by decide, by decide, Nat.le_of_ble_eq_true rfl⟩ ?_
  refine kw_if_eq (tgt := 21) (pc := 6) dX6_ifBundled_6 (by decide) (fun h6 => ?_) (fun h6 => ?_)
  · exact absurd h6 (by decide)
  · refine kw_aload_n (pc := 9) dX6_ifBundled_9 rfl ?_
    refine kw_iload_n (pc := 10) dX6_ifBundled_10 rfl ?_
    refine kw_callVr (pc := 11) dX6_ifBundled_11 lX6_119 (c_isParcelT hc hc7 hk) mM_0 rfl rfl rfl ⟨by decide, by decide, Nat.le_of_ble_eq_true rfl⟩ ?_
    refine kw_if_eq (tgt := 21) (pc := 14) dX6_ifBundled_14 (by decide) (fun h14 => ?_) (fun h14 => ?_)
    · exact absurd h14 (by decide)
    · refine kw_iconst (v := 1) (pc := 17) dX6_ifBundled_17 (by decide) ?_
      refine kw_goto (tgt := 22) (pc := 18) dX6_ifBundled_18 (by decide) ?_
      refine kw_iload_n (pc := 22) dX6_ifBundled_22 rfl ?_
      refine kw_iload_n (pc := 23) dX6_ifBundled_23 rfl ?_
      refine kw_icmp_eq (tgt := 31) (pc := 24) dX6_ifBundled_24 (by decide) (fun h24 => ?_) (fun h24 => ?_)
      · have h24 := (kEqI (a := k) (b := k) (by omega) (by omega) rfl rfl).mp h24
        refine kw_iconst (v := 0) (pc := 31) dX6_ifBundled_31 (by decide) ?_
        refine kw_callVw1 (pc := 32) dX6_ifBundled_32 lX6_111 (c_goesB (by decide) rfl) mM_0 rfl rfl rfl ⟨by decide, by decide, Nat.le_of_ble_eq_true rfl⟩ (fun w1 hw1 => ?_)
        have hw1 : w1 = _ := hw1
        subst hw1
        refine kw_if_eq (tgt := 47) (pc := 35) dX6_ifBundled_35 (by decide) (fun h35 => ?_) (fun h35 => ?_)
        · refine kw_iconst (v := 0) (pc := 47) dX6_ifBundled_47 (by decide) ?_
          exact kw_ireturn nlX6_ifBundled (pc := 48) dX6_ifBundled_48 rfl rfl ⟨kv_eq rfl, ⟨_, _, _, _, rfl, agr.rf⟩, rfl⟩
        · exact absurd (by decide) h35
      · have h24 := mt (kEqI (a := k) (b := k) (by omega) (by omega) rfl rfl).mpr h24
        exfalso; omega
set_option maxRecDepth 100000 in
set_option maxHeartbeats 4000000 in
theorem c_least {w0 : kM} {mo : Nat} {s : Nat → Int32} {sv : Int32} {kp bf : Nat → Int32} {ty th : Int32} {co ma : Nat → Int32} {sp : Int32}  {c : Nat} (H : fineS s c) (v : Int32) : kCtrW mX6_least 7 [.ref mo, .int v] (mM w0 mo s sv kp bf ty th co ma sp) (some (.int (if v = 0 then setC (alS s) (bdS s) c else dsF s c c (fun _ => 0) (-1)))) (fun w' => ∃ s' co' ma', w' = (mM w0 mo s' sv kp bf ty th co' ma' sp) ∧ agr s s') := by
  refine kCtrW.of pl6 nlX6_least rfl (Nat.le_of_ble_eq_true rfl) (fun n => ?_)
  refine kw_iload_n (pc := 0) dX6_least_0 rfl ?_
  refine kw_if_ne (tgt := 11) (pc := 1) dX6_least_1 (by decide) (fun h1 => ?_) (fun h1 => ?_)
  · refine kw_aload_n (pc := 11) dX6_least_11 rfl ?_
    refine kw_callVw1 (pc := 12) dX6_least_12 lX6_105 (c_byTrying H) mM_0 rfl rfl rfl ⟨by decide, by decide, Nat.le_of_ble_eq_true rfl⟩ (fun w1 hw1 => ?_)
    obtain ⟨s1, co1, ma1, rfl, ha1⟩ := hw1
    exact kw_ireturn nlX6_least (pc := 15) dX6_least_15 rfl rfl ⟨kv_eq (by grind), ⟨_, _, _, rfl, ha1⟩, rfl⟩
  · refine kw_aload_n (pc := 4) dX6_least_4 rfl ?_
    refine kw_callVw1 (pc := 5) dX6_least_5 lX6_101 (c_bySets H) mM_0 rfl rfl rfl ⟨by decide, by decide, Nat.le_of_ble_eq_true rfl⟩ (fun w1 hw1 => ?_)
    obtain ⟨s1, co1, rfl, ha1⟩ := hw1
    refine kw_goto (tgt := 15) (pc := 8) dX6_least_8 (by decide) ?_
    exact kw_ireturn nlX6_least (pc := 15) dX6_least_15 rfl rfl ⟨kv_eq (by grind), ⟨_, _, _, rfl, ha1⟩, rfl⟩
set_option maxRecDepth 100000 in
set_option maxHeartbeats 4000000 in
theorem c_cheapest {w0 : kM} {mo : Nat} {s : Nat → Int32} {sv : Int32} {kp bf : Nat → Int32} {ty th : Int32} {co ma : Nat → Int32} {sp : Int32}  {c : Nat} (H : fineS s c) {v : Int32} (hv : 0 ≤ v ∧ v ≤ 1) : kCtrW mX6_cheapest 8 [.ref mo, .int v] (mM w0 mo s sv kp bf ty th co ma sp) (some (.int (if v = 0 then setC (alS s) (bdS s) c else dsF s c c (fun _ => 0) (-1)))) (fun w' => mSt w0 mo s sv kp bf ty 0 w') := by
  refine kCtrW.of pl6 nlX6_cheapest rfl (Nat.le_of_ble_eq_true rfl) (fun n => ?_)
  refine kw_aload_n (pc := 0) dX6_cheapest_0 rfl ?_
  refine kw_iload_n (pc := 1) dX6_cheapest_1 rfl ?_
  refine kw_iconst (v := 0) (pc := 2) dX6_cheapest_2 (by decide) ?_
  refine kw_iconst (v := 1) (pc := 3) dX6_cheapest_3 (by decide) ?_
  refine kw_callSr (pc := 4) dX6_cheapest_4 lX6_41 (c_inT hv) rfl rfl ⟨by decide, by decide, Nat.le_of_ble_eq_true rfl⟩ ?_
  refine kw_iconst (v := 1) (pc := 7) dX6_cheapest_7 (by decide) ?_
  refine kw_callVw1 (pc := 8) dX6_cheapest_8 lX6_111 (c_goes1 (by decide) (by decide)) mM_0 rfl rfl rfl ⟨by decide, by decide, Nat.le_of_ble_eq_true rfl⟩ (fun w1 hw1 => ?_)
  have hw1 : w1 = _ := hw1
  subst hw1
  refine kw_if_eq (tgt := 22) (pc := 11) dX6_cheapest_11 (by decide) (fun h11 => ?_) (fun h11 => ?_)
  · exact absurd h11 (by decide)
  · refine kw_aload_n (pc := 14) dX6_cheapest_14 rfl ?_
    refine kw_iload_n (pc := 15) dX6_cheapest_15 rfl ?_
    refine kw_callVw1 (pc := 16) dX6_cheapest_16 lX6_184 (c_least H _) mM_0 rfl rfl rfl ⟨by decide, by decide, Nat.le_of_ble_eq_true rfl⟩ (fun w1 hw1 => ?_)
    obtain ⟨s1, co1, ma1, rfl, ha1⟩ := hw1
    refine kw_goto (tgt := 23) (pc := 19) dX6_cheapest_19 (by decide) ?_
    exact kw_ireturn nlX6_cheapest (pc := 23) dX6_cheapest_23 rfl rfl ⟨kv_eq rfl, ⟨_, _, _, _, rfl, ha1⟩, rfl⟩
set_option maxRecDepth 100000 in
set_option maxHeartbeats 4000000 in
theorem c_cheapestA {w0 : kM} {mo : Nat} {s : Nat → Int32} {sv : Int32} {kp bf : Nat → Int32} {ty th : Int32} {co ma : Nat → Int32} {sp : Int32}  {v : Int32} (hv : ¬ (0 ≤ v ∧ v ≤ 1)) : kCtrW mX6_cheapest 8 [.ref mo, .int v] (mM w0 mo s sv kp bf ty th co ma sp) (some (.int 0)) (fun w' => mSt w0 mo s sv kp bf ty 1 w') := by
  refine kCtrW.of pl6 nlX6_cheapest rfl (Nat.le_of_ble_eq_true rfl) (fun n => ?_)
  refine kw_aload_n (pc := 0) dX6_cheapest_0 rfl ?_
  refine kw_iload_n (pc := 1) dX6_cheapest_1 rfl ?_
  refine kw_iconst (v := 0) (pc := 2) dX6_cheapest_2 (by decide) ?_
  refine kw_iconst (v := 1) (pc := 3) dX6_cheapest_3 (by decide) ?_
  refine kw_callSr (pc := 4) dX6_cheapest_4 lX6_41 (c_inF hv) rfl rfl ⟨by decide, by decide, Nat.le_of_ble_eq_true rfl⟩ ?_
  refine kw_iconst (v := 1) (pc := 7) dX6_cheapest_7 (by decide) ?_
  refine kw_callVw1 (pc := 8) dX6_cheapest_8 lX6_111 (c_goesA rfl) mM_0 rfl rfl rfl ⟨by decide, by decide, Nat.le_of_ble_eq_true rfl⟩ (fun w1 hw1 => ?_)
  have hw1 : w1 = _ := hw1
  subst hw1
  refine kw_if_eq (tgt := 22) (pc := 11) dX6_cheapest_11 (by decide) (fun h11 => ?_) (fun h11 => ?_)
  · refine kw_iconst (v := 0) (pc := 22) dX6_cheapest_22 (by decide) ?_
    exact kw_ireturn nlX6_cheapest (pc := 23) dX6_cheapest_23 rfl rfl ⟨kv_eq rfl, ⟨_, _, _, _, rfl, agr.rf⟩, rfl⟩
  · exact absurd (by decide) h11
set_option maxRecDepth 100000 in
set_option maxHeartbeats 4000000 in
theorem c_dearest {w0 : kM} {mo : Nat} {s : Nat → Int32} {sv : Int32} {kp bf : Nat → Int32} {ty th : Int32} {co ma : Nat → Int32} {sp : Int32}  {c : Nat} (hc : s 20 = nI c) (hc7 : c ≤ 7) (hfin : ∀ k, k < c → fineP s (pa s (21 + 7 * k))) : kCtrW mX6_dearest 5 [.ref mo] (mM w0 mo s sv kp bf ty th co ma sp) (some (.int (oI (dpN s c)))) (fun w' => mSt w0 mo s sv kp bf ty 0 w') := by
  refine kCtrW.of pl6 nlX6_dearest rfl (Nat.le_of_ble_eq_true rfl) (fun n => ?_)
  refine kw_aload_n (pc := 0) dX6_dearest_0 rfl ?_
  refine kw_iconst (v := 0) (pc := 1) dX6_dearest_1 (by decide) ?_
  refine kw_putfield (pc := 2) kfw dX6_dearest_2 fX6_27 mM_0 (fun _ _ => rfl) (fun _ _ => rfl) (kW.eq mMf_5 rfl ?_)
  refine kw_aload_n (pc := 5) dX6_dearest_5 rfl ?_
  refine kw_callVr (pc := 6) dX6_dearest_6 lX6_187 (c_dearestParcel hc hc7 hfin) mM_0 rfl rfl rfl ⟨by decide, by decide, Nat.le_of_ble_eq_true rfl⟩ ?_
  exact kw_ireturn nlX6_dearest (pc := 9) dX6_dearest_9 rfl rfl ⟨kv_eq rfl, ⟨_, _, _, _, rfl, agr.rf⟩, rfl⟩
