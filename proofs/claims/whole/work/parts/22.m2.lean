theorem c_atE {w : kM} {x : Int32} {p : Nat} (h : x = nI p) : kCtrR mX6_at 0 [.int x] w (.int (nI (21 + 7 * p))) := by
  subst h
  exact c_at p
set_option maxRecDepth 100000 in
set_option maxHeartbeats 4000000 in
theorem c_rateOf {w0 : kM} {mo : Nat} {s : Nat → Int32} {sv : Int32} {kp bf : Nat → Int32} {ty th : Int32} {co ma : Nat → Int32} {sp : Int32}  (z : Int32) {K : Nat} (hb : bnd z = nI K) (hK : K < 12) : kCtrR mX6_rateOf 1 [.ref mo, .int z] (mM w0 mo s sv kp bf ty th co ma sp) (.int (rM s (K + 1))) := by
  refine kCtrR.of pl6 nlX6_rateOf rfl (Nat.le_of_ble_eq_true rfl) (fun n => ?_)
  have loop : ∀ (m : Nat) (k : Nat), m = K + 1 - k → k ≤ K + 1 → kW (0, fun _ => 0) mX6_rateOf 1 (fun o w' n' => o = .inl (some (.int (rM s (K + 1)))) ∧ w' = (mM w0 mo s sv kp bf ty th co ma sp) ∧ n' = n) 0 0 n (mM w0 mo s sv kp bf ty th co ma sp) 4 [(0, .ref mo), (1, .int z), (2, .int (rM s k)), (3, .int (nI k))] [] := by
    intro m
    induction m using Nat.strongRecOn with
    | _ m ih =>
      intro k hm hk
      refine kw_iload_n (pc := 4) dX6_rateOf_4 rfl ?_
      refine kw_iload_n (pc := 5) dX6_rateOf_5 rfl ?_
      refine kw_callSr (pc := 6) dX6_rateOf_6 lX6_45 (c_bandOf _) rfl rfl ⟨by decide, by decide, Nat.le_of_ble_eq_true rfl⟩ ?_
      refine kw_icmp_gt (tgt := 31) (pc := 9) dX6_rateOf_9 (by decide) (fun h9 => ?_) (fun h9 => ?_)
      · have h9 := (kLtI (a := K) (b := k) (by omega) (by omega) hb rfl).mp h9
        refine kw_iload_n (pc := 31) dX6_rateOf_31 rfl ?_
        exact kw_ireturn nlX6_rateOf (pc := 32) dX6_rateOf_32 rfl rfl ⟨by first | rfl | (have e : k = K + 1 := by omega); rw [e], rfl, rfl⟩
      · have h9 := mt (kLtI (a := K) (b := k) (by omega) (by omega) hb rfl).mpr h9
        refine kw_aload_n (pc := 12) dX6_rateOf_12 rfl ?_
        refine kw_getfield (pc := 13) kfw dX6_rateOf_13 fX6_7 mM_0 rfl ?_
        refine kw_iconst (v := 4) (pc := 16) dX6_rateOf_16 (by decide) ?_
        refine kw_iload_n (pc := 17) dX6_rateOf_17 rfl ?_
        refine kw_iadd (pc := 18) dX6_rateOf_18 ?_
        refine kw_ialoadN (pc := 19) (i := (4 + k)) dX6_rateOf_19 mM_1 (kA (a := 4) (b := k) (rfl : (4 : Int32) = nI 4) rfl) (by omega) (by decide) ?_
        refine kw_iload_n (pc := 20) dX6_rateOf_20 rfl ?_
        refine kw_callSr (pc := 21) dX6_rateOf_21 lX6_49 (c_greater _ _) rfl rfl ⟨by decide, by decide, Nat.le_of_ble_eq_true rfl⟩ ?_
        refine kw_istore_n (pc := 24) dX6_rateOf_24 (by decide) rfl ?_
        refine kw_iinc (pc := 25) dX6_rateOf_25 (by decide) rfl rfl rfl ?_
        refine kw_goto (tgt := 4) (pc := 28) dX6_rateOf_28 (by decide) ?_
        exact kW.locs (ih (K + 1 - (k + 1)) (by omega) (k + 1) rfl (by omega)) ⟨rfl, rfl, rfl, kgE rfl (kA (a := k) (b := 1) rfl (rfl : (Int32.ofInt 1) = nI 1)), trivial⟩
  refine kw_iconst (v := 0) (pc := 0) dX6_rateOf_0 (by decide) ?_
  refine kw_istore_n (pc := 1) dX6_rateOf_1 (by decide) rfl ?_
  refine kw_iconst (v := 0) (pc := 2) dX6_rateOf_2 (by decide) ?_
  refine kw_istore_n (pc := 3) dX6_rateOf_3 (by decide) rfl ?_
  exact kW.locs (loop (K + 1 - 0) 0 rfl (by omega)) ⟨rfl, rfl, rfl, rfl, trivial⟩
set_option maxRecDepth 100000 in
set_option maxHeartbeats 4000000 in
theorem c_rateDown {w0 : kM} {mo : Nat} {s : Nat → Int32} {sv : Int32} {kp bf : Nat → Int32} {ty th : Int32} {co ma : Nat → Int32} {sp : Int32}  (z : Int32) {K : Nat} (hb : bnd z = nI K) (hK : K < 12) : kCtrR mX6_rateDown 1 [.ref mo, .int z] (mM w0 mo s sv kp bf ty th co ma sp) (.int (s (4 + rDn s K K))) := by
  refine kCtrR.of pl6 nlX6_rateDown rfl (Nat.le_of_ble_eq_true rfl) (fun n => ?_)
  have loop : ∀ (j b : Nat), b < 12 → j ≤ 12 → rDn s j b = rDn s K K → kW (0, fun _ => 0) mX6_rateDown 1 (fun o w' n' => o = .inl (some (.int (s (4 + rDn s K K)))) ∧ w' = (mM w0 mo s sv kp bf ty th co ma sp) ∧ n' = n) 0 0 n (mM w0 mo s sv kp bf ty th co ma sp) 12 [(0, .ref mo), (1, .int z), (2, .int (nI b)), (3, .int (nI j - 1))] [] := by
    intro j
    induction j with
    | zero =>
      intro b hb1 hj hr
      refine kw_iload_n (pc := 12) dX6_rateDown_12 rfl ?_
      refine kw_if_lt (tgt := 47) (pc := 13) dX6_rateDown_13 (by decide) (fun h13 => ?_) (fun h13 => ?_)
      · refine kw_aload_n (pc := 47) dX6_rateDown_47 rfl ?_
        refine kw_getfield (pc := 48) kfw dX6_rateDown_48 fX6_7 mM_0 rfl ?_
        refine kw_iconst (v := 4) (pc := 51) dX6_rateDown_51 (by decide) ?_
        refine kw_iload_n (pc := 52) dX6_rateDown_52 rfl ?_
        refine kw_iadd (pc := 53) dX6_rateDown_53 ?_
        refine kw_ialoadN (pc := 54) (i := (4 + b)) dX6_rateDown_54 mM_1 (kA (a := 4) (b := b) (rfl : (4 : Int32) = nI 4) rfl) (by omega) (by decide) ?_
        exact kw_ireturn nlX6_rateDown (pc := 55) dX6_rateDown_55 rfl rfl ⟨by rw [← hr]; rfl, rfl, rfl⟩
      · exact absurd (by decide) h13
    | succ j ih =>
      intro b hb1 hj hr
      refine kW.locs (L' := [(0, .ref mo), (1, .int z), (2, .int (nI b)), (3, .int (nI j))]) ?_ ⟨rfl, rfl, rfl, kgE rfl (nI_pred j), trivial⟩
      refine kw_iload_n (pc := 12) dX6_rateDown_12 rfl ?_
      refine kw_if_lt (tgt := 47) (pc := 13) dX6_rateDown_13 (by decide) (fun h13 => ?_) (fun h13 => ?_)
      · have h13 := (kLtI (a := j) (b := 0) (by omega) (by omega) rfl (rfl : (0 : Int32) = nI 0)).mp h13
        exfalso; omega
      · have h13 := mt (kLtI (a := j) (b := 0) (by omega) (by omega) rfl (rfl : (0 : Int32) = nI 0)).mpr h13
        refine kw_aload_n (pc := 16) dX6_rateDown_16 rfl ?_
        refine kw_getfield (pc := 17) kfw dX6_rateDown_17 fX6_7 mM_0 rfl ?_
        refine kw_iconst (v := 4) (pc := 20) dX6_rateDown_20 (by decide) ?_
        refine kw_iload_n (pc := 21) dX6_rateDown_21 rfl ?_
        refine kw_iadd (pc := 22) dX6_rateDown_22 ?_
        refine kw_ialoadN (pc := 23) (i := (4 + j)) dX6_rateDown_23 mM_1 (kA (a := 4) (b := j) (rfl : (4 : Int32) = nI 4) rfl) (by omega) (by decide) ?_
        refine kw_aload_n (pc := 24) dX6_rateDown_24 rfl ?_
        refine kw_getfield (pc := 25) kfw dX6_rateDown_25 fX6_7 mM_0 rfl ?_
        refine kw_iconst (v := 4) (pc := 28) dX6_rateDown_28 (by decide) ?_
        refine kw_iload_n (pc := 29) dX6_rateDown_29 rfl ?_
        refine kw_iadd (pc := 30) dX6_rateDown_30 ?_
        refine kw_ialoadN (pc := 31) (i := (4 + b)) dX6_rateDown_31 mM_1 (kA (a := 4) (b := b) (rfl : (4 : Int32) = nI 4) rfl) (by omega) (by decide) ?_
        refine kw_icmp_le (tgt := 39) (pc := 32) dX6_rateDown_32 (by decide) (fun h32 => ?_) (fun h32 => ?_)
        · refine kw_iload_n (pc := 39) dX6_rateDown_39 rfl ?_
          refine kw_istore_n (pc := 40) dX6_rateDown_40 (by decide) rfl ?_
          refine kw_iinc (pc := 41) dX6_rateDown_41 (by decide) rfl rfl rfl ?_
          refine kw_goto (tgt := 12) (pc := 44) dX6_rateDown_44 (by decide) ?_
          exact kW.locs (ih b (by omega) (by omega) (by rw [← hr]; grind [rDn])) ⟨rfl, rfl, rfl, kgE rfl (by rw [Int32.sub_eq_add_neg]; rfl), trivial⟩
        · refine kw_iload_n (pc := 35) dX6_rateDown_35 rfl ?_
          refine kw_goto (tgt := 40) (pc := 36) dX6_rateDown_36 (by decide) ?_
          refine kw_istore_n (pc := 40) dX6_rateDown_40 (by decide) rfl ?_
          refine kw_iinc (pc := 41) dX6_rateDown_41 (by decide) rfl rfl rfl ?_
          refine kw_goto (tgt := 12) (pc := 44) dX6_rateDown_44 (by decide) ?_
          exact kW.locs (ih j (by omega) (by omega) (by rw [← hr]; grind [rDn])) ⟨rfl, rfl, rfl, kgE rfl (by rw [Int32.sub_eq_add_neg]; rfl), trivial⟩
  refine kw_iload_n (pc := 0) dX6_rateDown_0 rfl ?_
  refine kw_callSr (pc := 1) dX6_rateDown_1 lX6_45 (c_bandOf _) rfl rfl ⟨by decide, by decide, Nat.le_of_ble_eq_true rfl⟩ ?_
  refine kw_istore_n (pc := 4) dX6_rateDown_4 (by decide) rfl ?_
  refine kw_iload_n (pc := 5) dX6_rateDown_5 rfl ?_
  refine kw_callSr (pc := 6) dX6_rateDown_6 lX6_45 (c_bandOf _) rfl rfl ⟨by decide, by decide, Nat.le_of_ble_eq_true rfl⟩ ?_
  refine kw_iconst (v := 1) (pc := 9) dX6_rateDown_9 (by decide) ?_
  refine kw_isub (pc := 10) dX6_rateDown_10 ?_
  refine kw_istore_n (pc := 11) dX6_rateDown_11 (by decide) rfl ?_
  exact kW.locs (loop K K hK (by omega) rfl) ⟨rfl, rfl, kgE rfl hb, kgE rfl (by rw [hb]), trivial⟩
set_option maxRecDepth 100000 in
set_option maxHeartbeats 4000000 in
theorem c_postageWith {w0 : kM} {mo : Nat} {s : Nat → Int32} {sv : Int32} {kp bf : Nat → Int32} {ty th : Int32} {co ma : Nat → Int32} {sp : Int32}  {p : Nat} (hp : p + 6 < 682) (z : Int32) (h4 : fineZ (pa s p)) (h5 : fineB z) : kCtrR mX6_postageWith 2 [.ref mo, .int (nI p), .int z] (mM w0 mo s sv kp bf ty th co ma sp) (.int (pW s (pa s p) z)) := by
  refine kCtrR.of pl6 nlX6_postageWith rfl (Nat.le_of_ble_eq_true rfl) (fun n => ?_)
  obtain ⟨zz, hzz, hz⟩ := h4
  obtain ⟨K, hK, hb⟩ := h5
  refine kw_aload_n (pc := 0) dX6_postageWith_0 rfl ?_
  refine kw_iload_n (pc := 1) dX6_postageWith_1 rfl ?_
  refine kw_callVr (pc := 2) dX6_postageWith_2 lX6_56 (c_rateOf _ hb hK) mM_0 rfl rfl rfl ⟨by decide, by decide, Nat.le_of_ble_eq_true rfl⟩ ?_
  refine kw_aload_n (pc := 5) dX6_postageWith_5 rfl ?_
  refine kw_getfield (pc := 6) kfw dX6_postageWith_6 fX6_7 mM_0 rfl ?_
  refine kw_bipush (v := 16) (pc := 9) dX6_postageWith_9 (by decide) ?_
  refine kw_aload_n (pc := 11) dX6_postageWith_11 rfl ?_
  refine kw_getfield (pc := 12) kfw dX6_postageWith_12 fX6_7 mM_0 rfl ?_
  refine kw_iload_n (pc := 15) dX6_postageWith_15 rfl ?_
  refine kw_iconst (v := 4) (pc := 16) dX6_postageWith_16 (by decide) ?_
  refine kw_iadd (pc := 17) dX6_postageWith_17 ?_
  refine kw_ialoadN (pc := 18) (i := (p + 4)) dX6_postageWith_18 mM_1 (kA (a := p) (b := 4) rfl (rfl : (4 : Int32) = nI 4)) (by omega) (by decide) ?_
  refine kw_iadd (pc := 19) dX6_postageWith_19 ?_
  refine kw_ialoadN (pc := 20) (i := (16 + zz)) dX6_postageWith_20 mM_1 (kA (a := 16) (b := zz) (rfl : (16 : Int32) = nI 16) hz) (by omega) (by decide) ?_
  refine kw_imul (pc := 21) dX6_postageWith_21 ?_
  refine kw_istore_n (pc := 22) dX6_postageWith_22 (by decide) rfl ?_
  refine kw_iload_n (pc := 23) dX6_postageWith_23 rfl ?_
  refine kw_aload_n (pc := 24) dX6_postageWith_24 rfl ?_
  refine kw_iload_n (pc := 25) dX6_postageWith_25 rfl ?_
  refine kw_callVr (pc := 26) dX6_postageWith_26 lX6_59 (c_isOdd hp) mM_0 rfl rfl rfl ⟨by decide, by decide, Nat.le_of_ble_eq_true rfl⟩ ?_
  refine kw_if_eq (tgt := 38) (pc := 29) dX6_postageWith_29 (by decide) (fun h29 => ?_) (fun h29 => ?_)
  · refine kw_iconst (v := 0) (pc := 38) dX6_postageWith_38 (by decide) ?_
    refine kw_iadd (pc := 39) dX6_postageWith_39 ?_
    refine kw_aload_n (pc := 40) dX6_postageWith_40 rfl ?_
    refine kw_getfield (pc := 41) kfw dX6_postageWith_41 fX6_7 mM_0 rfl ?_
    refine kw_iconst (v := 2) (pc := 44) dX6_postageWith_44 (by decide) ?_
    refine kw_ialoadN (pc := 45) (i := 2) dX6_postageWith_45 mM_1 (rfl : (2 : Int32) = nI 2) (by omega) (by decide) ?_
    refine kw_aload_n (pc := 46) dX6_postageWith_46 rfl ?_
    refine kw_getfield (pc := 47) kfw dX6_postageWith_47 fX6_7 mM_0 rfl ?_
    refine kw_iload_n (pc := 50) dX6_postageWith_50 rfl ?_
    refine kw_iconst (v := 5) (pc := 51) dX6_postageWith_51 (by decide) ?_
    refine kw_iadd (pc := 52) dX6_postageWith_52 ?_
    refine kw_ialoadN (pc := 53) (i := (p + 5)) dX6_postageWith_53 mM_1 (kA (a := p) (b := 5) rfl (rfl : (5 : Int32) = nI 5)) (by omega) (by decide) ?_
    refine kw_imul (pc := 54) dX6_postageWith_54 ?_
    refine kw_iadd (pc := 55) dX6_postageWith_55 ?_
    exact kw_ireturn nlX6_postageWith (pc := 56) dX6_postageWith_56 rfl rfl ⟨kv_eq (by rw [pW_of hb hK hz hzz]; grind [b2i]), rfl, rfl⟩
  · refine kw_iload_n (pc := 32) dX6_postageWith_32 rfl ?_
    refine kw_iconst (v := 2) (pc := 33) dX6_postageWith_33 (by decide) ?_
    refine kw_idiv (pc := 34) dX6_postageWith_34 (by decide) ?_
    refine kw_goto (tgt := 39) (pc := 35) dX6_postageWith_35 (by decide) ?_
    refine kw_iadd (pc := 39) dX6_postageWith_39 ?_
    refine kw_aload_n (pc := 40) dX6_postageWith_40 rfl ?_
    refine kw_getfield (pc := 41) kfw dX6_postageWith_41 fX6_7 mM_0 rfl ?_
    refine kw_iconst (v := 2) (pc := 44) dX6_postageWith_44 (by decide) ?_
    refine kw_ialoadN (pc := 45) (i := 2) dX6_postageWith_45 mM_1 (rfl : (2 : Int32) = nI 2) (by omega) (by decide) ?_
    refine kw_aload_n (pc := 46) dX6_postageWith_46 rfl ?_
    refine kw_getfield (pc := 47) kfw dX6_postageWith_47 fX6_7 mM_0 rfl ?_
    refine kw_iload_n (pc := 50) dX6_postageWith_50 rfl ?_
    refine kw_iconst (v := 5) (pc := 51) dX6_postageWith_51 (by decide) ?_
    refine kw_iadd (pc := 52) dX6_postageWith_52 ?_
    refine kw_ialoadN (pc := 53) (i := (p + 5)) dX6_postageWith_53 mM_1 (kA (a := p) (b := 5) rfl (rfl : (5 : Int32) = nI 5)) (by omega) (by decide) ?_
    refine kw_imul (pc := 54) dX6_postageWith_54 ?_
    refine kw_iadd (pc := 55) dX6_postageWith_55 ?_
    exact kw_ireturn nlX6_postageWith (pc := 56) dX6_postageWith_56 rfl rfl ⟨kv_eq (by rw [pW_of hb hK hz hzz]; grind [b2i]), rfl, rfl⟩
set_option maxRecDepth 100000 in
set_option maxHeartbeats 4000000 in
theorem c_postage {w0 : kM} {mo : Nat} {s : Nat → Int32} {sv : Int32} {kp bf : Nat → Int32} {ty th : Int32} {co ma : Nat → Int32} {sp : Int32}  {p : Nat} (hp : p + 6 < 682) (hf : fineP s (pa s p)) : kCtrR mX6_postage 3 [.ref mo, .int (nI p)] (mM w0 mo s sv kp bf ty th co ma sp) (.int (pP s (pa s p))) := by
  refine kCtrR.of pl6 nlX6_postage rfl (Nat.le_of_ble_eq_true rfl) (fun n => ?_)
  refine kw_aload_n (pc := 0) dX6_postage_0 rfl ?_
  refine kw_iload_n (pc := 1) dX6_postage_1 rfl ?_
  refine kw_aload_n (pc := 2) dX6_postage_2 rfl ?_
  refine kw_iload_n (pc := 3) dX6_postage_3 rfl ?_
  refine kw_callVr (pc := 4) dX6_postage_4 lX6_63 (c_string hp) mM_0 rfl rfl rfl ⟨by decide, by decide, Nat.le_of_ble_eq_true rfl⟩ ?_
  refine kw_callVr (pc := 7) dX6_postage_7 lX6_66 (c_postageWith hp _ hf.1 hf.2) mM_0 rfl rfl rfl ⟨by decide, by decide, Nat.le_of_ble_eq_true rfl⟩ ?_
  exact kw_ireturn nlX6_postage (pc := 10) dX6_postage_10 rfl rfl (by exact ⟨rfl, rfl, rfl⟩)
set_option maxRecDepth 100000 in
set_option maxHeartbeats 4000000 in
theorem c_alone {w0 : kM} {mo : Nat} {s : Nat → Int32} {sv : Int32} {kp bf : Nat → Int32} {ty th : Int32} {co ma : Nat → Int32} {sp : Int32}  {k : Nat} (hk : k < 7) (hf : fineP s (pa s (21 + 7 * k))) : kCtrR mX6_alone 4 [.ref mo, .int (nI k)] (mM w0 mo s sv kp bf ty th co ma sp) (.int (pAl s (pa s (21 + 7 * k)))) := by
  refine kCtrR.of pl6 nlX6_alone rfl (Nat.le_of_ble_eq_true rfl) (fun n => ?_)
  refine kw_aload_n (pc := 0) dX6_alone_0 rfl ?_
  refine kw_iload_n (pc := 1) dX6_alone_1 rfl ?_
  refine kw_callSr (pc := 2) dX6_alone_2 lX6_69 (c_atE (p := k) rfl) rfl rfl ⟨by decide, by decide, Nat.le_of_ble_eq_true rfl⟩ ?_
  refine kw_callVr (pc := 5) dX6_alone_5 lX6_76 (c_reason (by omega)) mM_0 rfl rfl rfl ⟨by decide, by decide, Nat.le_of_ble_eq_true rfl⟩ ?_
  refine kw_if_ne (tgt := 22) (pc := 8) dX6_alone_8 (by decide) (fun h8 => ?_) (fun h8 => ?_)
  · refine kw_iconst (v := 0) (pc := 22) dX6_alone_22 (by decide) ?_
    exact kw_ireturn nlX6_alone (pc := 23) dX6_alone_23 rfl rfl ⟨kv_eq (by grind [pAl]), rfl, rfl⟩
  · refine kw_aload_n (pc := 11) dX6_alone_11 rfl ?_
    refine kw_iload_n (pc := 12) dX6_alone_12 rfl ?_
    refine kw_callSr (pc := 13) dX6_alone_13 lX6_69 (c_atE (p := k) rfl) rfl rfl ⟨by decide, by decide, Nat.le_of_ble_eq_true rfl⟩ ?_
    refine kw_callVr (pc := 16) dX6_alone_16 lX6_83 (c_postage (by omega) hf) mM_0 rfl rfl rfl ⟨by decide, by decide, Nat.le_of_ble_eq_true rfl⟩ ?_
    refine kw_goto (tgt := 23) (pc := 19) dX6_alone_19 (by decide) ?_
    exact kw_ireturn nlX6_alone (pc := 23) dX6_alone_23 rfl rfl ⟨kv_eq (by grind [pAl]), rfl, rfl⟩
set_option maxRecDepth 100000 in
set_option maxHeartbeats 4000000 in
theorem c_isParcel {w0 : kM} {mo : Nat} {s : Nat → Int32} {sv : Int32} {kp bf : Nat → Int32} {ty th : Int32} {co ma : Nat → Int32} {sp : Int32}  (p : Int32) : kCtrR mX6_isParcel 1 [.ref mo, .int p] (mM w0 mo s sv kp bf ty th co ma sp) (.int (b2i (0 ≤ p ∧ p ≤ s 20 - 1))) := by
  refine kCtrR.of pl6 nlX6_isParcel rfl (Nat.le_of_ble_eq_true rfl) (fun n => ?_)
  refine kw_iload_n (pc := 0) dX6_isParcel_0 rfl ?_
  refine kw_iconst (v := 0) (pc := 1) dX6_isParcel_1 (by decide) ?_
  refine kw_aload_n (pc := 2) dX6_isParcel_2 rfl ?_
  refine kw_getfield (pc := 3) kfw dX6_isParcel_3 fX6_7 mM_0 rfl ?_
  refine kw_bipush (v := 20) (pc := 6) dX6_isParcel_6 (by decide) ?_
  refine kw_ialoadN (pc := 8) (i := 20) dX6_isParcel_8 mM_1 (rfl : (20 : Int32) = nI 20) (by omega) (by decide) ?_
  refine kw_iconst (v := 1) (pc := 9) dX6_isParcel_9 (by decide) ?_
  refine kw_isub (pc := 10) dX6_isParcel_10 ?_
  refine kw_callSr (pc := 11) dX6_isParcel_11 lX6_41 (c_in _ _ _) rfl rfl ⟨by decide, by decide, Nat.le_of_ble_eq_true rfl⟩ ?_
  exact kw_ireturn nlX6_isParcel (pc := 14) dX6_isParcel_14 rfl (by first | rfl | exact b2i_z _ | exact hbool) (by exact ⟨rfl, rfl, rfl⟩)
set_option maxRecDepth 100000 in
set_option maxHeartbeats 4000000 in
theorem c_isValue {w : kM}  (st v : Int32) : kCtrR mX6_isValue 1 [.int st, .int v] w (.int (b2i ((if st = 1 then 50 else 0) ≤ v ∧ v ≤ (if st = 1 then 300 else if st = 3 then 50 else 20)))) := by
  refine kCtrR.of pl6 nlX6_isValue rfl (Nat.le_of_ble_eq_true rfl) (fun n => ?_)
  refine kw_iload_n (pc := 0) dX6_isValue_0 rfl ?_
  refine kw_iload_n (pc := 1) dX6_isValue_1 rfl ?_
  refine kw_iconst (v := 1) (pc := 2) dX6_isValue_2 (by decide) ?_
  refine kw_icmp_ne (tgt := 11) (pc := 3) dX6_isValue_3 (by decide) (fun h3 => ?_) (fun h3 => ?_)
  · refine kw_iconst (v := 0) (pc := 11) dX6_isValue_11 (by decide) ?_
    refine kw_iload_n (pc := 12) dX6_isValue_12 rfl ?_
    refine kw_iconst (v := 1) (pc := 13) dX6_isValue_13 (by decide) ?_
    refine kw_icmp_ne (tgt := 23) (pc := 14) dX6_isValue_14 (by decide) (fun h14 => ?_) (fun h14 => ?_)
    · refine kw_iload_n (pc := 23) dX6_isValue_23 rfl ?_
      refine kw_iconst (v := 3) (pc := 24) dX6_isValue_24 (by decide) ?_
      refine kw_icmp_ne (tgt := 33) (pc := 25) dX6_isValue_25 (by decide) (fun h25 => ?_) (fun h25 => ?_)
      · refine kw_bipush (v := 20) (pc := 33) dX6_isValue_33 (by decide) ?_
        refine kw_callSr (pc := 35) dX6_isValue_35 lX6_41 (c_in _ _ _) rfl rfl ⟨by decide, by decide, Nat.le_of_ble_eq_true rfl⟩ ?_
        exact kw_ireturn nlX6_isValue (pc := 38) dX6_isValue_38 rfl (by first | rfl | exact b2i_z _ | exact hbool) ⟨kv_eq (by grind [b2i]), rfl, rfl⟩
      · refine kw_bipush (v := 50) (pc := 28) dX6_isValue_28 (by decide) ?_
        refine kw_goto (tgt := 35) (pc := 30) dX6_isValue_30 (by decide) ?_
        refine kw_callSr (pc := 35) dX6_isValue_35 lX6_41 (c_in _ _ _) rfl rfl ⟨by decide, by decide, Nat.le_of_ble_eq_true rfl⟩ ?_
        exact kw_ireturn nlX6_isValue (pc := 38) dX6_isValue_38 rfl (by first | rfl | exact b2i_z _ | exact hbool) ⟨kv_eq (by grind [b2i]), rfl, rfl⟩
    · refine kw_sipush (v := 300) (pc := 17) dX6_isValue_17 (by decide) ?_
      refine kw_goto (tgt := 35) (pc := 20) dX6_isValue_20 (by decide) ?_
      refine kw_callSr (pc := 35) dX6_isValue_35 lX6_41 (c_in _ _ _) rfl rfl ⟨by decide, by decide, Nat.le_of_ble_eq_true rfl⟩ ?_
      exact kw_ireturn nlX6_isValue (pc := 38) dX6_isValue_38 rfl (by first | rfl | exact b2i_z _ | exact hbool) ⟨kv_eq (by grind [b2i]), rfl, rfl⟩
  · refine kw_bipush (v := 50) (pc := 6) dX6_isValue_6 (by decide) ?_
    refine kw_goto (tgt := 12) (pc := 8) dX6_isValue_8 (by decide) ?_
    refine kw_iload_n (pc := 12) dX6_isValue_12 rfl ?_
    refine kw_iconst (v := 1) (pc := 13) dX6_isValue_13 (by decide) ?_
    refine kw_icmp_ne (tgt := 23) (pc := 14) dX6_isValue_14 (by decide) (fun h14 => ?_) (fun h14 => ?_)
    · refine kw_iload_n (pc := 23) dX6_isValue_23 rfl ?_
      refine kw_iconst (v := 3) (pc := 24) dX6_isValue_24 (by decide) ?_
      refine kw_icmp_ne (tgt := 33) (pc := 25) dX6_isValue_25 (by decide) (fun h25 => ?_) (fun h25 => ?_)
      · refine kw_bipush (v := 20) (pc := 33) dX6_isValue_33 (by decide) ?_
        refine kw_callSr (pc := 35) dX6_isValue_35 lX6_41 (c_in _ _ _) rfl rfl ⟨by decide, by decide, Nat.le_of_ble_eq_true rfl⟩ ?_
        exact kw_ireturn nlX6_isValue (pc := 38) dX6_isValue_38 rfl (by first | rfl | exact b2i_z _ | exact hbool) ⟨kv_eq (by grind [b2i]), rfl, rfl⟩
      · refine kw_bipush (v := 50) (pc := 28) dX6_isValue_28 (by decide) ?_
        refine kw_goto (tgt := 35) (pc := 30) dX6_isValue_30 (by decide) ?_
        refine kw_callSr (pc := 35) dX6_isValue_35 lX6_41 (c_in _ _ _) rfl rfl ⟨by decide, by decide, Nat.le_of_ble_eq_true rfl⟩ ?_
        exact kw_ireturn nlX6_isValue (pc := 38) dX6_isValue_38 rfl (by first | rfl | exact b2i_z _ | exact hbool) ⟨kv_eq (by grind [b2i]), rfl, rfl⟩
    · refine kw_sipush (v := 300) (pc := 17) dX6_isValue_17 (by decide) ?_
      refine kw_goto (tgt := 35) (pc := 20) dX6_isValue_20 (by decide) ?_
      refine kw_callSr (pc := 35) dX6_isValue_35 lX6_41 (c_in _ _ _) rfl rfl ⟨by decide, by decide, Nat.le_of_ble_eq_true rfl⟩ ?_
      exact kw_ireturn nlX6_isValue (pc := 38) dX6_isValue_38 rfl (by first | rfl | exact b2i_z _ | exact hbool) ⟨kv_eq (by grind [b2i]), rfl, rfl⟩
set_option maxRecDepth 100000 in
set_option maxHeartbeats 4000000 in
theorem c_goes {w0 : kM} {mo : Nat} {s : Nat → Int32} {sv : Int32} {kp bf : Nat → Int32} {ty th : Int32} {co ma : Nat → Int32} {sp : Int32}  (a b : Int32) : kCtrW mX6_goes 0 [.ref mo, .int a, .int b] (mM w0 mo s sv kp bf ty th co ma sp) (some (.int (b2i (a ≠ 0 ∧ b ≠ 0)))) (fun w' => w' = (mM w0 mo s sv kp bf ty (goesT a b) co ma sp)) := by
  refine kCtrW.of pl6 nlX6_goes rfl (Nat.le_of_ble_eq_true rfl) (fun n => ?_)
  refine kw_aload_n (pc := 0) dX6_goes_0 rfl ?_
  refine kw_iload_n (pc := 1) dX6_goes_1 rfl ?_
  refine kw_if_ne (tgt := 9) (pc := 2) dX6_goes_2 (by decide) (fun h2 => ?_) (fun h2 => ?_)
  · refine kw_iload_n (pc := 9) dX6_goes_9 rfl ?_
    refine kw_if_ne (tgt := 17) (pc := 10) dX6_goes_10 (by decide) (fun h10 => ?_) (fun h10 => ?_)
    · refine kw_iconst (v := 0) (pc := 17) dX6_goes_17 (by decide) ?_
      refine kw_putfield (pc := 18) kfw dX6_goes_18 fX6_27 mM_0 (fun _ _ => rfl) (fun _ _ => rfl) (kW.eq mMf_5 rfl ?_)
      refine kw_aload_n (pc := 21) dX6_goes_21 rfl ?_
      refine kw_getfield (pc := 22) kfw dX6_goes_22 fX6_27 mM_0 rfl ?_
      refine kw_if_ne (tgt := 32) (pc := 25) dX6_goes_25 (by decide) (fun h25 => ?_) (fun h25 => ?_)
      · refine kw_iconst (v := 0) (pc := 32) dX6_goes_32 (by decide) ?_
        exact kw_ireturn nlX6_goes (pc := 33) dX6_goes_33 rfl (by first | rfl | exact b2i_z _ | exact hbool) ⟨kv_eq (by grind [b2i]), by simp [goesT, *], rfl⟩
      · refine kw_iconst (v := 1) (pc := 28) dX6_goes_28 (by decide) ?_
        refine kw_goto (tgt := 33) (pc := 29) dX6_goes_29 (by decide) ?_
        exact kw_ireturn nlX6_goes (pc := 33) dX6_goes_33 rfl (by first | rfl | exact b2i_z _ | exact hbool) ⟨kv_eq (by grind [b2i]), by simp [goesT, *], rfl⟩
    · refine kw_iconst (v := 2) (pc := 13) dX6_goes_13 (by decide) ?_
      refine kw_goto (tgt := 18) (pc := 14) dX6_goes_14 (by decide) ?_
      refine kw_putfield (pc := 18) kfw dX6_goes_18 fX6_27 mM_0 (fun _ _ => rfl) (fun _ _ => rfl) (kW.eq mMf_5 rfl ?_)
      refine kw_aload_n (pc := 21) dX6_goes_21 rfl ?_
      refine kw_getfield (pc := 22) kfw dX6_goes_22 fX6_27 mM_0 rfl ?_
      refine kw_if_ne (tgt := 32) (pc := 25) dX6_goes_25 (by decide) (fun h25 => ?_) (fun h25 => ?_)
      · refine kw_iconst (v := 0) (pc := 32) dX6_goes_32 (by decide) ?_
        exact kw_ireturn nlX6_goes (pc := 33) dX6_goes_33 rfl (by first | rfl | exact b2i_z _ | exact hbool) ⟨kv_eq (by grind [b2i]), by simp [goesT, *], rfl⟩
      · refine kw_iconst (v := 1) (pc := 28) dX6_goes_28 (by decide) ?_
        refine kw_goto (tgt := 33) (pc := 29) dX6_goes_29 (by decide) ?_
        exact kw_ireturn nlX6_goes (pc := 33) dX6_goes_33 rfl (by first | rfl | exact b2i_z _ | exact hbool) ⟨kv_eq (by grind [b2i]), by simp [goesT, *], rfl⟩
  · refine kw_iconst (v := 1) (pc := 5) dX6_goes_5 (by decide) ?_
    refine kw_goto (tgt := 18) (pc := 6) dX6_goes_6 (by decide) ?_
    refine kw_putfield (pc := 18) kfw dX6_goes_18 fX6_27 mM_0 (fun _ _ => rfl) (fun _ _ => rfl) (kW.eq mMf_5 rfl ?_)
    refine kw_aload_n (pc := 21) dX6_goes_21 rfl ?_
    refine kw_getfield (pc := 22) kfw dX6_goes_22 fX6_27 mM_0 rfl ?_
    refine kw_if_ne (tgt := 32) (pc := 25) dX6_goes_25 (by decide) (fun h25 => ?_) (fun h25 => ?_)
    · refine kw_iconst (v := 0) (pc := 32) dX6_goes_32 (by decide) ?_
      exact kw_ireturn nlX6_goes (pc := 33) dX6_goes_33 rfl (by first | rfl | exact b2i_z _ | exact hbool) ⟨kv_eq (by grind [b2i]), by simp [goesT, *], rfl⟩
    · refine kw_iconst (v := 1) (pc := 28) dX6_goes_28 (by decide) ?_
      refine kw_goto (tgt := 33) (pc := 29) dX6_goes_29 (by decide) ?_
      exact kw_ireturn nlX6_goes (pc := 33) dX6_goes_33 rfl (by first | rfl | exact b2i_z _ | exact hbool) ⟨kv_eq (by grind [b2i]), by simp [goesT, *], rfl⟩
set_option maxRecDepth 100000 in
set_option maxHeartbeats 4000000 in
theorem c_sorts {w0 : kM} {mo : Nat} {s : Nat → Int32} {sv : Int32} {kp bf : Nat → Int32} {ty th : Int32} {co ma : Nat → Int32} {sp : Int32}  {p : Nat} (hp : p + 6 < 682) (x y z : Int32) : kCtrW mX6_sorts 1 [.ref mo, .int (nI p), .int x, .int y, .int z] (mM w0 mo s sv kp bf ty th co ma sp) none (fun w' => w' = (mM w0 mo (putS s p x y z) sv kp bf ty th co ma sp)) := by
  refine kCtrW.of pl6 nlX6_sorts rfl (Nat.le_of_ble_eq_true rfl) (fun n => ?_)
  refine kw_iload_n (pc := 0) dX6_sorts_0 rfl ?_
  refine kw_iload_n (pc := 1) dX6_sorts_1 rfl ?_
  refine kw_iload (pc := 2) dX6_sorts_2 rfl ?_
  refine kw_callSr (pc := 4) dX6_sorts_4 lX6_49 (c_greater _ _) rfl rfl ⟨by decide, by decide, Nat.le_of_ble_eq_true rfl⟩ ?_
  refine kw_callSr (pc := 7) dX6_sorts_7 lX6_49 (c_greater _ _) rfl rfl ⟨by decide, by decide, Nat.le_of_ble_eq_true rfl⟩ ?_
  refine kw_istore (pc := 10) dX6_sorts_10 (by decide) rfl ?_
  refine kw_iload_n (pc := 12) dX6_sorts_12 rfl ?_
  refine kw_ineg (pc := 13) dX6_sorts_13 ?_
  refine kw_iload_n (pc := 14) dX6_sorts_14 rfl ?_
  refine kw_ineg (pc := 15) dX6_sorts_15 ?_
  refine kw_iload (pc := 16) dX6_sorts_16 rfl ?_
  refine kw_ineg (pc := 18) dX6_sorts_18 ?_
  refine kw_callSr (pc := 19) dX6_sorts_19 lX6_49 (c_greater _ _) rfl rfl ⟨by decide, by decide, Nat.le_of_ble_eq_true rfl⟩ ?_
  refine kw_callSr (pc := 22) dX6_sorts_22 lX6_49 (c_greater _ _) rfl rfl ⟨by decide, by decide, Nat.le_of_ble_eq_true rfl⟩ ?_
  refine kw_ineg (pc := 25) dX6_sorts_25 ?_
  refine kw_istore (pc := 26) dX6_sorts_26 (by decide) rfl ?_
  refine kw_aload_n (pc := 28) dX6_sorts_28 rfl ?_
  refine kw_getfield (pc := 29) kfw dX6_sorts_29 fX6_7 mM_0 rfl ?_
  refine kw_iload_n (pc := 32) dX6_sorts_32 rfl ?_
  refine kw_iload (pc := 33) dX6_sorts_33 rfl ?_
  refine kw_iastoreN (pc := 35) (i := p) dX6_sorts_35 mM_1 rfl (by omega) (by decide) (kW.eq mMs_1 rfl ?_)
  refine kw_aload_n (pc := 36) dX6_sorts_36 rfl ?_
  refine kw_getfield (pc := 37) kfw dX6_sorts_37 fX6_7 mM_0 rfl ?_
  refine kw_iload_n (pc := 40) dX6_sorts_40 rfl ?_
  refine kw_iconst (v := 1) (pc := 41) dX6_sorts_41 (by decide) ?_
  refine kw_iadd (pc := 42) dX6_sorts_42 ?_
  refine kw_iload_n (pc := 43) dX6_sorts_43 rfl ?_
  refine kw_iload_n (pc := 44) dX6_sorts_44 rfl ?_
  refine kw_iadd (pc := 45) dX6_sorts_45 ?_
  refine kw_iload (pc := 46) dX6_sorts_46 rfl ?_
  refine kw_iadd (pc := 48) dX6_sorts_48 ?_
  refine kw_iload (pc := 49) dX6_sorts_49 rfl ?_
  refine kw_isub (pc := 51) dX6_sorts_51 ?_
  refine kw_iload (pc := 52) dX6_sorts_52 rfl ?_
  refine kw_isub (pc := 54) dX6_sorts_54 ?_
  refine kw_iastoreN (pc := 55) (i := (p + 1)) dX6_sorts_55 mM_1 (kA (a := p) (b := 1) rfl (rfl : (1 : Int32) = nI 1)) (by omega) (by decide) (kW.eq mMs_1 rfl ?_)
  refine kw_aload_n (pc := 56) dX6_sorts_56 rfl ?_
  refine kw_getfield (pc := 57) kfw dX6_sorts_57 fX6_7 mM_0 rfl ?_
  refine kw_iload_n (pc := 60) dX6_sorts_60 rfl ?_
  refine kw_iconst (v := 2) (pc := 61) dX6_sorts_61 (by decide) ?_
  refine kw_iadd (pc := 62) dX6_sorts_62 ?_
  refine kw_iload (pc := 63) dX6_sorts_63 rfl ?_
  refine kw_iastoreN (pc := 65) (i := (p + 2)) dX6_sorts_65 mM_1 (kA (a := p) (b := 2) rfl (rfl : (2 : Int32) = nI 2)) (by omega) (by decide) (kW.eq mMs_1 rfl ?_)
  exact kw_return nlX6_sorts (pc := 66) dX6_sorts_66 rfl ⟨rfl, rfl, rfl⟩
set_option maxRecDepth 100000 in
set_option maxHeartbeats 4000000 in
theorem c_copies {w0 : kM} {mo : Nat} {s : Nat → Int32} {sv : Int32} {kp bf : Nat → Int32} {ty th : Int32} {co ma : Nat → Int32} {sp : Int32}  {f t : Nat} (hf : f < 9) (ht : t < 9) (hft : f ≠ t) : kCtrW mX6_copies 0 [.ref mo, .int (nI f), .int (nI t)] (mM w0 mo s sv kp bf ty th co ma sp) none (fun w' => w' = (mM w0 mo (cpR s f t 75) sv kp bf ty th co ma sp)) := by
  refine kCtrW.of pl6 nlX6_copies rfl (Nat.le_of_ble_eq_true rfl) (fun n => ?_)
  have loop : ∀ (m : Nat) (k : Nat), m = 75 - k → k ≤ 75 → kW (0, fun _ => 0) mX6_copies 0 (fun o w' n' => o = .inl none ∧ (fun w' => w' = (mM w0 mo (cpR s f t 75) sv kp bf ty th co ma sp)) w' ∧ n' = n) 0 0 n (mM w0 mo (cpR s f t k) sv kp bf ty th co ma sp) 2 [(0, .ref mo), (1, .int (nI f)), (2, .int (nI t)), (3, .int (nI k))] [] := by
    intro m
    induction m using Nat.strongRecOn with
    | _ m ih =>
      intro k hm hk
      refine kw_iload_n (pc := 2) dX6_copies_2 rfl ?_
      refine kw_bipush (v := 75) (pc := 3) dX6_copies_3 (by decide) ?_
      refine kw_icmp_ge (tgt := 36) (pc := 5) dX6_copies_5 (by decide) (fun h5 => ?_) (fun h5 => ?_)
      · have h5 := (kLeI (a := 75) (b := k) (by omega) (by omega) (rfl : (75 : Int32) = nI 75) rfl).mp h5
        exact kw_return nlX6_copies (pc := 36) dX6_copies_36 rfl ⟨rfl, by rw [show k = 75 by omega], rfl⟩
      · have h5 := mt (kLeI (a := 75) (b := k) (by omega) (by omega) (rfl : (75 : Int32) = nI 75) rfl).mpr h5
        have hlt : k < 75 := by omega
        refine kw_aload_n (pc := 8) dX6_copies_8 rfl ?_
        refine kw_getfield (pc := 9) kfw dX6_copies_9 fX6_7 mM_0 rfl ?_
        refine kw_bipush (v := 75) (pc := 12) dX6_copies_12 (by decide) ?_
        refine kw_iload_n (pc := 14) dX6_copies_14 rfl ?_
        refine kw_imul (pc := 15) dX6_copies_15 ?_
        refine kw_iload_n (pc := 16) dX6_copies_16 rfl ?_
        refine kw_iadd (pc := 17) dX6_copies_17 ?_
        refine kw_aload_n (pc := 18) dX6_copies_18 rfl ?_
        refine kw_getfield (pc := 19) kfw dX6_copies_19 fX6_7 mM_0 rfl ?_
        refine kw_bipush (v := 75) (pc := 22) dX6_copies_22 (by decide) ?_
        refine kw_iload_n (pc := 24) dX6_copies_24 rfl ?_
        refine kw_imul (pc := 25) dX6_copies_25 ?_
        refine kw_iload_n (pc := 26) dX6_copies_26 rfl ?_
        refine kw_iadd (pc := 27) dX6_copies_27 ?_
        refine kw_ialoadN (pc := 28) (i := ((75 * f) + k)) dX6_copies_28 mM_1 (kA (a := (75 * f)) (b := k) (kMu (a := 75) (b := f) (rfl : (75 : Int32) = nI 75) rfl) rfl) (by omega) (by decide) ?_
        refine kw_iastoreN (pc := 29) (i := ((75 * t) + k)) dX6_copies_29 mM_1 (kA (a := (75 * t)) (b := k) (kMu (a := 75) (b := t) (rfl : (75 : Int32) = nI 75) rfl) rfl) (by omega) (by decide) (kW.eq mMs_1 rfl ?_)
        refine kw_iinc (pc := 30) dX6_copies_30 (by decide) rfl rfl rfl ?_
        refine kw_goto (tgt := 2) (pc := 33) dX6_copies_33 (by decide) ?_
        refine kW.eq (by rw [cpR_step hft hlt]) rfl ?_
        exact kW.locs (ih (75 - (k + 1)) (by omega) (k + 1) rfl (by omega)) ⟨rfl, rfl, rfl, kgE rfl (kA (a := k) (b := 1) rfl (rfl : (Int32.ofInt 1) = nI 1)), trivial⟩
  refine kw_iconst (v := 0) (pc := 0) dX6_copies_0 (by decide) ?_
  refine kw_istore_n (pc := 1) dX6_copies_1 (by decide) rfl ?_
  refine kW.eq (w' := (mM w0 mo (cpR s f t 0) sv kp bf ty th co ma sp)) (by rw [cpR_0]) rfl ?_
  exact kW.locs (loop (75 - 0) 0 rfl (by omega)) ⟨rfl, rfl, rfl, rfl, trivial⟩
set_option maxRecDepth 100000 in
set_option maxHeartbeats 4000000 in
theorem c_lowBands {w0 : kM} {mo : Nat} {s : Nat → Int32} {sv : Int32} {kp bf : Nat → Int32} {ty th : Int32} {co ma : Nat → Int32} {sp : Int32}   : kCtrR mX6_lowBands 1 [.ref mo] (mM w0 mo s sv kp bf ty th co ma sp) (.int (lowN s 12)) := by
  refine kCtrR.of pl6 nlX6_lowBands rfl (Nat.le_of_ble_eq_true rfl) (fun n => ?_)
  have loop : ∀ (m : Nat) (k : Nat), m = 12 - k → k ≤ 12 → kW (0, fun _ => 0) mX6_lowBands 1 (fun o w' n' => o = .inl (some (.int (lowN s 12))) ∧ w' = (mM w0 mo s sv kp bf ty th co ma sp) ∧ n' = n) 0 0 n (mM w0 mo s sv kp bf ty th co ma sp) 6 [(0, .ref mo), (1, .int (lowN s k)), (2, .int (rM s k)), (3, .int (nI k))] [] := by
    intro m
    induction m using Nat.strongRecOn with
    | _ m ih =>
      intro k hm hk
      refine kw_iload_n (pc := 6) dX6_lowBands_6 rfl ?_
      refine kw_bipush (v := 12) (pc := 7) dX6_lowBands_7 (by decide) ?_
      refine kw_icmp_ge (tgt := 51) (pc := 9) dX6_lowBands_9 (by decide) (fun h9 => ?_) (fun h9 => ?_)
      · have h9 := (kLeI (a := 12) (b := k) (by omega) (by omega) (rfl : (12 : Int32) = nI 12) rfl).mp h9
        refine kw_iload_n (pc := 51) dX6_lowBands_51 rfl ?_
        exact kw_ireturn nlX6_lowBands (pc := 52) dX6_lowBands_52 rfl rfl ⟨by rw [show k = 12 by omega], rfl, rfl⟩
      · have h9 := mt (kLeI (a := 12) (b := k) (by omega) (by omega) (rfl : (12 : Int32) = nI 12) rfl).mpr h9
        refine kw_iload_n (pc := 12) dX6_lowBands_12 rfl ?_
        refine kw_aload_n (pc := 13) dX6_lowBands_13 rfl ?_
        refine kw_getfield (pc := 14) kfw dX6_lowBands_14 fX6_7 mM_0 rfl ?_
        refine kw_iconst (v := 4) (pc := 17) dX6_lowBands_17 (by decide) ?_
        refine kw_iload_n (pc := 18) dX6_lowBands_18 rfl ?_
        refine kw_iadd (pc := 19) dX6_lowBands_19 ?_
        refine kw_ialoadN (pc := 20) (i := (4 + k)) dX6_lowBands_20 mM_1 (kA (a := 4) (b := k) (rfl : (4 : Int32) = nI 4) rfl) (by omega) (by decide) ?_
        refine kw_iload_n (pc := 21) dX6_lowBands_21 rfl ?_
        refine kw_icmp_ge (tgt := 29) (pc := 22) dX6_lowBands_22 (by decide) (fun h22 => ?_) (fun h22 => ?_)
        · refine kw_iconst (v := 0) (pc := 29) dX6_lowBands_29 (by decide) ?_
          refine kw_iadd (pc := 30) dX6_lowBands_30 ?_
          refine kw_istore_n (pc := 31) dX6_lowBands_31 (by decide) rfl ?_
          refine kw_aload_n (pc := 32) dX6_lowBands_32 rfl ?_
          refine kw_getfield (pc := 33) kfw dX6_lowBands_33 fX6_7 mM_0 rfl ?_
          refine kw_iconst (v := 4) (pc := 36) dX6_lowBands_36 (by decide) ?_
          refine kw_iload_n (pc := 37) dX6_lowBands_37 rfl ?_
          refine kw_iadd (pc := 38) dX6_lowBands_38 ?_
          refine kw_ialoadN (pc := 39) (i := (4 + k)) dX6_lowBands_39 mM_1 (kA (a := 4) (b := k) (rfl : (4 : Int32) = nI 4) rfl) (by omega) (by decide) ?_
          refine kw_iload_n (pc := 40) dX6_lowBands_40 rfl ?_
          refine kw_callSr (pc := 41) dX6_lowBands_41 lX6_49 (c_greater _ _) rfl rfl ⟨by decide, by decide, Nat.le_of_ble_eq_true rfl⟩ ?_
          refine kw_istore_n (pc := 44) dX6_lowBands_44 (by decide) rfl ?_
          refine kw_iinc (pc := 45) dX6_lowBands_45 (by decide) rfl rfl rfl ?_
          refine kw_goto (tgt := 6) (pc := 48) dX6_lowBands_48 (by decide) ?_
          exact kW.locs (ih (12 - (k + 1)) (by omega) (k + 1) rfl (by omega)) ⟨rfl, kgE rfl (by grind [lowN]), rfl, kgE rfl (kA (a := k) (b := 1) rfl (rfl : (Int32.ofInt 1) = nI 1)), trivial⟩
        · refine kw_iconst (v := 1) (pc := 25) dX6_lowBands_25 (by decide) ?_
          refine kw_goto (tgt := 30) (pc := 26) dX6_lowBands_26 (by decide) ?_
          refine kw_iadd (pc := 30) dX6_lowBands_30 ?_
          refine kw_istore_n (pc := 31) dX6_lowBands_31 (by decide) rfl ?_
          refine kw_aload_n (pc := 32) dX6_lowBands_32 rfl ?_
          refine kw_getfield (pc := 33) kfw dX6_lowBands_33 fX6_7 mM_0 rfl ?_
          refine kw_iconst (v := 4) (pc := 36) dX6_lowBands_36 (by decide) ?_
          refine kw_iload_n (pc := 37) dX6_lowBands_37 rfl ?_
          refine kw_iadd (pc := 38) dX6_lowBands_38 ?_
          refine kw_ialoadN (pc := 39) (i := (4 + k)) dX6_lowBands_39 mM_1 (kA (a := 4) (b := k) (rfl : (4 : Int32) = nI 4) rfl) (by omega) (by decide) ?_
          refine kw_iload_n (pc := 40) dX6_lowBands_40 rfl ?_
          refine kw_callSr (pc := 41) dX6_lowBands_41 lX6_49 (c_greater _ _) rfl rfl ⟨by decide, by decide, Nat.le_of_ble_eq_true rfl⟩ ?_
          refine kw_istore_n (pc := 44) dX6_lowBands_44 (by decide) rfl ?_
          refine kw_iinc (pc := 45) dX6_lowBands_45 (by decide) rfl rfl rfl ?_
          refine kw_goto (tgt := 6) (pc := 48) dX6_lowBands_48 (by decide) ?_
          exact kW.locs (ih (12 - (k + 1)) (by omega) (k + 1) rfl (by omega)) ⟨rfl, kgE rfl (by grind [lowN]), rfl, kgE rfl (kA (a := k) (b := 1) rfl (rfl : (Int32.ofInt 1) = nI 1)), trivial⟩
  refine kw_iconst (v := 0) (pc := 0) dX6_lowBands_0 (by decide) ?_
  refine kw_istore_n (pc := 1) dX6_lowBands_1 (by decide) rfl ?_
  refine kw_iconst (v := 0) (pc := 2) dX6_lowBands_2 (by decide) ?_
  refine kw_istore_n (pc := 3) dX6_lowBands_3 (by decide) rfl ?_
  refine kw_iconst (v := 0) (pc := 4) dX6_lowBands_4 (by decide) ?_
  refine kw_istore_n (pc := 5) dX6_lowBands_5 (by decide) rfl ?_
  exact kW.locs (loop (12 - 0) 0 rfl (by omega)) ⟨rfl, rfl, rfl, rfl, trivial⟩
set_option maxRecDepth 100000 in
set_option maxHeartbeats 4000000 in
theorem c_parcels {w0 : kM} {mo : Nat} {s : Nat → Int32} {sv : Int32} {kp bf : Nat → Int32} {ty th : Int32} {co ma : Nat → Int32} {sp : Int32}  (odd : Int32) {c : Nat} (hc : s 20 = nI c) (hc7 : c ≤ 7) : kCtrR mX6_parcels 2 [.ref mo, .int odd] (mM w0 mo s sv kp bf ty th co ma sp) (.int (cntN odd s c)) := by
  refine kCtrR.of pl6 nlX6_parcels rfl (Nat.le_of_ble_eq_true rfl) (fun n => ?_)
  have loop : ∀ (m : Nat) (k : Nat), m = c - k → k ≤ c → kW (0, fun _ => 0) mX6_parcels 2 (fun o w' n' => o = .inl (some (.int (cntN odd s c))) ∧ w' = (mM w0 mo s sv kp bf ty th co ma sp) ∧ n' = n) 0 0 n (mM w0 mo s sv kp bf ty th co ma sp) 4 [(0, .ref mo), (1, .int odd), (2, .int (cntN odd s k)), (3, .int (nI k))] [] := by
    intro m
    induction m using Nat.strongRecOn with
    | _ m ih =>
      intro k hm hk
      refine kw_iload_n (pc := 4) dX6_parcels_4 rfl ?_
      refine kw_aload_n (pc := 5) dX6_parcels_5 rfl ?_
      refine kw_getfield (pc := 6) kfw dX6_parcels_6 fX6_7 mM_0 rfl ?_
      refine kw_bipush (v := 20) (pc := 9) dX6_parcels_9 (by decide) ?_
      refine kw_ialoadN (pc := 11) (i := 20) dX6_parcels_11 mM_1 (rfl : (20 : Int32) = nI 20) (by omega) (by decide) ?_
      refine kw_icmp_ge (tgt := 58) (pc := 12) dX6_parcels_12 (by decide) (fun h12 => ?_) (fun h12 => ?_)
      · have h12 := (kLeI (a := c) (b := k) (by omega) (by omega) hc rfl).mp h12
        refine kw_iload_n (pc := 58) dX6_parcels_58 rfl ?_
        exact kw_ireturn nlX6_parcels (pc := 59) dX6_parcels_59 rfl rfl ⟨by rw [show k = c by omega], rfl, rfl⟩
      · have h12 := mt (kLeI (a := c) (b := k) (by omega) (by omega) hc rfl).mpr h12
        refine kw_iload_n (pc := 15) dX6_parcels_15 rfl ?_
        refine kw_iload_n (pc := 16) dX6_parcels_16 rfl ?_
        refine kw_if_eq (tgt := 34) (pc := 17) dX6_parcels_17 (by decide) (fun h17 => ?_) (fun h17 => ?_)
        · refine kw_aload_n (pc := 34) dX6_parcels_34 rfl ?_
          refine kw_iload_n (pc := 35) dX6_parcels_35 rfl ?_
          refine kw_callSr (pc := 36) dX6_parcels_36 lX6_69 (c_atE (p := k) rfl) rfl rfl ⟨by decide, by decide, Nat.le_of_ble_eq_true rfl⟩ ?_
          refine kw_callVr (pc := 39) dX6_parcels_39 lX6_76 (c_reason (by omega)) mM_0 rfl rfl rfl ⟨by decide, by decide, Nat.le_of_ble_eq_true rfl⟩ ?_
          refine kw_if_ne (tgt := 49) (pc := 42) dX6_parcels_42 (by decide) (fun h42 => ?_) (fun h42 => ?_)
          · refine kw_iconst (v := 0) (pc := 49) dX6_parcels_49 (by decide) ?_
            refine kw_iadd (pc := 50) dX6_parcels_50 ?_
            refine kw_istore_n (pc := 51) dX6_parcels_51 (by decide) rfl ?_
            refine kw_iinc (pc := 52) dX6_parcels_52 (by decide) rfl rfl rfl ?_
            refine kw_goto (tgt := 4) (pc := 55) dX6_parcels_55 (by decide) ?_
            exact kW.locs (ih (c - (k + 1)) (by omega) (k + 1) rfl (by omega)) ⟨rfl, rfl, kgE rfl (by grind [cntN, b2i]), kgE rfl (kA (a := k) (b := 1) rfl (rfl : (Int32.ofInt 1) = nI 1)), trivial⟩
          · refine kw_iconst (v := 1) (pc := 45) dX6_parcels_45 (by decide) ?_
            refine kw_goto (tgt := 50) (pc := 46) dX6_parcels_46 (by decide) ?_
            refine kw_iadd (pc := 50) dX6_parcels_50 ?_
            refine kw_istore_n (pc := 51) dX6_parcels_51 (by decide) rfl ?_
            refine kw_iinc (pc := 52) dX6_parcels_52 (by decide) rfl rfl rfl ?_
            refine kw_goto (tgt := 4) (pc := 55) dX6_parcels_55 (by decide) ?_
            exact kW.locs (ih (c - (k + 1)) (by omega) (k + 1) rfl (by omega)) ⟨rfl, rfl, kgE rfl (by grind [cntN, b2i]), kgE rfl (kA (a := k) (b := 1) rfl (rfl : (Int32.ofInt 1) = nI 1)), trivial⟩
        · refine kw_aload_n (pc := 20) dX6_parcels_20 rfl ?_
          refine kw_iload_n (pc := 21) dX6_parcels_21 rfl ?_
          refine kw_callSr (pc := 22) dX6_parcels_22 lX6_69 (c_atE (p := k) rfl) rfl rfl ⟨by decide, by decide, Nat.le_of_ble_eq_true rfl⟩ ?_
          refine kw_callVr (pc := 25) dX6_parcels_25 lX6_59 (c_isOdd (by omega)) mM_0 rfl rfl rfl ⟨by decide, by decide, Nat.le_of_ble_eq_true rfl⟩ ?_
          refine kw_if_eq (tgt := 49) (pc := 28) dX6_parcels_28 (by decide) (fun h28 => ?_) (fun h28 => ?_)
          · refine kw_iconst (v := 0) (pc := 49) dX6_parcels_49 (by decide) ?_
            refine kw_iadd (pc := 50) dX6_parcels_50 ?_
            refine kw_istore_n (pc := 51) dX6_parcels_51 (by decide) rfl ?_
            refine kw_iinc (pc := 52) dX6_parcels_52 (by decide) rfl rfl rfl ?_
            refine kw_goto (tgt := 4) (pc := 55) dX6_parcels_55 (by decide) ?_
            exact kW.locs (ih (c - (k + 1)) (by omega) (k + 1) rfl (by omega)) ⟨rfl, rfl, kgE rfl (by grind [cntN, b2i]), kgE rfl (kA (a := k) (b := 1) rfl (rfl : (Int32.ofInt 1) = nI 1)), trivial⟩
          · refine kw_goto (tgt := 45) (pc := 31) dX6_parcels_31 (by decide) ?_
            refine kw_iconst (v := 1) (pc := 45) dX6_parcels_45 (by decide) ?_
            refine kw_goto (tgt := 50) (pc := 46) dX6_parcels_46 (by decide) ?_
            refine kw_iadd (pc := 50) dX6_parcels_50 ?_
            refine kw_istore_n (pc := 51) dX6_parcels_51 (by decide) rfl ?_
            refine kw_iinc (pc := 52) dX6_parcels_52 (by decide) rfl rfl rfl ?_
            refine kw_goto (tgt := 4) (pc := 55) dX6_parcels_55 (by decide) ?_
            exact kW.locs (ih (c - (k + 1)) (by omega) (k + 1) rfl (by omega)) ⟨rfl, rfl, kgE rfl (by grind [cntN, b2i]), kgE rfl (kA (a := k) (b := 1) rfl (rfl : (Int32.ofInt 1) = nI 1)), trivial⟩
  refine kw_iconst (v := 0) (pc := 0) dX6_parcels_0 (by decide) ?_
  refine kw_istore_n (pc := 1) dX6_parcels_1 (by decide) rfl ?_
  refine kw_iconst (v := 0) (pc := 2) dX6_parcels_2 (by decide) ?_
  refine kw_istore_n (pc := 3) dX6_parcels_3 (by decide) rfl ?_
  exact kW.locs (loop (c - 0) 0 rfl (by omega)) ⟨rfl, rfl, rfl, rfl, trivial⟩
set_option maxRecDepth 100000 in
set_option maxHeartbeats 4000000 in
theorem c_rated {w0 : kM} {mo : Nat} {s : Nat → Int32} {sv : Int32} {kp bf : Nat → Int32} {ty th : Int32} {co ma : Nat → Int32} {sp : Int32}  (z q : Int32) {K : Nat} (hb : bnd z = nI K) (hK : K < 12) : kCtrR mX6_rated 2 [.ref mo, .int z, .int q] (mM w0 mo s sv kp bf ty th co ma sp) (.int (if q = 0 then rM s (K + 1) else s (4 + rDn s K K))) := by
  refine kCtrR.of pl6 nlX6_rated rfl (Nat.le_of_ble_eq_true rfl) (fun n => ?_)
  refine kw_iload_n (pc := 0) dX6_rated_0 rfl ?_
  refine kw_if_ne (tgt := 12) (pc := 1) dX6_rated_1 (by decide) (fun h1 => ?_) (fun h1 => ?_)
  · refine kw_aload_n (pc := 12) dX6_rated_12 rfl ?_
    refine kw_iload_n (pc := 13) dX6_rated_13 rfl ?_
    refine kw_callVr (pc := 14) dX6_rated_14 lX6_165 (c_rateDown _ hb hK) mM_0 rfl rfl rfl ⟨by decide, by decide, Nat.le_of_ble_eq_true rfl⟩ ?_
    exact kw_ireturn nlX6_rated (pc := 17) dX6_rated_17 rfl rfl ⟨kv_eq (by grind), rfl, rfl⟩
  · refine kw_aload_n (pc := 4) dX6_rated_4 rfl ?_
    refine kw_iload_n (pc := 5) dX6_rated_5 rfl ?_
    refine kw_callVr (pc := 6) dX6_rated_6 lX6_56 (c_rateOf _ hb hK) mM_0 rfl rfl rfl ⟨by decide, by decide, Nat.le_of_ble_eq_true rfl⟩ ?_
    refine kw_goto (tgt := 17) (pc := 9) dX6_rated_9 (by decide) ?_
    exact kw_ireturn nlX6_rated (pc := 17) dX6_rated_17 rfl rfl ⟨kv_eq (by grind), rfl, rfl⟩
