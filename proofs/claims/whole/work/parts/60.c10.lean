theorem vp_ofE {j : Int32} {i N : Nat} (h : j = nI i) (hi : i < N) (hN : N < 2147483648) : vp_in j N := by
  rw [h]
  exact vp_in_nI hi hN
theorem sEnd {p : Nat} (hp : p < 4) : ([120, 120, 42, 122] : List Int32).getD (nI p).toNatClampNeg 0 = endC p := by
  rw [nI_clamp (by omega)]
  match p, hp with
  | 0, _ => rfl
  | 1, _ => rfl
  | 2, _ => rfl
  | 3, _ => rfl
theorem sMost {p : Nat} (hp : p < 4) : ([60, 60, 60, 99] : List Int32).getD (nI p).toNatClampNeg 0 = most p := by
  rw [nI_clamp (by omega)]
  match p, hp with
  | 0, _ => rfl
  | 1, _ => rfl
  | 2, _ => rfl
  | 3, _ => rfl
theorem stp_le {st st' : pst} {c : Int32} (h : stp st c = some st') (h6 : st.1 ≤ 6) : st'.1 ≤ 6 := by
  obtain ⟨p, v⟩ := st
  have h6 : p ≤ 6 := h6
  by_cases h4 : p < 4
  · rw [stp_nu h4] at h
    unfold nuS enS at h
    repeat' (split at h)
    all_goals first | (cases h; done) | (cases h; show _ ≤ 6; omega)
  · by_cases e4 : p = 4
    · subst e4
      rw [stp_4] at h
      unfold chS at h
      split at h
      · cases h
      · cases h; exact Nat.le_of_ble_eq_true rfl
    · by_cases e5 : p = 5
      · subst e5
        rw [stp_5] at h
        unfold chS at h
        split at h
        · cases h
        · cases h; exact Nat.le_of_ble_eq_true rfl
      · have e6 : p = 6 := by omega
        subst e6
        by_cases hc : c = 59
        · rw [stp_6 hc] at h; cases h; exact Nat.le_of_ble_eq_true rfl
        · rw [stp_6no hc] at h; cases h
theorem nu_e {p : Nat} {v : Nat → Int32} {c : Int32} (h : c = endC p) : nuS p v c = enS p v := if_pos h
theorem nu_n {p : Nat} {v : Nat → Int32} {c : Int32} (h : ¬ c = endC p) (h2 : c < 48 ∨ 57 < c) : nuS p v c = none := (if_neg h).trans (if_pos h2)
theorem nu_o {p : Nat} {v : Nat → Int32} {c : Int32} (h : ¬ c = endC p) (h2 : ¬ (c < 48 ∨ 57 < c)) (h3 : 10 * v p + (c - 48) < 1 ∨ most p < 10 * v p + (c - 48)) : nuS p v c = none := (if_neg h).trans ((if_neg h2).trans (if_pos h3))
theorem nu_s {p : Nat} {v : Nat → Int32} {c : Int32} (h : ¬ c = endC p) (h2 : ¬ (c < 48 ∨ 57 < c)) (h3 : ¬ (10 * v p + (c - 48) < 1 ∨ most p < 10 * v p + (c - 48))) : nuS p v c = some (p, kuf v p (10 * v p + (c - 48))) := (if_neg h).trans ((if_neg h2).trans (if_neg h3))
set_option maxRecDepth 100000 in
set_option maxHeartbeats 4000000 in
theorem c3_number {w : kM} {t T p : Nat} {v : Nat → Int32} (S : txS w t T (p, v)) (hp : p < 4) (c : Int32) : kCtrW mX3_readsInNumber 1 [.ref t, .int c] w (some (.int (b2i ((nuS p v c).isSome = true)))) (fun w' => txR w w' t T (nuS p v c)) := by
  refine kCtrW.of pl3 nlX3_readsInNumber rfl (Nat.le_of_ble_eq_true rfl) (fun n => ?_)
  refine kw_iload_n (pc := 0) dX3_readsInNumber_0 rfl ?_
  refine kw_getstatic (pc := 1) (i := 4) dX3_readsInNumber_1 rfl rfl sX3_60 ?_
  refine kw_aload_n (pc := 4) dX3_readsInNumber_4 rfl ?_
  refine kw_getfield (pc := 5) kfw dX3_readsInNumber_5 fX3_40 S.1 rfl ?_
  refine kw_caloadS (pc := 8) (i := 4) dX3_readsInNumber_8 rfl rfl rfl (vp_ofE rfl (show p < 4 by omega) (by decide)) ?_
  refine kW.eq (st' := [.int (endC p), .int c]) rfl (congrArg (fun z => [Value.int z, Value.int c]) (sEnd hp)) ?_
  refine kw_icmp_ne (tgt := 17) (pc := 9) dX3_readsInNumber_9 (by decide) (fun h9 => ?_) (fun h9 => ?_)
  · refine kw_iload_n (pc := 17) dX3_readsInNumber_17 rfl ?_
    refine kw_bipush (v := 48) (pc := 18) dX3_readsInNumber_18 (by decide) ?_
    refine kw_icmp_lt (tgt := 29) (pc := 20) dX3_readsInNumber_20 (by decide) (fun h20 => ?_) (fun h20 => ?_)
    · refine kw_iconst (v := 0) (pc := 29) dX3_readsInNumber_29 (by decide) ?_
      exact kw_ireturn nlX3_readsInNumber (pc := 30) dX3_readsInNumber_30 rfl (by first | rfl | exact b2i_z _ | exact hbool) ⟨kv_eq (isn (nu_n h9 (by grind))), txR.n (nu_n h9 (by grind)) rfl, rfl⟩
    · refine kw_iload_n (pc := 23) dX3_readsInNumber_23 rfl ?_
      refine kw_bipush (v := 57) (pc := 24) dX3_readsInNumber_24 (by decide) ?_
      refine kw_icmp_le (tgt := 31) (pc := 26) dX3_readsInNumber_26 (by decide) (fun h26 => ?_) (fun h26 => ?_)
      · refine kw_bipush (v := 10) (pc := 31) dX3_readsInNumber_31 (by decide) ?_
        refine kw_aload_n (pc := 33) dX3_readsInNumber_33 rfl ?_
        refine kw_getfield (pc := 34) kfw dX3_readsInNumber_34 fX3_15 S.1 rfl ?_
        refine kw_aload_n (pc := 37) dX3_readsInNumber_37 rfl ?_
        refine kw_getfield (pc := 38) kfw dX3_readsInNumber_38 fX3_40 S.1 rfl ?_
        refine kw_ialoadT (pc := 41) (i := p) dX3_readsInNumber_41 S.2 rfl (by omega) (by decide) ?_
        refine kw_imul (pc := 42) dX3_readsInNumber_42 ?_
        refine kw_iload_n (pc := 43) dX3_readsInNumber_43 rfl ?_
        refine kw_bipush (v := 48) (pc := 44) dX3_readsInNumber_44 (by decide) ?_
        refine kw_isub (pc := 46) dX3_readsInNumber_46 ?_
        refine kw_iadd (pc := 47) dX3_readsInNumber_47 ?_
        refine kw_istore_n (pc := 48) dX3_readsInNumber_48 (by decide) rfl ?_
        refine kw_iload_n (pc := 49) dX3_readsInNumber_49 rfl ?_
        refine kw_iconst (v := 1) (pc := 50) dX3_readsInNumber_50 (by decide) ?_
        refine kw_icmp_lt (tgt := 66) (pc := 51) dX3_readsInNumber_51 (by decide) (fun h51 => ?_) (fun h51 => ?_)
        · refine kw_iconst (v := 0) (pc := 66) dX3_readsInNumber_66 (by decide) ?_
          exact kw_ireturn nlX3_readsInNumber (pc := 67) dX3_readsInNumber_67 rfl (by first | rfl | exact b2i_z _ | exact hbool) ⟨kv_eq (isn (nu_o h9 (by grind) (by grind))), txR.n (nu_o h9 (by grind) (by grind)) rfl, rfl⟩
        · refine kw_iload_n (pc := 54) dX3_readsInNumber_54 rfl ?_
          refine kw_getstatic (pc := 55) (i := 3) dX3_readsInNumber_55 rfl rfl sX3_67 ?_
          refine kw_aload_n (pc := 58) dX3_readsInNumber_58 rfl ?_
          refine kw_getfield (pc := 59) kfw dX3_readsInNumber_59 fX3_40 S.1 rfl ?_
          refine kw_ialoadS (pc := 62) (i := 3) dX3_readsInNumber_62 rfl rfl rfl (vp_ofE rfl (show p < 4 by omega) (by decide)) ?_
          refine kW.eq (st' := [.int (most p), .int (10 * v p + (c - 48))]) rfl (congrArg (fun z => [Value.int z, Value.int (10 * v p + (c - 48))]) (sMost hp)) ?_
          refine kw_icmp_le (tgt := 68) (pc := 63) dX3_readsInNumber_63 (by decide) (fun h63 => ?_) (fun h63 => ?_)
          · refine kw_aload_n (pc := 68) dX3_readsInNumber_68 rfl ?_
            refine kw_getfield (pc := 69) kfw dX3_readsInNumber_69 fX3_15 S.1 rfl ?_
            refine kw_aload_n (pc := 72) dX3_readsInNumber_72 rfl ?_
            refine kw_getfield (pc := 73) kfw dX3_readsInNumber_73 fX3_40 S.1 rfl ?_
            refine kw_iload_n (pc := 76) dX3_readsInNumber_76 rfl ?_
            refine kw_iastoreT (pc := 77) (i := p) dX3_readsInNumber_77 S.2 rfl (by omega) (by decide) ?_
            refine kw_iconst (v := 1) (pc := 78) dX3_readsInNumber_78 (by decide) ?_
            exact kw_ireturn nlX3_readsInNumber (pc := 79) dX3_readsInNumber_79 rfl (by first | rfl | exact b2i_z _ | exact hbool) ⟨kv_eq (iss (nu_s h9 (by grind) (by grind))), txR.s (nu_s h9 (by grind) (by grind)) ⟨⟨(kup_ne (by omega)).trans S.1, kup_self _ _ _⟩, fun a h1 h2 => kup_ne h2⟩, rfl⟩
          · refine kw_iconst (v := 0) (pc := 66) dX3_readsInNumber_66 (by decide) ?_
            exact kw_ireturn nlX3_readsInNumber (pc := 67) dX3_readsInNumber_67 rfl (by first | rfl | exact b2i_z _ | exact hbool) ⟨kv_eq (isn (nu_o h9 (by grind) (by grind))), txR.n (nu_o h9 (by grind) (by grind)) rfl, rfl⟩
      · refine kw_iconst (v := 0) (pc := 29) dX3_readsInNumber_29 (by decide) ?_
        exact kw_ireturn nlX3_readsInNumber (pc := 30) dX3_readsInNumber_30 rfl (by first | rfl | exact b2i_z _ | exact hbool) ⟨kv_eq (isn (nu_n h9 (by grind))), txR.n (nu_n h9 (by grind)) rfl, rfl⟩
  · refine kw_aload_n (pc := 12) dX3_readsInNumber_12 rfl ?_
    refine kw_callVw1 (pc := 13) dX3_readsInNumber_13 lX3_64 (c3_ends S hp) S.1 rfl rfl rfl ⟨by decide, by decide, Nat.le_of_ble_eq_true rfl⟩ (fun wz hz => ?_)
    exact kw_ireturn nlX3_readsInNumber (pc := 16) dX3_readsInNumber_16 rfl (by first | rfl | exact b2i_z _ | exact hbool) ⟨kv_eq (by rw [nu_e h9]), by rw [nu_e h9]; exact hz, rfl⟩
theorem six_n {p : Nat} {v : Nat → Int32} {c : Int32} (h : p = 6) (h2 : ¬ c = 59) : stp (p, v) c = none := by subst h; exact stp_6no h2
theorem six_s {p : Nat} {v : Nat → Int32} {c : Int32} (h : p = 6) (h2 : c = 59) : stp (p, v) c = some (0, kuf v 0 0) := by subst h; exact stp_6 h2
set_option maxRecDepth 100000 in
set_option maxHeartbeats 4000000 in
theorem c3_reads {w : kM} {t T p : Nat} {v : Nat → Int32} (S : txS w t T (p, v)) (hp : p ≤ 6) (c : Int32) : kCtrW mX3_reads 2 [.ref t, .int c] w (some (.int (b2i ((stp (p, v) c).isSome = true)))) (fun w' => txR w w' t T (stp (p, v) c)) := by
  refine kCtrW.of pl3 nlX3_reads rfl (Nat.le_of_ble_eq_true rfl) (fun n => ?_)
  refine kw_aload_n (pc := 0) dX3_reads_0 rfl ?_
  refine kw_getfield (pc := 1) kfw dX3_reads_1 fX3_40 S.1 rfl ?_
  refine kw_iconst (v := 4) (pc := 4) dX3_reads_4 (by decide) ?_
  refine kw_icmp_ge (tgt := 14) (pc := 5) dX3_reads_5 (by decide) (fun h5 => ?_) (fun h5 => ?_)
  · have h5 := (kLeI (a := 4) (b := p) (by omega) (by omega) (rfl : (4 : Int32) = nI 4) rfl).mp h5
    refine kw_aload_n (pc := 14) dX3_reads_14 rfl ?_
    refine kw_getfield (pc := 15) kfw dX3_reads_15 fX3_40 S.1 rfl ?_
    refine kw_iconst (v := 4) (pc := 18) dX3_reads_18 (by decide) ?_
    refine kw_icmp_ne (tgt := 32) (pc := 19) dX3_reads_19 (by decide) (fun h19 => ?_) (fun h19 => ?_)
    · have h19 := mt (kEqI (a := p) (b := 4) (by omega) (by omega) rfl (rfl : (4 : Int32) = nI 4)).mpr h19
      refine kw_aload_n (pc := 32) dX3_reads_32 rfl ?_
      refine kw_getfield (pc := 33) kfw dX3_reads_33 fX3_40 S.1 rfl ?_
      refine kw_iconst (v := 5) (pc := 36) dX3_reads_36 (by decide) ?_
      refine kw_icmp_ne (tgt := 50) (pc := 37) dX3_reads_37 (by decide) (fun h37 => ?_) (fun h37 => ?_)
      · have h37 := mt (kEqI (a := p) (b := 5) (by omega) (by omega) rfl (rfl : (5 : Int32) = nI 5)).mpr h37
        refine kw_iload_n (pc := 50) dX3_reads_50 rfl ?_
        refine kw_bipush (v := 59) (pc := 51) dX3_reads_51 (by decide) ?_
        refine kw_icmp_eq (tgt := 58) (pc := 53) dX3_reads_53 (by decide) (fun h53 => ?_) (fun h53 => ?_)
        · refine kw_aload_n (pc := 58) dX3_reads_58 rfl ?_
          refine kw_callVw0 (pc := 59) dX3_reads_59 lX3_26 (c3_start S) S.1 rfl rfl rfl ⟨by decide, by decide, Nat.le_of_ble_eq_true rfl⟩ (fun wz hz => ?_)
          refine kw_iconst (v := 1) (pc := 62) dX3_reads_62 (by decide) ?_
          exact kw_ireturn nlX3_reads (pc := 63) dX3_reads_63 rfl (by first | rfl | exact b2i_z _ | exact hbool) ⟨kv_eq (iss (six_s (by omega) h53)), txR.s (six_s (by omega) h53) hz, rfl⟩
        · refine kw_iconst (v := 0) (pc := 56) dX3_reads_56 (by decide) ?_
          exact kw_ireturn nlX3_reads (pc := 57) dX3_reads_57 rfl (by first | rfl | exact b2i_z _ | exact hbool) ⟨kv_eq (isn (six_n (by omega) h53)), txR.n (six_n (by omega) h53) rfl, rfl⟩
      · have h37 := (kEqI (a := p) (b := 5) (by omega) (by omega) rfl (rfl : (5 : Int32) = nI 5)).mp h37
        refine kw_aload_n (pc := 40) dX3_reads_40 rfl ?_
        refine kw_iload_n (pc := 41) dX3_reads_41 rfl ?_
        refine kw_callSr (pc := 42) dX3_reads_42 lX3_56 (c3_way _) rfl rfl ⟨by decide, by decide, Nat.le_of_ble_eq_true rfl⟩ ?_
        refine kw_iconst (v := 3) (pc := 45) dX3_reads_45 (by decide) ?_
        refine kw_callVw1 (pc := 46) dX3_reads_46 lX3_52 (c3_choice S (by omega) _ _) S.1 rfl rfl rfl ⟨by decide, by decide, Nat.le_of_ble_eq_true rfl⟩ (fun wz hz => ?_)
        exact kw_ireturn nlX3_reads (pc := 49) dX3_reads_49 rfl (by first | rfl | exact b2i_z _ | exact hbool) ⟨kv_eq (by subst h37; rw [stp_5]), by subst h37; rw [stp_5]; exact hz, rfl⟩
    · have h19 := (kEqI (a := p) (b := 4) (by omega) (by omega) rfl (rfl : (4 : Int32) = nI 4)).mp h19
      refine kw_aload_n (pc := 22) dX3_reads_22 rfl ?_
      refine kw_iload_n (pc := 23) dX3_reads_23 rfl ?_
      refine kw_bipush (v := 48) (pc := 24) dX3_reads_24 (by decide) ?_
      refine kw_isub (pc := 26) dX3_reads_26 ?_
      refine kw_iconst (v := 4) (pc := 27) dX3_reads_27 (by decide) ?_
      refine kw_callVw1 (pc := 28) dX3_reads_28 lX3_52 (c3_choice S (by omega) _ _) S.1 rfl rfl rfl ⟨by decide, by decide, Nat.le_of_ble_eq_true rfl⟩ (fun wz hz => ?_)
      exact kw_ireturn nlX3_reads (pc := 31) dX3_reads_31 rfl (by first | rfl | exact b2i_z _ | exact hbool) ⟨kv_eq (by subst h19; rw [stp_4]), by subst h19; rw [stp_4]; exact hz, rfl⟩
  · have h5 := mt (kLeI (a := 4) (b := p) (by omega) (by omega) (rfl : (4 : Int32) = nI 4) rfl).mpr h5
    refine kw_aload_n (pc := 8) dX3_reads_8 rfl ?_
    refine kw_iload_n (pc := 9) dX3_reads_9 rfl ?_
    refine kw_callVw1 (pc := 10) dX3_reads_10 lX3_49 (c3_number S (by omega) _) S.1 rfl rfl rfl ⟨by decide, by decide, Nat.le_of_ble_eq_true rfl⟩ (fun wz hz => ?_)
    exact kw_ireturn nlX3_reads (pc := 13) dX3_reads_13 rfl (by first | rfl | exact b2i_z _ | exact hbool) ⟨kv_eq (by rw [stp_nu (show p < 4 by omega)]), by rw [stp_nu (show p < 4 by omega)]; exact hz, rfl⟩
set_option maxRecDepth 100000 in
set_option maxHeartbeats 4000000 in
theorem c3_atEnd {w : kM} {t T p : Nat} {v : Nat → Int32} (S : txS w t T (p, v)) (hp : p ≤ 6) : kCtrR mX3_isAtParcelEnd 0 [.ref t] w (.int (b2i (p = 6))) := by
  refine kCtrR.of pl3 nlX3_isAtParcelEnd rfl (Nat.le_of_ble_eq_true rfl) (fun n => ?_)
  refine kw_aload_n (pc := 0) dX3_isAtParcelEnd_0 rfl ?_
  refine kw_getfield (pc := 1) kfw dX3_isAtParcelEnd_1 fX3_40 S.1 rfl ?_
  refine kw_bipush (v := 6) (pc := 4) dX3_isAtParcelEnd_4 (by decide) ?_
  refine kw_icmp_ne (tgt := 13) (pc := 6) dX3_isAtParcelEnd_6 (by decide) (fun h6 => ?_) (fun h6 => ?_)
  · have h6 := mt (kEqI (a := p) (b := 6) (by omega) (by omega) rfl (rfl : (6 : Int32) = nI 6)).mpr h6
    refine kw_iconst (v := 0) (pc := 13) dX3_isAtParcelEnd_13 (by decide) ?_
    exact kw_ireturn nlX3_isAtParcelEnd (pc := 14) dX3_isAtParcelEnd_14 rfl (by first | rfl | exact b2i_z _ | exact hbool) ⟨kv_eq (by grind [b2i]), rfl, rfl⟩
  · have h6 := (kEqI (a := p) (b := 6) (by omega) (by omega) rfl (rfl : (6 : Int32) = nI 6)).mp h6
    refine kw_iconst (v := 1) (pc := 9) dX3_isAtParcelEnd_9 (by decide) ?_
    refine kw_goto (tgt := 14) (pc := 10) dX3_isAtParcelEnd_10 (by decide) ?_
    exact kw_ireturn nlX3_isAtParcelEnd (pc := 14) dX3_isAtParcelEnd_14 rfl (by first | rfl | exact b2i_z _ | exact hbool) ⟨kv_eq (by grind [b2i]), rfl, rfl⟩
set_option maxRecDepth 100000 in
set_option maxHeartbeats 4000000 in
theorem c3_room {w : kM} {t T p : Nat} (S : w t = kO 3 (txF t (nI T) (nI p))) {cf : Nat → Int32} (hcf : w (t + 1) = kI 0 60 (tr 60 cf)) (hT : T ≤ 60) : kCtrR mX3_hasRoom 0 [.ref t] w (.int (b2i (T < 60))) := by
  refine kCtrR.of pl3 nlX3_hasRoom rfl (Nat.le_of_ble_eq_true rfl) (fun n => ?_)
  refine kw_aload_n (pc := 0) dX3_hasRoom_0 rfl ?_
  refine kw_getfield (pc := 1) kfw dX3_hasRoom_1 fX3_18 S rfl ?_
  refine kw_aload_n (pc := 4) dX3_hasRoom_4 rfl ?_
  refine kw_getfield (pc := 5) kfw dX3_hasRoom_5 fX3_9 S rfl ?_
  refine kw_alenI (pc := 8) (v := 60) dX3_hasRoom_8 hcf rfl ?_
  refine kw_icmp_ge (tgt := 16) (pc := 9) dX3_hasRoom_9 (by decide) (fun h9 => ?_) (fun h9 => ?_)
  · have h9 := (kLeI (a := 60) (b := T) (by omega) (by omega) (rfl : (60 : Int32) = nI 60) rfl).mp h9
    refine kw_iconst (v := 0) (pc := 16) dX3_hasRoom_16 (by decide) ?_
    exact kw_ireturn nlX3_hasRoom (pc := 17) dX3_hasRoom_17 rfl (by first | rfl | exact b2i_z _ | exact hbool) ⟨kv_eq (by grind [b2i]), rfl, rfl⟩
  · have h9 := mt (kLeI (a := 60) (b := T) (by omega) (by omega) (rfl : (60 : Int32) = nI 60) rfl).mpr h9
    refine kw_iconst (v := 1) (pc := 12) dX3_hasRoom_12 (by decide) ?_
    refine kw_goto (tgt := 17) (pc := 13) dX3_hasRoom_13 (by decide) ?_
    exact kw_ireturn nlX3_hasRoom (pc := 17) dX3_hasRoom_17 rfl (by first | rfl | exact b2i_z _ | exact hbool) ⟨kv_eq (by grind [b2i]), rfl, rfl⟩
set_option maxRecDepth 100000 in
set_option maxHeartbeats 4000000 in
theorem c3_add {w : kM} {t T p : Nat} (S : w t = kO 3 (txF t (nI T) (nI p))) {cf : Nat → Int32} (hcf : w (t + 1) = kI 0 60 (tr 60 cf)) (hT : T < 60) (x : Int32) : kCtrW mX3_add 1 [.ref t, .int x] w none (fun w' => w' = (kup (kup w (t + 1) (kI 0 60 (tr 60 (kuf cf T x)))) t (kO 3 (txF t (nI (T + 1)) (nI p))))) := by
  refine kCtrW.of pl3 nlX3_add rfl (Nat.le_of_ble_eq_true rfl) (fun n => ?_)
  refine kw_aload_n (pc := 0) dX3_add_0 rfl ?_
  refine kw_callVr (pc := 1) dX3_add_1 lX3_22 (c3_room S hcf (by omega)) S rfl rfl rfl ⟨by decide, by decide, Nat.le_of_ble_eq_true rfl⟩ ?_
  refine kw_if_eq (tgt := 27) (pc := 4) dX3_add_4 (by decide) (fun h4 => ?_) (fun h4 => ?_)
  · exact absurd hT (b2i_0.mp h4)
  · refine kw_aload_n (pc := 7) dX3_add_7 rfl ?_
    refine kw_getfield (pc := 8) kfw dX3_add_8 fX3_9 S rfl ?_
    refine kw_aload_n (pc := 11) dX3_add_11 rfl ?_
    refine kw_getfield (pc := 12) kfw dX3_add_12 fX3_18 S rfl ?_
    refine kw_iload_n (pc := 15) dX3_add_15 rfl ?_
    refine kw_iastoreT (pc := 16) (i := T) dX3_add_16 hcf rfl (by omega) (by decide) ?_
    refine kw_aload_n (pc := 17) dX3_add_17 rfl ?_
    refine kw_dup (pc := 18) dX3_add_18 rfl ?_
    refine kw_getfield (pc := 19) kfw dX3_add_19 fX3_18 ((kup_ne (by omega)).trans S) rfl ?_
    refine kw_iconst (v := 1) (pc := 22) dX3_add_22 (by decide) ?_
    refine kw_iadd (pc := 23) dX3_add_23 ?_
    refine kw_putfield (pc := 24) kfw dX3_add_24 fX3_18 ((kup_ne (by omega)).trans S) (fun _ _ => rfl) (fun _ _ => rfl) ?_
    rw [txF_1]
    exact kw_return nlX3_add (pc := 27) dX3_add_27 rfl ⟨rfl, by rw [kA (a := T) (b := 1) rfl (rfl : (1 : Int32) = nI 1)], rfl⟩
set_option maxRecDepth 100000 in
set_option maxHeartbeats 4000000 in
theorem c3_clear {w : kM} {t T p : Nat} (S : w t = kO 3 (txF t (nI T) (nI p))) : kCtrW mX3_clear 0 [.ref t] w none (fun w' => w' = kup w t (kO 3 (txF t (nI 0) (nI p)))) := by
  refine kCtrW.of pl3 nlX3_clear rfl (Nat.le_of_ble_eq_true rfl) (fun n => ?_)
  refine kw_aload_n (pc := 0) dX3_clear_0 rfl ?_
  refine kw_iconst (v := 0) (pc := 1) dX3_clear_1 (by decide) ?_
  refine kw_putfield (pc := 2) kfw dX3_clear_2 fX3_18 S (fun _ _ => rfl) (fun _ _ => rfl) ?_
  rw [txF_1]
  exact kw_return nlX3_clear (pc := 5) dX3_clear_5 rfl ⟨rfl, rfl, rfl⟩
set_option maxRecDepth 100000 in
set_option maxHeartbeats 4000000 in
theorem c3_error {w : kM} {t T p : Nat} {v : Nat → Int32} (S : txS w t T (p, v)) {cf : Nat → Int32} (hcf : w (t + 1) = kI 0 60 (tr 60 cf)) (hT : T ≤ 60) : kCtrW mX3_errorPlace 3 [.ref t] w (some (.int (nI (al cf T (0, kuf v 0 0) 0).1))) (fun w' => txS w' t T (al cf T (0, kuf v 0 0) 0).2 ∧ ∀ a, a ≠ t → a ≠ t + 2 → w' a = w a) := by
  refine kCtrW.of pl3 nlX3_errorPlace rfl (Nat.le_of_ble_eq_true rfl) (fun n => ?_)
  have loop : ∀ (m i p1 : Nat) (v1 : Nat → Int32) (wi : kM), m = T - i → i ≤ T → p1 ≤ 6 → txS wi t T (p1, v1) → (∀ a, a ≠ t → a ≠ t + 2 → wi a = w a) → (al cf T (0, kuf v 0 0) 0) = al cf T (p1, v1) i → kW (0, fun _ => 0) mX3_errorPlace 3 (fun o' w' n' => o' = .inl (some (.int (nI (al cf T (0, kuf v 0 0) 0).1))) ∧ (fun w' => txS w' t T (al cf T (0, kuf v 0 0) 0).2 ∧ ∀ a, a ≠ t → a ≠ t + 2 → w' a = w a) w' ∧ n' = n) 0 0 n wi 6 [(0, .ref t), (1, .int (nI i))] [] := by
    intro m
    induction m using Nat.strongRecOn with
    | _ m ih =>
      intro i p1 v1 wi hm hi hp S F hal
      have hci := (F (t + 1) (by omega) (by omega)).trans hcf
      refine kw_iload_n (pc := 6) dX3_errorPlace_6 rfl ?_
      refine kw_aload_n (pc := 7) dX3_errorPlace_7 rfl ?_
      refine kw_getfield (pc := 8) kfw dX3_errorPlace_8 fX3_18 S.1 rfl ?_
      refine kw_icmp_ge (tgt := 44) (pc := 11) dX3_errorPlace_11 (by decide) (fun h11 => ?_) (fun h11 => ?_)
      · have h11 := (kLeI (a := T) (b := i) (by omega) (by omega) rfl rfl).mp h11
        refine kw_aload_n (pc := 44) dX3_errorPlace_44 rfl ?_
        refine kw_getfield (pc := 45) kfw dX3_errorPlace_45 fX3_18 S.1 rfl ?_
        exact kw_ireturn nlX3_errorPlace (pc := 48) dX3_errorPlace_48 rfl rfl ⟨kv_eq (by rw [hal, show i = T by omega, al_end (Nat.le_refl T)]), ⟨by rw [hal, al_end (by omega)]; exact S, F⟩, rfl⟩
      · have h11 := mt (kLeI (a := T) (b := i) (by omega) (by omega) rfl rfl).mpr h11
        refine kw_iload_n (pc := 14) dX3_errorPlace_14 rfl ?_
        refine kw_aload_n (pc := 15) dX3_errorPlace_15 rfl ?_
        refine kw_getfield (pc := 16) kfw dX3_errorPlace_16 fX3_9 S.1 rfl ?_
        refine kw_alenI (pc := 19) (v := 60) dX3_errorPlace_19 hci rfl ?_
        refine kw_icmp_ge (tgt := 44) (pc := 20) dX3_errorPlace_20 (by decide) (fun h20 => ?_) (fun h20 => ?_)
        · have h20 := (kLeI (a := 60) (b := i) (by omega) (by omega) (rfl : (60 : Int32) = nI 60) rfl).mp h20
          exfalso; omega
        · have h20 := mt (kLeI (a := 60) (b := i) (by omega) (by omega) (rfl : (60 : Int32) = nI 60) rfl).mpr h20
          refine kw_aload_n (pc := 23) dX3_errorPlace_23 rfl ?_
          refine kw_aload_n (pc := 24) dX3_errorPlace_24 rfl ?_
          refine kw_getfield (pc := 25) kfw dX3_errorPlace_25 fX3_9 S.1 rfl ?_
          refine kw_iload_n (pc := 28) dX3_errorPlace_28 rfl ?_
          refine kw_ialoadT (pc := 29) (i := i) dX3_errorPlace_29 hci rfl (by omega) (by decide) ?_
          refine kw_callVw1 (pc := 30) dX3_errorPlace_30 lX3_29 (c3_reads S hp _) S.1 rfl rfl rfl ⟨by decide, by decide, Nat.le_of_ble_eq_true rfl⟩ (fun wz hz => ?_)
          cases hst : stp (p1, v1) (cf i) with
          | none =>
            rw [hst] at hz
            have hz : wz = _ := hz
            subst hz
            refine kW.eq (st' := [.int 0]) rfl rfl ?_
            refine kw_if_ne (tgt := 38) (pc := 33) dX3_errorPlace_33 (by decide) (fun h33 => ?_) (fun h33 => ?_)
            · exact absurd (by decide) h33
            · refine kw_iload_n (pc := 36) dX3_errorPlace_36 rfl ?_
              exact kw_ireturn nlX3_errorPlace (pc := 37) dX3_errorPlace_37 rfl rfl ⟨kv_eq (by rw [hal, al_no hst]), ⟨by rw [hal, al_no hst]; exact S, F⟩, rfl⟩
          | some st' =>
            obtain ⟨p2, v2⟩ := st'
            rw [hst] at hz
            obtain ⟨S2, F2⟩ := hz
            refine kW.eq (st' := [.int 1]) rfl rfl ?_
            refine kw_if_ne (tgt := 38) (pc := 33) dX3_errorPlace_33 (by decide) (fun h33 => ?_) (fun h33 => ?_)
            · refine kw_iinc (pc := 38) dX3_errorPlace_38 (by decide) rfl rfl rfl ?_
              refine kw_goto (tgt := 6) (pc := 41) dX3_errorPlace_41 (by decide) ?_
              exact kW.locs (ih (T - (i + 1)) (by omega) (i + 1) p2 v2 wz rfl (by omega) (stp_le hst hp) S2 (fun a h1 h2 => (F2 a h1 h2).trans (F a h1 h2)) (by rw [hal]; exact al_one (by omega) hst)) ⟨rfl, kgE rfl (kA (a := i) (b := 1) rfl (rfl : (Int32.ofInt 1) = nI 1)), trivial⟩
            · exact absurd h33 (by decide)
  refine kw_aload_n (pc := 0) dX3_errorPlace_0 rfl ?_
  refine kw_callVw0 (pc := 1) dX3_errorPlace_1 lX3_26 (c3_start S) S.1 rfl rfl rfl ⟨by decide, by decide, Nat.le_of_ble_eq_true rfl⟩ (fun wz hz => ?_)
  obtain ⟨S1, F1⟩ := hz
  refine kw_iconst (v := 0) (pc := 4) dX3_errorPlace_4 (by decide) ?_
  refine kw_istore_n (pc := 5) dX3_errorPlace_5 (by decide) rfl ?_
  exact kW.locs (loop (T - 0) 0 0 _ wz rfl (Nat.zero_le _) (by decide) S1 F1 rfl) ⟨rfl, rfl, trivial⟩
theorem aln_le6 {bf : Nat → Int32} : ∀ (n : Nat) (st : pst) (i : Nat), st.1 ≤ 6 → (aln bf n st i).2.1 ≤ 6
  | 0, _, _, h => h
  | n + 1, st, i, h => by
    show (match stp st (bf i) with | none => (i, st) | some st' => aln bf n st' (i + 1)).2.1 ≤ 6
    cases hs : stp st (bf i) with
    | none => exact h
    | some st' => exact aln_le6 n st' (i + 1) (stp_le hs h)
theorem al_le6 {bf : Nat → Int32} {T i : Nat} {st : pst} (h : st.1 ≤ 6) : (al bf T st i).2.1 ≤ 6 := aln_le6 _ _ _ h
set_option maxRecDepth 100000 in
set_option maxHeartbeats 4000000 in
theorem c3_tells {w : kM} {t T p : Nat} {v : Nat → Int32} (S : txS w t T (p, v)) {cf : Nat → Int32} (hcf : w (t + 1) = kI 0 60 (tr 60 cf)) (hT : T ≤ 60) : kCtrW mX3_tellsParcels 4 [.ref t] w (some (.int (b2i ((al cf T (0, kuf v 0 0) 0).1 = T ∧ (al cf T (0, kuf v 0 0) 0).2.1 = 6)))) (fun w' => txS w' t T (al cf T (0, kuf v 0 0) 0).2 ∧ ∀ a, a ≠ t → a ≠ t + 2 → w' a = w a) := by
  refine kCtrW.of pl3 nlX3_tellsParcels rfl (Nat.le_of_ble_eq_true rfl) (fun n => ?_)
  refine kw_aload_n (pc := 0) dX3_tellsParcels_0 rfl ?_
  have hle := al_le (bf := cf) (st := (0, kuf v 0 0)) (Nat.zero_le T)
  have h6 := al_le6 (bf := cf) (T := T) (st := (0, kuf v 0 0)) (i := 0) (Nat.le_of_ble_eq_true rfl)
  refine kw_callVw1 (pc := 1) dX3_tellsParcels_1 lX3_33 (c3_error S hcf hT) S.1 rfl rfl rfl ⟨by decide, by decide, Nat.le_of_ble_eq_true rfl⟩ (fun wz hz => ?_)
  obtain ⟨S1, F1⟩ := hz
  refine kw_aload_n (pc := 4) dX3_tellsParcels_4 rfl ?_
  refine kw_getfield (pc := 5) kfw dX3_tellsParcels_5 fX3_18 S1.1 rfl ?_
  refine kw_icmp_ne (tgt := 22) (pc := 8) dX3_tellsParcels_8 (by decide) (fun h8 => ?_) (fun h8 => ?_)
  · have h8 := mt (kEqI (a := (al cf T (0, kuf v 0 0) 0).1) (b := T) (by omega) (by omega) rfl rfl).mpr h8
    refine kw_iconst (v := 0) (pc := 22) dX3_tellsParcels_22 (by decide) ?_
    exact kw_ireturn nlX3_tellsParcels (pc := 23) dX3_tellsParcels_23 rfl (by first | rfl | exact b2i_z _ | exact hbool) ⟨kv_eq (by grind [b2i]), ⟨S1, F1⟩, rfl⟩
  · have h8 := (kEqI (a := (al cf T (0, kuf v 0 0) 0).1) (b := T) (by omega) (by omega) rfl rfl).mp h8
    refine kw_aload_n (pc := 11) dX3_tellsParcels_11 rfl ?_
    refine kw_callVr (pc := 12) dX3_tellsParcels_12 lX3_37 (c3_atEnd S1 h6) S1.1 rfl rfl rfl ⟨by decide, by decide, Nat.le_of_ble_eq_true rfl⟩ ?_
    refine kw_if_eq (tgt := 22) (pc := 15) dX3_tellsParcels_15 (by decide) (fun h15 => ?_) (fun h15 => ?_)
    · refine kw_iconst (v := 0) (pc := 22) dX3_tellsParcels_22 (by decide) ?_
      exact kw_ireturn nlX3_tellsParcels (pc := 23) dX3_tellsParcels_23 rfl (by first | rfl | exact b2i_z _ | exact hbool) ⟨kv_eq (by grind [b2i]), ⟨S1, F1⟩, rfl⟩
    · refine kw_iconst (v := 1) (pc := 18) dX3_tellsParcels_18 (by decide) ?_
      refine kw_goto (tgt := 23) (pc := 19) dX3_tellsParcels_19 (by decide) ?_
      exact kw_ireturn nlX3_tellsParcels (pc := 23) dX3_tellsParcels_23 rfl (by first | rfl | exact b2i_z _ | exact hbool) ⟨kv_eq (by grind [b2i]), ⟨S1, F1⟩, rfl⟩
