theorem in_nat {b n : Nat} (hn : n ≤ 1000) (hb : b < n) {hi : Int32} (e : hi = nI (n - 1) := by rfl) : (0 : Int32) ≤ nI b ∧ nI b ≤ hi := by
  subst e
  exact ⟨nI_pos' (by omega), nI_le (by omega) (by omega)⟩
set_option maxRecDepth 100000 in
set_option maxHeartbeats 4000000 in
theorem c_bring {w0 : kM} {mo : Nat} {s : Nat → Int32} {sv : Int32} {kp bf : Nat → Int32} {ty th : Int32} {co ma : Nat → Int32} {sp : Int32}  {q : Nat} (hq : sv = nI q) (hq6 : q ≤ 6) {c : Nat} (hc : s 20 = nI c) (hc7 : c ≤ 7) {x y z wt zn : Int32} (hB : (1 ≤ x ∧ x ≤ 60) ∧ (1 ≤ y ∧ y ≤ 60) ∧ (1 ≤ z ∧ z ≤ 60) ∧ (1 ≤ wt ∧ wt ≤ 99) ∧ 0 ≤ zn ∧ zn ≤ 3) : kCtrW mX6_bring 3 [.ref mo, .int x, .int y, .int z, .int wt, .int zn] (mM w0 mo s sv kp bf ty th co ma sp) (some (.int (comeV c))) (fun w' => mSt w0 mo (comeS (svS s q) c x y z wt zn 0) (nI (svN q)) kp bf ty 0 w') := by
  refine kCtrW.of pl6 nlX6_bring rfl (Nat.le_of_ble_eq_true rfl) (fun n => ?_)
  refine kw_aload_n (pc := 0) dX6_bring_0 rfl ?_
  refine kw_iload_n (pc := 1) dX6_bring_1 rfl ?_
  refine kw_callSr (pc := 2) dX6_bring_2 lX6_108 (c_isSideT hB.1) rfl rfl ⟨by decide, by decide, Nat.le_of_ble_eq_true rfl⟩ ?_
  refine kw_if_eq (tgt := 47) (pc := 5) dX6_bring_5 (by decide) (fun h5 => ?_) (fun h5 => ?_)
  · exact absurd h5 (by decide)
  · refine kw_iload_n (pc := 8) dX6_bring_8 rfl ?_
    refine kw_callSr (pc := 9) dX6_bring_9 lX6_108 (c_isSideT hB.2.1) rfl rfl ⟨by decide, by decide, Nat.le_of_ble_eq_true rfl⟩ ?_
    refine kw_if_eq (tgt := 47) (pc := 12) dX6_bring_12 (by decide) (fun h12 => ?_) (fun h12 => ?_)
    · exact absurd h12 (by decide)
    · refine kw_iload_n (pc := 15) dX6_bring_15 rfl ?_
      refine kw_callSr (pc := 16) dX6_bring_16 lX6_108 (c_isSideT hB.2.2.1) rfl rfl ⟨by decide, by decide, Nat.le_of_ble_eq_true rfl⟩ ?_
      refine kw_if_eq (tgt := 47) (pc := 19) dX6_bring_19 (by decide) (fun h19 => ?_) (fun h19 => ?_)
      · exact absurd h19 (by decide)
      · refine kw_iload (pc := 22) dX6_bring_22 rfl ?_
        refine kw_iconst (v := 1) (pc := 24) dX6_bring_24 (by decide) ?_
        refine kw_bipush (v := 99) (pc := 25) dX6_bring_25 (by decide) ?_
        refine kw_callSr (pc := 27) dX6_bring_27 lX6_41 (c_inT hB.2.2.2.1) rfl rfl ⟨by decide, by decide, Nat.le_of_ble_eq_true rfl⟩ ?_
        refine kw_if_eq (tgt := 47) (pc := 30) dX6_bring_30 (by decide) (fun h30 => ?_) (fun h30 => ?_)
        · exact absurd h30 (by decide)
        · refine kw_iload (pc := 33) dX6_bring_33 rfl ?_
          refine kw_iconst (v := 0) (pc := 35) dX6_bring_35 (by decide) ?_
          refine kw_iconst (v := 3) (pc := 36) dX6_bring_36 (by decide) ?_
          refine kw_callSr (pc := 37) dX6_bring_37 lX6_41 (c_inT hB.2.2.2.2) rfl rfl ⟨by decide, by decide, Nat.le_of_ble_eq_true rfl⟩ ?_
          refine kw_if_eq (tgt := 47) (pc := 40) dX6_bring_40 (by decide) (fun h40 => ?_) (fun h40 => ?_)
          · exact absurd h40 (by decide)
          · refine kw_iconst (v := 1) (pc := 43) dX6_bring_43 (by decide) ?_
            refine kw_goto (tgt := 48) (pc := 44) dX6_bring_44 (by decide) ?_
            refine kw_iconst (v := 1) (pc := 48) dX6_bring_48 (by decide) ?_
            refine kw_callVw1 (pc := 49) dX6_bring_49 lX6_111 (c_goes1 (by decide) (by decide)) mM_0 rfl rfl rfl ⟨by decide, by decide, Nat.le_of_ble_eq_true rfl⟩ (fun w1 hw1 => ?_)
            have hw1 : w1 = _ := hw1
            subst hw1
            refine kw_if_ne (tgt := 57) (pc := 52) dX6_bring_52 (by decide) (fun h52 => ?_) (fun h52 => ?_)
            · refine kw_aload_n (pc := 57) dX6_bring_57 rfl ?_
              refine kw_callVw0 (pc := 58) dX6_bring_58 lX6_38 (c_saves hq hq6) mM_0 rfl rfl rfl ⟨by decide, by decide, Nat.le_of_ble_eq_true rfl⟩ (fun w1 hw1 => ?_)
              have hw1 : w1 = _ := hw1
              subst hw1
              refine kw_aload_n (pc := 61) dX6_bring_61 rfl ?_
              refine kw_iload_n (pc := 62) dX6_bring_62 rfl ?_
              refine kw_iload_n (pc := 63) dX6_bring_63 rfl ?_
              refine kw_iload_n (pc := 64) dX6_bring_64 rfl ?_
              refine kw_iload (pc := 65) dX6_bring_65 rfl ?_
              refine kw_iload (pc := 67) dX6_bring_67 rfl ?_
              refine kw_iconst (v := 0) (pc := 69) dX6_bring_69 (by decide) ?_
              refine kw_callVw1 (pc := 70) dX6_bring_70 lX6_115 (c_comes ((svS_low (by decide)).trans hc) hc7 _ _ _ _ _ _) mM_0 rfl rfl rfl ⟨by decide, by decide, Nat.le_of_ble_eq_true rfl⟩ (fun w1 hw1 => ?_)
              have hw1 : w1 = _ := hw1
              subst hw1
              exact kw_ireturn nlX6_bring (pc := 73) dX6_bring_73 rfl rfl ⟨kv_eq rfl, ⟨_, _, _, _, rfl, agr.rf⟩, rfl⟩
            · exact absurd h52 (by decide)
set_option maxRecDepth 100000 in
set_option maxHeartbeats 4000000 in
theorem c_bringN {w0 : kM} {mo : Nat} {s : Nat → Int32} {sv : Int32} {kp bf : Nat → Int32} {ty th : Int32} {co ma : Nat → Int32} {sp : Int32}  {x y z wt zn : Int32} (hB : ¬ ((1 ≤ x ∧ x ≤ 60) ∧ (1 ≤ y ∧ y ≤ 60) ∧ (1 ≤ z ∧ z ≤ 60) ∧ (1 ≤ wt ∧ wt ≤ 99) ∧ 0 ≤ zn ∧ zn ≤ 3)) : kCtrW mX6_bring 3 [.ref mo, .int x, .int y, .int z, .int wt, .int zn] (mM w0 mo s sv kp bf ty th co ma sp) (some (.int 0)) (fun w' => mSt w0 mo s sv kp bf ty 1 w') := by
  refine kCtrW.of pl6 nlX6_bring rfl (Nat.le_of_ble_eq_true rfl) (fun n => ?_)
  refine kw_aload_n (pc := 0) dX6_bring_0 rfl ?_
  refine kw_iload_n (pc := 1) dX6_bring_1 rfl ?_
  refine kw_callSr (pc := 2) dX6_bring_2 lX6_108 (c_isSide _) rfl rfl ⟨by decide, by decide, Nat.le_of_ble_eq_true rfl⟩ ?_
  refine kw_if_eq (tgt := 47) (pc := 5) dX6_bring_5 (by decide) (fun h5 => ?_) (fun h5 => ?_)
  · refine kw_iconst (v := 0) (pc := 47) dX6_bring_47 (by decide) ?_
    refine kw_iconst (v := 1) (pc := 48) dX6_bring_48 (by decide) ?_
    refine kw_callVw1 (pc := 49) dX6_bring_49 lX6_111 (c_goesA rfl) mM_0 rfl rfl rfl ⟨by decide, by decide, Nat.le_of_ble_eq_true rfl⟩ (fun w1 hw1 => ?_)
    have hw1 : w1 = _ := hw1
    subst hw1
    refine kw_if_ne (tgt := 57) (pc := 52) dX6_bring_52 (by decide) (fun h52 => ?_) (fun h52 => ?_)
    · exact absurd (by decide) h52
    · refine kw_iconst (v := 0) (pc := 55) dX6_bring_55 (by decide) ?_
      exact kw_ireturn nlX6_bring (pc := 56) dX6_bring_56 rfl rfl ⟨kv_eq rfl, ⟨_, _, _, _, rfl, agr.rf⟩, rfl⟩
  · refine kw_iload_n (pc := 8) dX6_bring_8 rfl ?_
    refine kw_callSr (pc := 9) dX6_bring_9 lX6_108 (c_isSide _) rfl rfl ⟨by decide, by decide, Nat.le_of_ble_eq_true rfl⟩ ?_
    refine kw_if_eq (tgt := 47) (pc := 12) dX6_bring_12 (by decide) (fun h12 => ?_) (fun h12 => ?_)
    · refine kw_iconst (v := 0) (pc := 47) dX6_bring_47 (by decide) ?_
      refine kw_iconst (v := 1) (pc := 48) dX6_bring_48 (by decide) ?_
      refine kw_callVw1 (pc := 49) dX6_bring_49 lX6_111 (c_goesA rfl) mM_0 rfl rfl rfl ⟨by decide, by decide, Nat.le_of_ble_eq_true rfl⟩ (fun w1 hw1 => ?_)
      have hw1 : w1 = _ := hw1
      subst hw1
      refine kw_if_ne (tgt := 57) (pc := 52) dX6_bring_52 (by decide) (fun h52 => ?_) (fun h52 => ?_)
      · exact absurd (by decide) h52
      · refine kw_iconst (v := 0) (pc := 55) dX6_bring_55 (by decide) ?_
        exact kw_ireturn nlX6_bring (pc := 56) dX6_bring_56 rfl rfl ⟨kv_eq rfl, ⟨_, _, _, _, rfl, agr.rf⟩, rfl⟩
    · refine kw_iload_n (pc := 15) dX6_bring_15 rfl ?_
      refine kw_callSr (pc := 16) dX6_bring_16 lX6_108 (c_isSide _) rfl rfl ⟨by decide, by decide, Nat.le_of_ble_eq_true rfl⟩ ?_
      refine kw_if_eq (tgt := 47) (pc := 19) dX6_bring_19 (by decide) (fun h19 => ?_) (fun h19 => ?_)
      · refine kw_iconst (v := 0) (pc := 47) dX6_bring_47 (by decide) ?_
        refine kw_iconst (v := 1) (pc := 48) dX6_bring_48 (by decide) ?_
        refine kw_callVw1 (pc := 49) dX6_bring_49 lX6_111 (c_goesA rfl) mM_0 rfl rfl rfl ⟨by decide, by decide, Nat.le_of_ble_eq_true rfl⟩ (fun w1 hw1 => ?_)
        have hw1 : w1 = _ := hw1
        subst hw1
        refine kw_if_ne (tgt := 57) (pc := 52) dX6_bring_52 (by decide) (fun h52 => ?_) (fun h52 => ?_)
        · exact absurd (by decide) h52
        · refine kw_iconst (v := 0) (pc := 55) dX6_bring_55 (by decide) ?_
          exact kw_ireturn nlX6_bring (pc := 56) dX6_bring_56 rfl rfl ⟨kv_eq rfl, ⟨_, _, _, _, rfl, agr.rf⟩, rfl⟩
      · refine kw_iload (pc := 22) dX6_bring_22 rfl ?_
        refine kw_iconst (v := 1) (pc := 24) dX6_bring_24 (by decide) ?_
        refine kw_bipush (v := 99) (pc := 25) dX6_bring_25 (by decide) ?_
        refine kw_callSr (pc := 27) dX6_bring_27 lX6_41 (c_in _ _ _) rfl rfl ⟨by decide, by decide, Nat.le_of_ble_eq_true rfl⟩ ?_
        refine kw_if_eq (tgt := 47) (pc := 30) dX6_bring_30 (by decide) (fun h30 => ?_) (fun h30 => ?_)
        · refine kw_iconst (v := 0) (pc := 47) dX6_bring_47 (by decide) ?_
          refine kw_iconst (v := 1) (pc := 48) dX6_bring_48 (by decide) ?_
          refine kw_callVw1 (pc := 49) dX6_bring_49 lX6_111 (c_goesA rfl) mM_0 rfl rfl rfl ⟨by decide, by decide, Nat.le_of_ble_eq_true rfl⟩ (fun w1 hw1 => ?_)
          have hw1 : w1 = _ := hw1
          subst hw1
          refine kw_if_ne (tgt := 57) (pc := 52) dX6_bring_52 (by decide) (fun h52 => ?_) (fun h52 => ?_)
          · exact absurd (by decide) h52
          · refine kw_iconst (v := 0) (pc := 55) dX6_bring_55 (by decide) ?_
            exact kw_ireturn nlX6_bring (pc := 56) dX6_bring_56 rfl rfl ⟨kv_eq rfl, ⟨_, _, _, _, rfl, agr.rf⟩, rfl⟩
        · refine kw_iload (pc := 33) dX6_bring_33 rfl ?_
          refine kw_iconst (v := 0) (pc := 35) dX6_bring_35 (by decide) ?_
          refine kw_iconst (v := 3) (pc := 36) dX6_bring_36 (by decide) ?_
          refine kw_callSr (pc := 37) dX6_bring_37 lX6_41 (c_in _ _ _) rfl rfl ⟨by decide, by decide, Nat.le_of_ble_eq_true rfl⟩ ?_
          refine kw_if_eq (tgt := 47) (pc := 40) dX6_bring_40 (by decide) (fun h40 => ?_) (fun h40 => ?_)
          · refine kw_iconst (v := 0) (pc := 47) dX6_bring_47 (by decide) ?_
            refine kw_iconst (v := 1) (pc := 48) dX6_bring_48 (by decide) ?_
            refine kw_callVw1 (pc := 49) dX6_bring_49 lX6_111 (c_goesA rfl) mM_0 rfl rfl rfl ⟨by decide, by decide, Nat.le_of_ble_eq_true rfl⟩ (fun w1 hw1 => ?_)
            have hw1 : w1 = _ := hw1
            subst hw1
            refine kw_if_ne (tgt := 57) (pc := 52) dX6_bring_52 (by decide) (fun h52 => ?_) (fun h52 => ?_)
            · exact absurd (by decide) h52
            · refine kw_iconst (v := 0) (pc := 55) dX6_bring_55 (by decide) ?_
              exact kw_ireturn nlX6_bring (pc := 56) dX6_bring_56 rfl rfl ⟨kv_eq rfl, ⟨_, _, _, _, rfl, agr.rf⟩, rfl⟩
          · exfalso; grind [b2i]
theorem c_setsE {w0 : kM} {mo : Nat} {s : Nat → Int32} {sv : Int32} {kp bf : Nat → Int32} {ty th : Int32} {co ma : Nat → Int32} {sp : Int32} {x : Int32} {q pl : Nat} (hx : x = nI pl) (hq : sv = nI q) (hq6 : q ≤ 6) (hpl : pl < 75) (v : Int32) : kCtrW mX6_sets 2 [.ref mo, .int x, .int v] (mM w0 mo s sv kp bf ty th co ma sp) (some (.int (s pl))) (fun w' => w' = (mM w0 mo (kuf (svS s q) pl v) (nI (svN q)) kp bf ty th co ma sp)) := by
  subst hx
  exact c_sets hq hq6 hpl v
set_option maxRecDepth 100000 in
set_option maxHeartbeats 4000000 in
theorem c_change {w0 : kM} {mo : Nat} {s : Nat → Int32} {sv : Int32} {kp bf : Nat → Int32} {ty th : Int32} {co ma : Nat → Int32} {sp : Int32}  {q : Nat} (hq : sv = nI q) (hq6 : q ≤ 6) {c : Nat} (hc : s 20 = nI c) (hc7 : c ≤ 7) {k : Nat} (hk : k < c) {w v : Int32} (hB : (0 ≤ w ∧ w ≤ 1) ∧ 0 ≤ v ∧ v ≤ (if w = 0 then 2 else 8)) : kCtrW mX6_change 3 [.ref mo, .int (nI k), .int w, .int v] (mM w0 mo s sv kp bf ty th co ma sp) (some (.int (s (21 + 7 * k + (if w = 0 then 6 else 5))))) (fun w' => mSt w0 mo (kuf (svS s q) (21 + 7 * k + (if w = 0 then 6 else 5)) v) (nI (svN q)) kp bf ty 0 w') := by
  refine kCtrW.of pl6 nlX6_change rfl (Nat.le_of_ble_eq_true rfl) (fun n => ?_)
  refine kw_aload_n (pc := 0) dX6_change_0 rfl ?_
  refine kw_aload_n (pc := 1) dX6_change_1 rfl ?_
  refine kw_iload_n (pc := 2) dX6_change_2 rfl ?_
  refine kw_callVr (pc := 3) dX6_change_3 lX6_119 (c_isParcelT hc hc7 hk) mM_0 rfl rfl rfl ⟨by decide, by decide, Nat.le_of_ble_eq_true rfl⟩ ?_
  refine kw_iload_n (pc := 6) dX6_change_6 rfl ?_
  refine kw_iconst (v := 0) (pc := 7) dX6_change_7 (by decide) ?_
  refine kw_iconst (v := 1) (pc := 8) dX6_change_8 (by decide) ?_
  refine kw_callSr (pc := 9) dX6_change_9 lX6_41 (c_inT hB.1) rfl rfl ⟨by decide, by decide, Nat.le_of_ble_eq_true rfl⟩ ?_
  refine kw_if_eq (tgt := 37) (pc := 12) dX6_change_12 (by decide) (fun h12 => ?_) (fun h12 => ?_)
  · exact absurd h12 (by decide)
  · refine kw_iload_n (pc := 15) dX6_change_15 rfl ?_
    refine kw_iconst (v := 0) (pc := 16) dX6_change_16 (by decide) ?_
    refine kw_iload_n (pc := 17) dX6_change_17 rfl ?_
    refine kw_if_ne (tgt := 25) (pc := 18) dX6_change_18 (by decide) (fun h18 => ?_) (fun h18 => ?_)
    · refine kw_bipush (v := 8) (pc := 25) dX6_change_25 (by decide) ?_
      refine kw_callSr (pc := 27) dX6_change_27 lX6_41 (c_inT (by have := hB.2; grind)) rfl rfl ⟨by decide, by decide, Nat.le_of_ble_eq_true rfl⟩ ?_
      refine kw_if_eq (tgt := 37) (pc := 30) dX6_change_30 (by decide) (fun h30 => ?_) (fun h30 => ?_)
      · exact absurd h30 (by decide)
      · refine kw_iconst (v := 1) (pc := 33) dX6_change_33 (by decide) ?_
        refine kw_goto (tgt := 38) (pc := 34) dX6_change_34 (by decide) ?_
        refine kw_callVw1 (pc := 38) dX6_change_38 lX6_111 (c_goes1 (by decide) (by decide)) mM_0 rfl rfl rfl ⟨by decide, by decide, Nat.le_of_ble_eq_true rfl⟩ (fun w1 hw1 => ?_)
        have hw1 : w1 = _ := hw1
        subst hw1
        refine kw_if_eq (tgt := 67) (pc := 41) dX6_change_41 (by decide) (fun h41 => ?_) (fun h41 => ?_)
        · exact absurd h41 (by decide)
        · refine kw_aload_n (pc := 44) dX6_change_44 rfl ?_
          refine kw_iload_n (pc := 45) dX6_change_45 rfl ?_
          refine kw_callSr (pc := 46) dX6_change_46 lX6_69 (c_atE (p := k) rfl) rfl rfl ⟨by decide, by decide, Nat.le_of_ble_eq_true rfl⟩ ?_
          refine kw_iload_n (pc := 49) dX6_change_49 rfl ?_
          refine kw_if_ne (tgt := 58) (pc := 50) dX6_change_50 (by decide) (fun h50 => ?_) (fun h50 => ?_)
          · refine kw_iconst (v := 5) (pc := 58) dX6_change_58 (by decide) ?_
            refine kw_iadd (pc := 59) dX6_change_59 ?_
            refine kw_iload_n (pc := 60) dX6_change_60 rfl ?_
            refine kw_callVw1 (pc := 61) dX6_change_61 lX6_122 (c_setsE (pl := ((21 + 7 * k) + 5)) (kA (a := (21 + 7 * k)) (b := 5) rfl (rfl : (5 : Int32) = nI 5)) hq hq6 (by omega) _) mM_0 rfl rfl rfl ⟨by decide, by decide, Nat.le_of_ble_eq_true rfl⟩ (fun w1 hw1 => ?_)
            have hw1 : w1 = _ := hw1
            subst hw1
            refine kw_goto (tgt := 68) (pc := 64) dX6_change_64 (by decide) ?_
            first | exact absurd h18 h50 | exact absurd h50 h18 | exact kw_ireturn nlX6_change (pc := 68) dX6_change_68 rfl rfl ⟨kv_eq (by rw [show (if w = 0 then 6 else 5) = 5 by simp [*]]), ⟨_, _, _, _, rfl, by rw [show (if w = 0 then 6 else 5) = 5 by simp [*]]; exact agr.rf⟩, rfl⟩
          · refine kw_bipush (v := 6) (pc := 53) dX6_change_53 (by decide) ?_
            refine kw_goto (tgt := 59) (pc := 55) dX6_change_55 (by decide) ?_
            refine kw_iadd (pc := 59) dX6_change_59 ?_
            refine kw_iload_n (pc := 60) dX6_change_60 rfl ?_
            refine kw_callVw1 (pc := 61) dX6_change_61 lX6_122 (c_setsE (pl := ((21 + 7 * k) + 6)) (kA (a := (21 + 7 * k)) (b := 6) rfl (rfl : (6 : Int32) = nI 6)) hq hq6 (by omega) _) mM_0 rfl rfl rfl ⟨by decide, by decide, Nat.le_of_ble_eq_true rfl⟩ (fun w1 hw1 => ?_)
            have hw1 : w1 = _ := hw1
            subst hw1
            refine kw_goto (tgt := 68) (pc := 64) dX6_change_64 (by decide) ?_
            first | exact absurd h18 h50 | exact absurd h50 h18 | exact kw_ireturn nlX6_change (pc := 68) dX6_change_68 rfl rfl ⟨kv_eq (by rw [show (if w = 0 then 6 else 5) = 6 by simp [*]]), ⟨_, _, _, _, rfl, by rw [show (if w = 0 then 6 else 5) = 6 by simp [*]]; exact agr.rf⟩, rfl⟩
    · refine kw_iconst (v := 2) (pc := 21) dX6_change_21 (by decide) ?_
      refine kw_goto (tgt := 27) (pc := 22) dX6_change_22 (by decide) ?_
      refine kw_callSr (pc := 27) dX6_change_27 lX6_41 (c_inT (by have := hB.2; grind)) rfl rfl ⟨by decide, by decide, Nat.le_of_ble_eq_true rfl⟩ ?_
      refine kw_if_eq (tgt := 37) (pc := 30) dX6_change_30 (by decide) (fun h30 => ?_) (fun h30 => ?_)
      · exact absurd h30 (by decide)
      · refine kw_iconst (v := 1) (pc := 33) dX6_change_33 (by decide) ?_
        refine kw_goto (tgt := 38) (pc := 34) dX6_change_34 (by decide) ?_
        refine kw_callVw1 (pc := 38) dX6_change_38 lX6_111 (c_goes1 (by decide) (by decide)) mM_0 rfl rfl rfl ⟨by decide, by decide, Nat.le_of_ble_eq_true rfl⟩ (fun w1 hw1 => ?_)
        have hw1 : w1 = _ := hw1
        subst hw1
        refine kw_if_eq (tgt := 67) (pc := 41) dX6_change_41 (by decide) (fun h41 => ?_) (fun h41 => ?_)
        · exact absurd h41 (by decide)
        · refine kw_aload_n (pc := 44) dX6_change_44 rfl ?_
          refine kw_iload_n (pc := 45) dX6_change_45 rfl ?_
          refine kw_callSr (pc := 46) dX6_change_46 lX6_69 (c_atE (p := k) rfl) rfl rfl ⟨by decide, by decide, Nat.le_of_ble_eq_true rfl⟩ ?_
          refine kw_iload_n (pc := 49) dX6_change_49 rfl ?_
          refine kw_if_ne (tgt := 58) (pc := 50) dX6_change_50 (by decide) (fun h50 => ?_) (fun h50 => ?_)
          · refine kw_iconst (v := 5) (pc := 58) dX6_change_58 (by decide) ?_
            refine kw_iadd (pc := 59) dX6_change_59 ?_
            refine kw_iload_n (pc := 60) dX6_change_60 rfl ?_
            refine kw_callVw1 (pc := 61) dX6_change_61 lX6_122 (c_setsE (pl := ((21 + 7 * k) + 5)) (kA (a := (21 + 7 * k)) (b := 5) rfl (rfl : (5 : Int32) = nI 5)) hq hq6 (by omega) _) mM_0 rfl rfl rfl ⟨by decide, by decide, Nat.le_of_ble_eq_true rfl⟩ (fun w1 hw1 => ?_)
            have hw1 : w1 = _ := hw1
            subst hw1
            refine kw_goto (tgt := 68) (pc := 64) dX6_change_64 (by decide) ?_
            first | exact absurd h18 h50 | exact absurd h50 h18 | exact kw_ireturn nlX6_change (pc := 68) dX6_change_68 rfl rfl ⟨kv_eq (by rw [show (if w = 0 then 6 else 5) = 5 by simp [*]]), ⟨_, _, _, _, rfl, by rw [show (if w = 0 then 6 else 5) = 5 by simp [*]]; exact agr.rf⟩, rfl⟩
          · refine kw_bipush (v := 6) (pc := 53) dX6_change_53 (by decide) ?_
            refine kw_goto (tgt := 59) (pc := 55) dX6_change_55 (by decide) ?_
            refine kw_iadd (pc := 59) dX6_change_59 ?_
            refine kw_iload_n (pc := 60) dX6_change_60 rfl ?_
            refine kw_callVw1 (pc := 61) dX6_change_61 lX6_122 (c_setsE (pl := ((21 + 7 * k) + 6)) (kA (a := (21 + 7 * k)) (b := 6) rfl (rfl : (6 : Int32) = nI 6)) hq hq6 (by omega) _) mM_0 rfl rfl rfl ⟨by decide, by decide, Nat.le_of_ble_eq_true rfl⟩ (fun w1 hw1 => ?_)
            have hw1 : w1 = _ := hw1
            subst hw1
            refine kw_goto (tgt := 68) (pc := 64) dX6_change_64 (by decide) ?_
            first | exact absurd h18 h50 | exact absurd h50 h18 | exact kw_ireturn nlX6_change (pc := 68) dX6_change_68 rfl rfl ⟨kv_eq (by rw [show (if w = 0 then 6 else 5) = 6 by simp [*]]), ⟨_, _, _, _, rfl, by rw [show (if w = 0 then 6 else 5) = 6 by simp [*]]; exact agr.rf⟩, rfl⟩
set_option maxRecDepth 100000 in
set_option maxHeartbeats 4000000 in
theorem c_changeA {w0 : kM} {mo : Nat} {s : Nat → Int32} {sv : Int32} {kp bf : Nat → Int32} {ty th : Int32} {co ma : Nat → Int32} {sp : Int32}  {c : Nat} (hc : s 20 = nI c) (hc7 : c ≤ 7) {p w v : Int32} (hp : ¬ ∃ k, k < c ∧ p = nI k) : kCtrW mX6_change 3 [.ref mo, .int p, .int w, .int v] (mM w0 mo s sv kp bf ty th co ma sp) (some (.int 0)) (fun w' => mSt w0 mo s sv kp bf ty 1 w') := by
  refine kCtrW.of pl6 nlX6_change rfl (Nat.le_of_ble_eq_true rfl) (fun n => ?_)
  refine kw_aload_n (pc := 0) dX6_change_0 rfl ?_
  refine kw_aload_n (pc := 1) dX6_change_1 rfl ?_
  refine kw_iload_n (pc := 2) dX6_change_2 rfl ?_
  refine kw_callVr (pc := 3) dX6_change_3 lX6_119 (c_isParcelF hc hc7 hp) mM_0 rfl rfl rfl ⟨by decide, by decide, Nat.le_of_ble_eq_true rfl⟩ ?_
  refine kw_iload_n (pc := 6) dX6_change_6 rfl ?_
  refine kw_iconst (v := 0) (pc := 7) dX6_change_7 (by decide) ?_
  refine kw_iconst (v := 1) (pc := 8) dX6_change_8 (by decide) ?_
  refine kw_callSr (pc := 9) dX6_change_9 lX6_41 (c_in _ _ _) rfl rfl ⟨by decide, by decide, Nat.le_of_ble_eq_true rfl⟩ ?_
  refine kw_if_eq (tgt := 37) (pc := 12) dX6_change_12 (by decide) (fun h12 => ?_) (fun h12 => ?_)
  · refine kw_iconst (v := 0) (pc := 37) dX6_change_37 (by decide) ?_
    refine kw_callVw1 (pc := 38) dX6_change_38 lX6_111 (c_goesA rfl) mM_0 rfl rfl rfl ⟨by decide, by decide, Nat.le_of_ble_eq_true rfl⟩ (fun w1 hw1 => ?_)
    have hw1 : w1 = _ := hw1
    subst hw1
    refine kw_if_eq (tgt := 67) (pc := 41) dX6_change_41 (by decide) (fun h41 => ?_) (fun h41 => ?_)
    · refine kw_iconst (v := 0) (pc := 67) dX6_change_67 (by decide) ?_
      exact kw_ireturn nlX6_change (pc := 68) dX6_change_68 rfl rfl ⟨kv_eq rfl, ⟨_, _, _, _, rfl, agr.rf⟩, rfl⟩
    · exact absurd (by decide) h41
  · refine kw_iload_n (pc := 15) dX6_change_15 rfl ?_
    refine kw_iconst (v := 0) (pc := 16) dX6_change_16 (by decide) ?_
    refine kw_iload_n (pc := 17) dX6_change_17 rfl ?_
    refine kw_if_ne (tgt := 25) (pc := 18) dX6_change_18 (by decide) (fun h18 => ?_) (fun h18 => ?_)
    · refine kw_bipush (v := 8) (pc := 25) dX6_change_25 (by decide) ?_
      refine kw_callSr (pc := 27) dX6_change_27 lX6_41 (c_in _ _ _) rfl rfl ⟨by decide, by decide, Nat.le_of_ble_eq_true rfl⟩ ?_
      refine kw_if_eq (tgt := 37) (pc := 30) dX6_change_30 (by decide) (fun h30 => ?_) (fun h30 => ?_)
      · refine kw_iconst (v := 0) (pc := 37) dX6_change_37 (by decide) ?_
        refine kw_callVw1 (pc := 38) dX6_change_38 lX6_111 (c_goesA rfl) mM_0 rfl rfl rfl ⟨by decide, by decide, Nat.le_of_ble_eq_true rfl⟩ (fun w1 hw1 => ?_)
        have hw1 : w1 = _ := hw1
        subst hw1
        refine kw_if_eq (tgt := 67) (pc := 41) dX6_change_41 (by decide) (fun h41 => ?_) (fun h41 => ?_)
        · refine kw_iconst (v := 0) (pc := 67) dX6_change_67 (by decide) ?_
          exact kw_ireturn nlX6_change (pc := 68) dX6_change_68 rfl rfl ⟨kv_eq rfl, ⟨_, _, _, _, rfl, agr.rf⟩, rfl⟩
        · exact absurd (by decide) h41
      · refine kw_iconst (v := 1) (pc := 33) dX6_change_33 (by decide) ?_
        refine kw_goto (tgt := 38) (pc := 34) dX6_change_34 (by decide) ?_
        refine kw_callVw1 (pc := 38) dX6_change_38 lX6_111 (c_goesA rfl) mM_0 rfl rfl rfl ⟨by decide, by decide, Nat.le_of_ble_eq_true rfl⟩ (fun w1 hw1 => ?_)
        have hw1 : w1 = _ := hw1
        subst hw1
        refine kw_if_eq (tgt := 67) (pc := 41) dX6_change_41 (by decide) (fun h41 => ?_) (fun h41 => ?_)
        · refine kw_iconst (v := 0) (pc := 67) dX6_change_67 (by decide) ?_
          exact kw_ireturn nlX6_change (pc := 68) dX6_change_68 rfl rfl ⟨kv_eq rfl, ⟨_, _, _, _, rfl, agr.rf⟩, rfl⟩
        · exact absurd (by decide) h41
    · refine kw_iconst (v := 2) (pc := 21) dX6_change_21 (by decide) ?_
      refine kw_goto (tgt := 27) (pc := 22) dX6_change_22 (by decide) ?_
      refine kw_callSr (pc := 27) dX6_change_27 lX6_41 (c_in _ _ _) rfl rfl ⟨by decide, by decide, Nat.le_of_ble_eq_true rfl⟩ ?_
      refine kw_if_eq (tgt := 37) (pc := 30) dX6_change_30 (by decide) (fun h30 => ?_) (fun h30 => ?_)
      · refine kw_iconst (v := 0) (pc := 37) dX6_change_37 (by decide) ?_
        refine kw_callVw1 (pc := 38) dX6_change_38 lX6_111 (c_goesA rfl) mM_0 rfl rfl rfl ⟨by decide, by decide, Nat.le_of_ble_eq_true rfl⟩ (fun w1 hw1 => ?_)
        have hw1 : w1 = _ := hw1
        subst hw1
        refine kw_if_eq (tgt := 67) (pc := 41) dX6_change_41 (by decide) (fun h41 => ?_) (fun h41 => ?_)
        · refine kw_iconst (v := 0) (pc := 67) dX6_change_67 (by decide) ?_
          exact kw_ireturn nlX6_change (pc := 68) dX6_change_68 rfl rfl ⟨kv_eq rfl, ⟨_, _, _, _, rfl, agr.rf⟩, rfl⟩
        · exact absurd (by decide) h41
      · refine kw_iconst (v := 1) (pc := 33) dX6_change_33 (by decide) ?_
        refine kw_goto (tgt := 38) (pc := 34) dX6_change_34 (by decide) ?_
        refine kw_callVw1 (pc := 38) dX6_change_38 lX6_111 (c_goesA rfl) mM_0 rfl rfl rfl ⟨by decide, by decide, Nat.le_of_ble_eq_true rfl⟩ (fun w1 hw1 => ?_)
        have hw1 : w1 = _ := hw1
        subst hw1
        refine kw_if_eq (tgt := 67) (pc := 41) dX6_change_41 (by decide) (fun h41 => ?_) (fun h41 => ?_)
        · refine kw_iconst (v := 0) (pc := 67) dX6_change_67 (by decide) ?_
          exact kw_ireturn nlX6_change (pc := 68) dX6_change_68 rfl rfl ⟨kv_eq rfl, ⟨_, _, _, _, rfl, agr.rf⟩, rfl⟩
        · exact absurd (by decide) h41
set_option maxRecDepth 100000 in
set_option maxHeartbeats 4000000 in
theorem c_changeB {w0 : kM} {mo : Nat} {s : Nat → Int32} {sv : Int32} {kp bf : Nat → Int32} {ty th : Int32} {co ma : Nat → Int32} {sp : Int32}  {c : Nat} (hc : s 20 = nI c) (hc7 : c ≤ 7) {k : Nat} (hk : k < c) {w v : Int32} (hB : ¬ ((0 ≤ w ∧ w ≤ 1) ∧ 0 ≤ v ∧ v ≤ (if w = 0 then 2 else 8))) : kCtrW mX6_change 3 [.ref mo, .int (nI k), .int w, .int v] (mM w0 mo s sv kp bf ty th co ma sp) (some (.int 0)) (fun w' => mSt w0 mo s sv kp bf ty 2 w') := by
  refine kCtrW.of pl6 nlX6_change rfl (Nat.le_of_ble_eq_true rfl) (fun n => ?_)
  refine kw_aload_n (pc := 0) dX6_change_0 rfl ?_
  refine kw_aload_n (pc := 1) dX6_change_1 rfl ?_
  refine kw_iload_n (pc := 2) dX6_change_2 rfl ?_
  refine kw_callVr (pc := 3) dX6_change_3 lX6_119 (c_isParcelT hc hc7 hk) mM_0 rfl rfl rfl ⟨by decide, by decide, Nat.le_of_ble_eq_true rfl⟩ ?_
  refine kw_iload_n (pc := 6) dX6_change_6 rfl ?_
  refine kw_iconst (v := 0) (pc := 7) dX6_change_7 (by decide) ?_
  refine kw_iconst (v := 1) (pc := 8) dX6_change_8 (by decide) ?_
  refine kw_callSr (pc := 9) dX6_change_9 lX6_41 (c_in _ _ _) rfl rfl ⟨by decide, by decide, Nat.le_of_ble_eq_true rfl⟩ ?_
  refine kw_if_eq (tgt := 37) (pc := 12) dX6_change_12 (by decide) (fun h12 => ?_) (fun h12 => ?_)
  · refine kw_iconst (v := 0) (pc := 37) dX6_change_37 (by decide) ?_
    refine kw_callVw1 (pc := 38) dX6_change_38 lX6_111 (c_goesB (by decide) rfl) mM_0 rfl rfl rfl ⟨by decide, by decide, Nat.le_of_ble_eq_true rfl⟩ (fun w1 hw1 => ?_)
    have hw1 : w1 = _ := hw1
    subst hw1
    refine kw_if_eq (tgt := 67) (pc := 41) dX6_change_41 (by decide) (fun h41 => ?_) (fun h41 => ?_)
    · refine kw_iconst (v := 0) (pc := 67) dX6_change_67 (by decide) ?_
      exact kw_ireturn nlX6_change (pc := 68) dX6_change_68 rfl rfl ⟨kv_eq rfl, ⟨_, _, _, _, rfl, agr.rf⟩, rfl⟩
    · exact absurd (by decide) h41
  · refine kw_iload_n (pc := 15) dX6_change_15 rfl ?_
    refine kw_iconst (v := 0) (pc := 16) dX6_change_16 (by decide) ?_
    refine kw_iload_n (pc := 17) dX6_change_17 rfl ?_
    refine kw_if_ne (tgt := 25) (pc := 18) dX6_change_18 (by decide) (fun h18 => ?_) (fun h18 => ?_)
    · refine kw_bipush (v := 8) (pc := 25) dX6_change_25 (by decide) ?_
      refine kw_callSr (pc := 27) dX6_change_27 lX6_41 (c_in _ _ _) rfl rfl ⟨by decide, by decide, Nat.le_of_ble_eq_true rfl⟩ ?_
      refine kw_if_eq (tgt := 37) (pc := 30) dX6_change_30 (by decide) (fun h30 => ?_) (fun h30 => ?_)
      · refine kw_iconst (v := 0) (pc := 37) dX6_change_37 (by decide) ?_
        refine kw_callVw1 (pc := 38) dX6_change_38 lX6_111 (c_goesB (by decide) rfl) mM_0 rfl rfl rfl ⟨by decide, by decide, Nat.le_of_ble_eq_true rfl⟩ (fun w1 hw1 => ?_)
        have hw1 : w1 = _ := hw1
        subst hw1
        refine kw_if_eq (tgt := 67) (pc := 41) dX6_change_41 (by decide) (fun h41 => ?_) (fun h41 => ?_)
        · refine kw_iconst (v := 0) (pc := 67) dX6_change_67 (by decide) ?_
          exact kw_ireturn nlX6_change (pc := 68) dX6_change_68 rfl rfl ⟨kv_eq rfl, ⟨_, _, _, _, rfl, agr.rf⟩, rfl⟩
        · exact absurd (by decide) h41
      · exfalso; grind [b2i]
    · refine kw_iconst (v := 2) (pc := 21) dX6_change_21 (by decide) ?_
      refine kw_goto (tgt := 27) (pc := 22) dX6_change_22 (by decide) ?_
      refine kw_callSr (pc := 27) dX6_change_27 lX6_41 (c_in _ _ _) rfl rfl ⟨by decide, by decide, Nat.le_of_ble_eq_true rfl⟩ ?_
      refine kw_if_eq (tgt := 37) (pc := 30) dX6_change_30 (by decide) (fun h30 => ?_) (fun h30 => ?_)
      · refine kw_iconst (v := 0) (pc := 37) dX6_change_37 (by decide) ?_
        refine kw_callVw1 (pc := 38) dX6_change_38 lX6_111 (c_goesB (by decide) rfl) mM_0 rfl rfl rfl ⟨by decide, by decide, Nat.le_of_ble_eq_true rfl⟩ (fun w1 hw1 => ?_)
        have hw1 : w1 = _ := hw1
        subst hw1
        refine kw_if_eq (tgt := 67) (pc := 41) dX6_change_41 (by decide) (fun h41 => ?_) (fun h41 => ?_)
        · refine kw_iconst (v := 0) (pc := 67) dX6_change_67 (by decide) ?_
          exact kw_ireturn nlX6_change (pc := 68) dX6_change_68 rfl rfl ⟨kv_eq rfl, ⟨_, _, _, _, rfl, agr.rf⟩, rfl⟩
        · exact absurd (by decide) h41
      · exfalso; grind [b2i]
set_option maxRecDepth 100000 in
set_option maxHeartbeats 4000000 in
theorem c_price {w0 : kM} {mo : Nat} {s : Nat → Int32} {sv : Int32} {kp bf : Nat → Int32} {ty th : Int32} {co ma : Nat → Int32} {sp : Int32}  {q : Nat} (hq : sv = nI q) (hq6 : q ≤ 6) {b : Nat} (hb : b < 12) {v : Int32} (hB : 0 ≤ v ∧ v ≤ 99) : kCtrW mX6_price 3 [.ref mo, .int (nI b), .int v] (mM w0 mo s sv kp bf ty th co ma sp) (some (.int (s (4 + b)))) (fun w' => mSt w0 mo (kuf (svS s q) (4 + b) v) (nI (svN q)) kp bf ty 0 w') := by
  refine kCtrW.of pl6 nlX6_price rfl (Nat.le_of_ble_eq_true rfl) (fun n => ?_)
  refine kw_aload_n (pc := 0) dX6_price_0 rfl ?_
  refine kw_iload_n (pc := 1) dX6_price_1 rfl ?_
  refine kw_iconst (v := 0) (pc := 2) dX6_price_2 (by decide) ?_
  refine kw_bipush (v := 11) (pc := 3) dX6_price_3 (by decide) ?_
  refine kw_callSr (pc := 5) dX6_price_5 lX6_41 (c_inT (in_nat (b := b) (by decide) hb)) rfl rfl ⟨by decide, by decide, Nat.le_of_ble_eq_true rfl⟩ ?_
  refine kw_iload_n (pc := 8) dX6_price_8 rfl ?_
  refine kw_iconst (v := 0) (pc := 9) dX6_price_9 (by decide) ?_
  refine kw_bipush (v := 99) (pc := 10) dX6_price_10 (by decide) ?_
  refine kw_callSr (pc := 12) dX6_price_12 lX6_41 (c_inT hB) rfl rfl ⟨by decide, by decide, Nat.le_of_ble_eq_true rfl⟩ ?_
  refine kw_callVw1 (pc := 15) dX6_price_15 lX6_111 (c_goes1 (by decide) (by decide)) mM_0 rfl rfl rfl ⟨by decide, by decide, Nat.le_of_ble_eq_true rfl⟩ (fun w1 hw1 => ?_)
  have hw1 : w1 = _ := hw1
  subst hw1
  refine kw_if_eq (tgt := 32) (pc := 18) dX6_price_18 (by decide) (fun h18 => ?_) (fun h18 => ?_)
  · exact absurd h18 (by decide)
  · refine kw_aload_n (pc := 21) dX6_price_21 rfl ?_
    refine kw_iconst (v := 4) (pc := 22) dX6_price_22 (by decide) ?_
    refine kw_iload_n (pc := 23) dX6_price_23 rfl ?_
    refine kw_iadd (pc := 24) dX6_price_24 ?_
    refine kw_iload_n (pc := 25) dX6_price_25 rfl ?_
    refine kw_callVw1 (pc := 26) dX6_price_26 lX6_122 (c_setsE (pl := (4 + b)) (kA (a := 4) (b := b) (rfl : (4 : Int32) = nI 4) rfl) hq hq6 (by omega) _) mM_0 rfl rfl rfl ⟨by decide, by decide, Nat.le_of_ble_eq_true rfl⟩ (fun w1 hw1 => ?_)
    have hw1 : w1 = _ := hw1
    subst hw1
    refine kw_goto (tgt := 33) (pc := 29) dX6_price_29 (by decide) ?_
    exact kw_ireturn nlX6_price (pc := 33) dX6_price_33 rfl rfl ⟨kv_eq rfl, ⟨_, _, _, _, rfl, agr.rf⟩, rfl⟩
set_option maxRecDepth 100000 in
set_option maxHeartbeats 4000000 in
theorem c_priceA {w0 : kM} {mo : Nat} {s : Nat → Int32} {sv : Int32} {kp bf : Nat → Int32} {ty th : Int32} {co ma : Nat → Int32} {sp : Int32}  {b v : Int32} (hb : ¬ (0 ≤ b ∧ b ≤ 11)) : kCtrW mX6_price 3 [.ref mo, .int b, .int v] (mM w0 mo s sv kp bf ty th co ma sp) (some (.int 0)) (fun w' => mSt w0 mo s sv kp bf ty 1 w') := by
  refine kCtrW.of pl6 nlX6_price rfl (Nat.le_of_ble_eq_true rfl) (fun n => ?_)
  refine kw_aload_n (pc := 0) dX6_price_0 rfl ?_
  refine kw_iload_n (pc := 1) dX6_price_1 rfl ?_
  refine kw_iconst (v := 0) (pc := 2) dX6_price_2 (by decide) ?_
  refine kw_bipush (v := 11) (pc := 3) dX6_price_3 (by decide) ?_
  refine kw_callSr (pc := 5) dX6_price_5 lX6_41 (c_in _ _ _) rfl rfl ⟨by decide, by decide, Nat.le_of_ble_eq_true rfl⟩ ?_
  refine kw_iload_n (pc := 8) dX6_price_8 rfl ?_
  refine kw_iconst (v := 0) (pc := 9) dX6_price_9 (by decide) ?_
  refine kw_bipush (v := 99) (pc := 10) dX6_price_10 (by decide) ?_
  refine kw_callSr (pc := 12) dX6_price_12 lX6_41 (c_in _ _ _) rfl rfl ⟨by decide, by decide, Nat.le_of_ble_eq_true rfl⟩ ?_
  refine kw_callVw1 (pc := 15) dX6_price_15 lX6_111 (c_goesA (b2i_f hb)) mM_0 rfl rfl rfl ⟨by decide, by decide, Nat.le_of_ble_eq_true rfl⟩ (fun w1 hw1 => ?_)
  have hw1 : w1 = _ := hw1
  subst hw1
  refine kw_if_eq (tgt := 32) (pc := 18) dX6_price_18 (by decide) (fun h18 => ?_) (fun h18 => ?_)
  · refine kw_iconst (v := 0) (pc := 32) dX6_price_32 (by decide) ?_
    exact kw_ireturn nlX6_price (pc := 33) dX6_price_33 rfl rfl ⟨kv_eq rfl, ⟨_, _, _, _, rfl, agr.rf⟩, rfl⟩
  · exact absurd (by decide) h18
set_option maxRecDepth 100000 in
set_option maxHeartbeats 4000000 in
theorem c_priceB {w0 : kM} {mo : Nat} {s : Nat → Int32} {sv : Int32} {kp bf : Nat → Int32} {ty th : Int32} {co ma : Nat → Int32} {sp : Int32}  {b v : Int32} (hb : 0 ≤ b ∧ b ≤ 11) (hB : ¬ (0 ≤ v ∧ v ≤ 99)) : kCtrW mX6_price 3 [.ref mo, .int b, .int v] (mM w0 mo s sv kp bf ty th co ma sp) (some (.int 0)) (fun w' => mSt w0 mo s sv kp bf ty 2 w') := by
  refine kCtrW.of pl6 nlX6_price rfl (Nat.le_of_ble_eq_true rfl) (fun n => ?_)
  refine kw_aload_n (pc := 0) dX6_price_0 rfl ?_
  refine kw_iload_n (pc := 1) dX6_price_1 rfl ?_
  refine kw_iconst (v := 0) (pc := 2) dX6_price_2 (by decide) ?_
  refine kw_bipush (v := 11) (pc := 3) dX6_price_3 (by decide) ?_
  refine kw_callSr (pc := 5) dX6_price_5 lX6_41 (c_in _ _ _) rfl rfl ⟨by decide, by decide, Nat.le_of_ble_eq_true rfl⟩ ?_
  refine kw_iload_n (pc := 8) dX6_price_8 rfl ?_
  refine kw_iconst (v := 0) (pc := 9) dX6_price_9 (by decide) ?_
  refine kw_bipush (v := 99) (pc := 10) dX6_price_10 (by decide) ?_
  refine kw_callSr (pc := 12) dX6_price_12 lX6_41 (c_in _ _ _) rfl rfl ⟨by decide, by decide, Nat.le_of_ble_eq_true rfl⟩ ?_
  refine kw_callVw1 (pc := 15) dX6_price_15 lX6_111 (c_goesB (by rw [b2i_t hb]; decide) (b2i_f hB)) mM_0 rfl rfl rfl ⟨by decide, by decide, Nat.le_of_ble_eq_true rfl⟩ (fun w1 hw1 => ?_)
  have hw1 : w1 = _ := hw1
  subst hw1
  refine kw_if_eq (tgt := 32) (pc := 18) dX6_price_18 (by decide) (fun h18 => ?_) (fun h18 => ?_)
  · refine kw_iconst (v := 0) (pc := 32) dX6_price_32 (by decide) ?_
    exact kw_ireturn nlX6_price (pc := 33) dX6_price_33 rfl rfl ⟨kv_eq rfl, ⟨_, _, _, _, rfl, agr.rf⟩, rfl⟩
  · exact absurd (by decide) h18
set_option maxRecDepth 100000 in
set_option maxHeartbeats 4000000 in
theorem c_zone {w0 : kM} {mo : Nat} {s : Nat → Int32} {sv : Int32} {kp bf : Nat → Int32} {ty th : Int32} {co ma : Nat → Int32} {sp : Int32}  {q : Nat} (hq : sv = nI q) (hq6 : q ≤ 6) {b : Nat} (hb : b < 4) {v : Int32} (hB : 1 ≤ v ∧ v ≤ 9) : kCtrW mX6_zone 3 [.ref mo, .int (nI b), .int v] (mM w0 mo s sv kp bf ty th co ma sp) (some (.int (s (16 + b)))) (fun w' => mSt w0 mo (kuf (svS s q) (16 + b) v) (nI (svN q)) kp bf ty 0 w') := by
  refine kCtrW.of pl6 nlX6_zone rfl (Nat.le_of_ble_eq_true rfl) (fun n => ?_)
  refine kw_aload_n (pc := 0) dX6_zone_0 rfl ?_
  refine kw_iload_n (pc := 1) dX6_zone_1 rfl ?_
  refine kw_iconst (v := 0) (pc := 2) dX6_zone_2 (by decide) ?_
  refine kw_iconst (v := 3) (pc := 3) dX6_zone_3 (by decide) ?_
  refine kw_callSr (pc := 4) dX6_zone_4 lX6_41 (c_inT (in_nat (b := b) (by decide) hb)) rfl rfl ⟨by decide, by decide, Nat.le_of_ble_eq_true rfl⟩ ?_
  refine kw_iload_n (pc := 7) dX6_zone_7 rfl ?_
  refine kw_iconst (v := 1) (pc := 8) dX6_zone_8 (by decide) ?_
  refine kw_bipush (v := 9) (pc := 9) dX6_zone_9 (by decide) ?_
  refine kw_callSr (pc := 11) dX6_zone_11 lX6_41 (c_inT hB) rfl rfl ⟨by decide, by decide, Nat.le_of_ble_eq_true rfl⟩ ?_
  refine kw_callVw1 (pc := 14) dX6_zone_14 lX6_111 (c_goes1 (by decide) (by decide)) mM_0 rfl rfl rfl ⟨by decide, by decide, Nat.le_of_ble_eq_true rfl⟩ (fun w1 hw1 => ?_)
  have hw1 : w1 = _ := hw1
  subst hw1
  refine kw_if_eq (tgt := 32) (pc := 17) dX6_zone_17 (by decide) (fun h17 => ?_) (fun h17 => ?_)
  · exact absurd h17 (by decide)
  · refine kw_aload_n (pc := 20) dX6_zone_20 rfl ?_
    refine kw_bipush (v := 16) (pc := 21) dX6_zone_21 (by decide) ?_
    refine kw_iload_n (pc := 23) dX6_zone_23 rfl ?_
    refine kw_iadd (pc := 24) dX6_zone_24 ?_
    refine kw_iload_n (pc := 25) dX6_zone_25 rfl ?_
    refine kw_callVw1 (pc := 26) dX6_zone_26 lX6_122 (c_setsE (pl := (16 + b)) (kA (a := 16) (b := b) (rfl : (16 : Int32) = nI 16) rfl) hq hq6 (by omega) _) mM_0 rfl rfl rfl ⟨by decide, by decide, Nat.le_of_ble_eq_true rfl⟩ (fun w1 hw1 => ?_)
    have hw1 : w1 = _ := hw1
    subst hw1
    refine kw_goto (tgt := 33) (pc := 29) dX6_zone_29 (by decide) ?_
    exact kw_ireturn nlX6_zone (pc := 33) dX6_zone_33 rfl rfl ⟨kv_eq rfl, ⟨_, _, _, _, rfl, agr.rf⟩, rfl⟩
set_option maxRecDepth 100000 in
set_option maxHeartbeats 4000000 in
theorem c_zoneA {w0 : kM} {mo : Nat} {s : Nat → Int32} {sv : Int32} {kp bf : Nat → Int32} {ty th : Int32} {co ma : Nat → Int32} {sp : Int32}  {b v : Int32} (hb : ¬ (0 ≤ b ∧ b ≤ 3)) : kCtrW mX6_zone 3 [.ref mo, .int b, .int v] (mM w0 mo s sv kp bf ty th co ma sp) (some (.int 0)) (fun w' => mSt w0 mo s sv kp bf ty 1 w') := by
  refine kCtrW.of pl6 nlX6_zone rfl (Nat.le_of_ble_eq_true rfl) (fun n => ?_)
  refine kw_aload_n (pc := 0) dX6_zone_0 rfl ?_
  refine kw_iload_n (pc := 1) dX6_zone_1 rfl ?_
  refine kw_iconst (v := 0) (pc := 2) dX6_zone_2 (by decide) ?_
  refine kw_iconst (v := 3) (pc := 3) dX6_zone_3 (by decide) ?_
  refine kw_callSr (pc := 4) dX6_zone_4 lX6_41 (c_in _ _ _) rfl rfl ⟨by decide, by decide, Nat.le_of_ble_eq_true rfl⟩ ?_
  refine kw_iload_n (pc := 7) dX6_zone_7 rfl ?_
  refine kw_iconst (v := 1) (pc := 8) dX6_zone_8 (by decide) ?_
  refine kw_bipush (v := 9) (pc := 9) dX6_zone_9 (by decide) ?_
  refine kw_callSr (pc := 11) dX6_zone_11 lX6_41 (c_in _ _ _) rfl rfl ⟨by decide, by decide, Nat.le_of_ble_eq_true rfl⟩ ?_
  refine kw_callVw1 (pc := 14) dX6_zone_14 lX6_111 (c_goesA (b2i_f hb)) mM_0 rfl rfl rfl ⟨by decide, by decide, Nat.le_of_ble_eq_true rfl⟩ (fun w1 hw1 => ?_)
  have hw1 : w1 = _ := hw1
  subst hw1
  refine kw_if_eq (tgt := 32) (pc := 17) dX6_zone_17 (by decide) (fun h17 => ?_) (fun h17 => ?_)
  · refine kw_iconst (v := 0) (pc := 32) dX6_zone_32 (by decide) ?_
    exact kw_ireturn nlX6_zone (pc := 33) dX6_zone_33 rfl rfl ⟨kv_eq rfl, ⟨_, _, _, _, rfl, agr.rf⟩, rfl⟩
  · exact absurd (by decide) h17
set_option maxRecDepth 100000 in
set_option maxHeartbeats 4000000 in
theorem c_zoneB {w0 : kM} {mo : Nat} {s : Nat → Int32} {sv : Int32} {kp bf : Nat → Int32} {ty th : Int32} {co ma : Nat → Int32} {sp : Int32}  {b v : Int32} (hb : 0 ≤ b ∧ b ≤ 3) (hB : ¬ (1 ≤ v ∧ v ≤ 9)) : kCtrW mX6_zone 3 [.ref mo, .int b, .int v] (mM w0 mo s sv kp bf ty th co ma sp) (some (.int 0)) (fun w' => mSt w0 mo s sv kp bf ty 2 w') := by
  refine kCtrW.of pl6 nlX6_zone rfl (Nat.le_of_ble_eq_true rfl) (fun n => ?_)
  refine kw_aload_n (pc := 0) dX6_zone_0 rfl ?_
  refine kw_iload_n (pc := 1) dX6_zone_1 rfl ?_
  refine kw_iconst (v := 0) (pc := 2) dX6_zone_2 (by decide) ?_
  refine kw_iconst (v := 3) (pc := 3) dX6_zone_3 (by decide) ?_
  refine kw_callSr (pc := 4) dX6_zone_4 lX6_41 (c_in _ _ _) rfl rfl ⟨by decide, by decide, Nat.le_of_ble_eq_true rfl⟩ ?_
  refine kw_iload_n (pc := 7) dX6_zone_7 rfl ?_
  refine kw_iconst (v := 1) (pc := 8) dX6_zone_8 (by decide) ?_
  refine kw_bipush (v := 9) (pc := 9) dX6_zone_9 (by decide) ?_
  refine kw_callSr (pc := 11) dX6_zone_11 lX6_41 (c_in _ _ _) rfl rfl ⟨by decide, by decide, Nat.le_of_ble_eq_true rfl⟩ ?_
  refine kw_callVw1 (pc := 14) dX6_zone_14 lX6_111 (c_goesB (by rw [b2i_t hb]; decide) (b2i_f hB)) mM_0 rfl rfl rfl ⟨by decide, by decide, Nat.le_of_ble_eq_true rfl⟩ (fun w1 hw1 => ?_)
  have hw1 : w1 = _ := hw1
  subst hw1
  refine kw_if_eq (tgt := 32) (pc := 17) dX6_zone_17 (by decide) (fun h17 => ?_) (fun h17 => ?_)
  · refine kw_iconst (v := 0) (pc := 32) dX6_zone_32 (by decide) ?_
    exact kw_ireturn nlX6_zone (pc := 33) dX6_zone_33 rfl rfl ⟨kv_eq rfl, ⟨_, _, _, _, rfl, agr.rf⟩, rfl⟩
  · exact absurd (by decide) h17
set_option maxRecDepth 100000 in
set_option maxHeartbeats 4000000 in
theorem c_set {w0 : kM} {mo : Nat} {s : Nat → Int32} {sv : Int32} {kp bf : Nat → Int32} {ty th : Int32} {co ma : Nat → Int32} {sp : Int32}  {q : Nat} (hq : sv = nI q) (hq6 : q ≤ 6) {b : Nat} (hb : b < 4) {v : Int32} (hB : (if nI b = 1 then 50 else 0) ≤ v ∧ v ≤ (if nI b = 1 then 300 else if nI b = 3 then 50 else 20)) : kCtrW mX6_set 3 [.ref mo, .int (nI b), .int v] (mM w0 mo s sv kp bf ty th co ma sp) (some (.int (s b))) (fun w' => mSt w0 mo (kuf (svS s q) b v) (nI (svN q)) kp bf ty 0 w') := by
  refine kCtrW.of pl6 nlX6_set rfl (Nat.le_of_ble_eq_true rfl) (fun n => ?_)
  refine kw_aload_n (pc := 0) dX6_set_0 rfl ?_
  refine kw_iload_n (pc := 1) dX6_set_1 rfl ?_
  refine kw_iconst (v := 0) (pc := 2) dX6_set_2 (by decide) ?_
  refine kw_iconst (v := 3) (pc := 3) dX6_set_3 (by decide) ?_
  refine kw_callSr (pc := 4) dX6_set_4 lX6_41 (c_inT (in_nat (b := b) (by decide) hb)) rfl rfl ⟨by decide, by decide, Nat.le_of_ble_eq_true rfl⟩ ?_
  refine kw_iload_n (pc := 7) dX6_set_7 rfl ?_
  refine kw_iload_n (pc := 8) dX6_set_8 rfl ?_
  refine kw_callSr (pc := 9) dX6_set_9 lX6_132 (c_isValueT hB) rfl rfl ⟨by decide, by decide, Nat.le_of_ble_eq_true rfl⟩ ?_
  refine kw_callVw1 (pc := 12) dX6_set_12 lX6_111 (c_goes1 (by decide) (by decide)) mM_0 rfl rfl rfl ⟨by decide, by decide, Nat.le_of_ble_eq_true rfl⟩ (fun w1 hw1 => ?_)
  have hw1 : w1 = _ := hw1
  subst hw1
  refine kw_if_eq (tgt := 27) (pc := 15) dX6_set_15 (by decide) (fun h15 => ?_) (fun h15 => ?_)
  · exact absurd h15 (by decide)
  · refine kw_aload_n (pc := 18) dX6_set_18 rfl ?_
    refine kw_iload_n (pc := 19) dX6_set_19 rfl ?_
    refine kw_iload_n (pc := 20) dX6_set_20 rfl ?_
    refine kw_callVw1 (pc := 21) dX6_set_21 lX6_122 (c_setsE (pl := b) rfl hq hq6 (by omega) _) mM_0 rfl rfl rfl ⟨by decide, by decide, Nat.le_of_ble_eq_true rfl⟩ (fun w1 hw1 => ?_)
    have hw1 : w1 = _ := hw1
    subst hw1
    refine kw_goto (tgt := 28) (pc := 24) dX6_set_24 (by decide) ?_
    exact kw_ireturn nlX6_set (pc := 28) dX6_set_28 rfl rfl ⟨kv_eq rfl, ⟨_, _, _, _, rfl, agr.rf⟩, rfl⟩
set_option maxRecDepth 100000 in
set_option maxHeartbeats 4000000 in
theorem c_setA {w0 : kM} {mo : Nat} {s : Nat → Int32} {sv : Int32} {kp bf : Nat → Int32} {ty th : Int32} {co ma : Nat → Int32} {sp : Int32}  {b v : Int32} (hb : ¬ (0 ≤ b ∧ b ≤ 3)) : kCtrW mX6_set 3 [.ref mo, .int b, .int v] (mM w0 mo s sv kp bf ty th co ma sp) (some (.int 0)) (fun w' => mSt w0 mo s sv kp bf ty 1 w') := by
  refine kCtrW.of pl6 nlX6_set rfl (Nat.le_of_ble_eq_true rfl) (fun n => ?_)
  refine kw_aload_n (pc := 0) dX6_set_0 rfl ?_
  refine kw_iload_n (pc := 1) dX6_set_1 rfl ?_
  refine kw_iconst (v := 0) (pc := 2) dX6_set_2 (by decide) ?_
  refine kw_iconst (v := 3) (pc := 3) dX6_set_3 (by decide) ?_
  refine kw_callSr (pc := 4) dX6_set_4 lX6_41 (c_in _ _ _) rfl rfl ⟨by decide, by decide, Nat.le_of_ble_eq_true rfl⟩ ?_
  refine kw_iload_n (pc := 7) dX6_set_7 rfl ?_
  refine kw_iload_n (pc := 8) dX6_set_8 rfl ?_
  refine kw_callSr (pc := 9) dX6_set_9 lX6_132 (c_isValue _ _) rfl rfl ⟨by decide, by decide, Nat.le_of_ble_eq_true rfl⟩ ?_
  refine kw_callVw1 (pc := 12) dX6_set_12 lX6_111 (c_goesA (b2i_f hb)) mM_0 rfl rfl rfl ⟨by decide, by decide, Nat.le_of_ble_eq_true rfl⟩ (fun w1 hw1 => ?_)
  have hw1 : w1 = _ := hw1
  subst hw1
  refine kw_if_eq (tgt := 27) (pc := 15) dX6_set_15 (by decide) (fun h15 => ?_) (fun h15 => ?_)
  · refine kw_iconst (v := 0) (pc := 27) dX6_set_27 (by decide) ?_
    exact kw_ireturn nlX6_set (pc := 28) dX6_set_28 rfl rfl ⟨kv_eq rfl, ⟨_, _, _, _, rfl, agr.rf⟩, rfl⟩
  · exact absurd (by decide) h15
set_option maxRecDepth 100000 in
set_option maxHeartbeats 4000000 in
theorem c_setB {w0 : kM} {mo : Nat} {s : Nat → Int32} {sv : Int32} {kp bf : Nat → Int32} {ty th : Int32} {co ma : Nat → Int32} {sp : Int32}  {st v : Int32} (hb : 0 ≤ st ∧ st ≤ 3) (hB : ¬ ((if st = 1 then 50 else 0) ≤ v ∧ v ≤ (if st = 1 then 300 else if st = 3 then 50 else 20))) : kCtrW mX6_set 3 [.ref mo, .int st, .int v] (mM w0 mo s sv kp bf ty th co ma sp) (some (.int 0)) (fun w' => mSt w0 mo s sv kp bf ty 2 w') := by
  refine kCtrW.of pl6 nlX6_set rfl (Nat.le_of_ble_eq_true rfl) (fun n => ?_)
  refine kw_aload_n (pc := 0) dX6_set_0 rfl ?_
  refine kw_iload_n (pc := 1) dX6_set_1 rfl ?_
  refine kw_iconst (v := 0) (pc := 2) dX6_set_2 (by decide) ?_
  refine kw_iconst (v := 3) (pc := 3) dX6_set_3 (by decide) ?_
  refine kw_callSr (pc := 4) dX6_set_4 lX6_41 (c_in _ _ _) rfl rfl ⟨by decide, by decide, Nat.le_of_ble_eq_true rfl⟩ ?_
  refine kw_iload_n (pc := 7) dX6_set_7 rfl ?_
  refine kw_iload_n (pc := 8) dX6_set_8 rfl ?_
  refine kw_callSr (pc := 9) dX6_set_9 lX6_132 (c_isValue _ _) rfl rfl ⟨by decide, by decide, Nat.le_of_ble_eq_true rfl⟩ ?_
  refine kw_callVw1 (pc := 12) dX6_set_12 lX6_111 (c_goesB (by rw [b2i_t hb]; decide) (b2i_f hB)) mM_0 rfl rfl rfl ⟨by decide, by decide, Nat.le_of_ble_eq_true rfl⟩ (fun w1 hw1 => ?_)
  have hw1 : w1 = _ := hw1
  subst hw1
  refine kw_if_eq (tgt := 27) (pc := 15) dX6_set_15 (by decide) (fun h15 => ?_) (fun h15 => ?_)
  · refine kw_iconst (v := 0) (pc := 27) dX6_set_27 (by decide) ?_
    exact kw_ireturn nlX6_set (pc := 28) dX6_set_28 rfl rfl ⟨kv_eq rfl, ⟨_, _, _, _, rfl, agr.rf⟩, rfl⟩
  · exact absurd (by decide) h15
