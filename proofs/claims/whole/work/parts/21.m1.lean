set_option maxRecDepth 100000 in
set_option maxHeartbeats 4000000 in
theorem c_in {w : kM}  (v lo hi : Int32) : kCtrR mX6_in 0 [.int v, .int lo, .int hi] w (.int (b2i (lo ≤ v ∧ v ≤ hi))) := by
  refine kCtrR.of pl6 nlX6_in rfl (Nat.le_of_ble_eq_true rfl) (fun n => ?_)
  refine kw_iload_n (pc := 0) dX6_in_0 rfl ?_
  refine kw_iload_n (pc := 1) dX6_in_1 rfl ?_
  refine kw_icmp_lt (tgt := 14) (pc := 2) dX6_in_2 (by decide) (fun h2 => ?_) (fun h2 => ?_)
  · refine kw_iconst (v := 0) (pc := 14) dX6_in_14 (by decide) ?_
    exact kw_ireturn nlX6_in (pc := 15) dX6_in_15 rfl (by first | rfl | exact b2i_z _ | exact hbool) ⟨kv_eq (by grind [b2i]), rfl, rfl⟩
  · refine kw_iload_n (pc := 5) dX6_in_5 rfl ?_
    refine kw_iload_n (pc := 6) dX6_in_6 rfl ?_
    refine kw_icmp_gt (tgt := 14) (pc := 7) dX6_in_7 (by decide) (fun h7 => ?_) (fun h7 => ?_)
    · refine kw_iconst (v := 0) (pc := 14) dX6_in_14 (by decide) ?_
      exact kw_ireturn nlX6_in (pc := 15) dX6_in_15 rfl (by first | rfl | exact b2i_z _ | exact hbool) ⟨kv_eq (by grind [b2i]), rfl, rfl⟩
    · refine kw_iconst (v := 1) (pc := 10) dX6_in_10 (by decide) ?_
      refine kw_goto (tgt := 15) (pc := 11) dX6_in_11 (by decide) ?_
      exact kw_ireturn nlX6_in (pc := 15) dX6_in_15 rfl (by first | rfl | exact b2i_z _ | exact hbool) ⟨kv_eq (by grind [b2i]), rfl, rfl⟩
set_option maxRecDepth 100000 in
set_option maxHeartbeats 4000000 in
theorem c_greater {w : kM}  (x y : Int32) : kCtrR mX6_greater 0 [.int x, .int y] w (.int (gI x y)) := by
  refine kCtrR.of pl6 nlX6_greater rfl (Nat.le_of_ble_eq_true rfl) (fun n => ?_)
  refine kw_iload_n (pc := 0) dX6_greater_0 rfl ?_
  refine kw_iload_n (pc := 1) dX6_greater_1 rfl ?_
  refine kw_icmp_le (tgt := 9) (pc := 2) dX6_greater_2 (by decide) (fun h2 => ?_) (fun h2 => ?_)
  · refine kw_iload_n (pc := 9) dX6_greater_9 rfl ?_
    exact kw_ireturn nlX6_greater (pc := 10) dX6_greater_10 rfl rfl ⟨kv_eq (by grind [gI]), rfl, rfl⟩
  · refine kw_iload_n (pc := 5) dX6_greater_5 rfl ?_
    refine kw_goto (tgt := 10) (pc := 6) dX6_greater_6 (by decide) ?_
    exact kw_ireturn nlX6_greater (pc := 10) dX6_greater_10 rfl rfl ⟨kv_eq (by grind [gI]), rfl, rfl⟩
set_option maxRecDepth 100000 in
set_option maxHeartbeats 4000000 in
theorem c_at {w : kM}  (p : Nat) : kCtrR mX6_at 0 [.int (nI p)] w (.int (nI (21 + 7 * p))) := by
  refine kCtrR.of pl6 nlX6_at rfl (Nat.le_of_ble_eq_true rfl) (fun n => ?_)
  refine kw_bipush (v := 21) (pc := 0) dX6_at_0 (by decide) ?_
  refine kw_bipush (v := 7) (pc := 2) dX6_at_2 (by decide) ?_
  refine kw_iload_n (pc := 4) dX6_at_4 rfl ?_
  refine kw_imul (pc := 5) dX6_at_5 ?_
  refine kw_iadd (pc := 6) dX6_at_6 ?_
  exact kw_ireturn nlX6_at (pc := 7) dX6_at_7 rfl rfl ⟨kv_eq (kA (rfl : (21 : Int32) = nI 21) (kMu (rfl : (7 : Int32) = nI 7) rfl)), rfl, rfl⟩
set_option maxRecDepth 100000 in
set_option maxHeartbeats 4000000 in
theorem c_bandOf {w : kM}  (z : Int32) : kCtrR mX6_bandOf 0 [.int z] w (.int (bnd z)) := by
  refine kCtrR.of pl6 nlX6_bandOf rfl (Nat.le_of_ble_eq_true rfl) (fun n => ?_)
  refine kw_iload_n (pc := 0) dX6_bandOf_0 rfl ?_
  refine kw_sipush (v := 600) (pc := 1) dX6_bandOf_1 (by decide) ?_
  refine kw_icmp_le (tgt := 12) (pc := 4) dX6_bandOf_4 (by decide) (fun h4 => ?_) (fun h4 => ?_)
  · refine kw_iload_n (pc := 12) dX6_bandOf_12 rfl ?_
    refine kw_iconst (v := 1) (pc := 13) dX6_bandOf_13 (by decide) ?_
    refine kw_isub (pc := 14) dX6_bandOf_14 ?_
    refine kw_bipush (v := 50) (pc := 15) dX6_bandOf_15 (by decide) ?_
    refine kw_idiv (pc := 17) dX6_bandOf_17 (by decide) ?_
    exact kw_ireturn nlX6_bandOf (pc := 18) dX6_bandOf_18 rfl rfl ⟨kv_eq (by grind [bnd]), rfl, rfl⟩
  · refine kw_bipush (v := 11) (pc := 7) dX6_bandOf_7 (by decide) ?_
    refine kw_goto (tgt := 18) (pc := 9) dX6_bandOf_9 (by decide) ?_
    exact kw_ireturn nlX6_bandOf (pc := 18) dX6_bandOf_18 rfl rfl ⟨kv_eq (by grind [bnd]), rfl, rfl⟩
set_option maxRecDepth 100000 in
set_option maxHeartbeats 4000000 in
theorem c_isSide {w : kM}  (v : Int32) : kCtrR mX6_isSide 1 [.int v] w (.int (b2i (1 ≤ v ∧ v ≤ 60))) := by
  refine kCtrR.of pl6 nlX6_isSide rfl (Nat.le_of_ble_eq_true rfl) (fun n => ?_)
  refine kw_iload_n (pc := 0) dX6_isSide_0 rfl ?_
  refine kw_iconst (v := 1) (pc := 1) dX6_isSide_1 (by decide) ?_
  refine kw_bipush (v := 60) (pc := 2) dX6_isSide_2 (by decide) ?_
  refine kw_callSr (pc := 4) dX6_isSide_4 lX6_41 (c_in _ _ _) rfl rfl ⟨by decide, by decide, Nat.le_of_ble_eq_true rfl⟩ ?_
  exact kw_ireturn nlX6_isSide (pc := 7) dX6_isSide_7 rfl (by first | rfl | exact b2i_z _ | exact hbool) (by exact ⟨rfl, rfl, rfl⟩)
set_option maxRecDepth 100000 in
set_option maxHeartbeats 4000000 in
theorem c_isSlot {w : kM}  (v : Int32) : kCtrR mX6_isSlot 0 [.int v] w (.int (b2i (v = 0 ∨ v = 1))) := by
  refine kCtrR.of pl6 nlX6_isSlot rfl (Nat.le_of_ble_eq_true rfl) (fun n => ?_)
  refine kw_iload_n (pc := 0) dX6_isSlot_0 rfl ?_
  refine kw_if_eq (tgt := 9) (pc := 1) dX6_isSlot_1 (by decide) (fun h1 => ?_) (fun h1 => ?_)
  · refine kw_iconst (v := 1) (pc := 9) dX6_isSlot_9 (by decide) ?_
    refine kw_goto (tgt := 14) (pc := 10) dX6_isSlot_10 (by decide) ?_
    exact kw_ireturn nlX6_isSlot (pc := 14) dX6_isSlot_14 rfl (by first | rfl | exact b2i_z _ | exact hbool) ⟨kv_eq (by grind [b2i]), rfl, rfl⟩
  · refine kw_iload_n (pc := 4) dX6_isSlot_4 rfl ?_
    refine kw_iconst (v := 1) (pc := 5) dX6_isSlot_5 (by decide) ?_
    refine kw_icmp_ne (tgt := 13) (pc := 6) dX6_isSlot_6 (by decide) (fun h6 => ?_) (fun h6 => ?_)
    · refine kw_iconst (v := 0) (pc := 13) dX6_isSlot_13 (by decide) ?_
      exact kw_ireturn nlX6_isSlot (pc := 14) dX6_isSlot_14 rfl (by first | rfl | exact b2i_z _ | exact hbool) ⟨kv_eq (by grind [b2i]), rfl, rfl⟩
    · refine kw_iconst (v := 1) (pc := 9) dX6_isSlot_9 (by decide) ?_
      refine kw_goto (tgt := 14) (pc := 10) dX6_isSlot_10 (by decide) ?_
      exact kw_ireturn nlX6_isSlot (pc := 14) dX6_isSlot_14 rfl (by first | rfl | exact b2i_z _ | exact hbool) ⟨kv_eq (by grind [b2i]), rfl, rfl⟩
set_option maxRecDepth 100000 in
set_option maxHeartbeats 4000000 in
theorem c_thrown {w0 : kM} {mo : Nat} {s : Nat → Int32} {sv : Int32} {kp bf : Nat → Int32} {ty th : Int32} {co ma : Nat → Int32} {sp : Int32}   : kCtrR mX6_thrown 0 [.ref mo] (mM w0 mo s sv kp bf ty th co ma sp) (.int th) := by
  refine kCtrR.of pl6 nlX6_thrown rfl (Nat.le_of_ble_eq_true rfl) (fun n => ?_)
  refine kw_aload_n (pc := 0) dX6_thrown_0 rfl ?_
  refine kw_getfield (pc := 1) kfw dX6_thrown_1 fX6_27 mM_0 rfl ?_
  exact kw_ireturn nlX6_thrown (pc := 4) dX6_thrown_4 rfl rfl (by exact ⟨rfl, rfl, rfl⟩)
set_option maxRecDepth 100000 in
set_option maxHeartbeats 4000000 in
theorem c_girth {w0 : kM} {mo : Nat} {s : Nat → Int32} {sv : Int32} {kp bf : Nat → Int32} {ty th : Int32} {co ma : Nat → Int32} {sp : Int32}  {p : Nat} (hp : p + 6 < 682) : kCtrR mX6_girth 0 [.ref mo, .int (nI p)] (mM w0 mo s sv kp bf ty th co ma sp) (.int (pG (pa s p))) := by
  refine kCtrR.of pl6 nlX6_girth rfl (Nat.le_of_ble_eq_true rfl) (fun n => ?_)
  refine kw_aload_n (pc := 0) dX6_girth_0 rfl ?_
  refine kw_getfield (pc := 1) kfw dX6_girth_1 fX6_7 mM_0 rfl ?_
  refine kw_iload_n (pc := 4) dX6_girth_4 rfl ?_
  refine kw_ialoadN (pc := 5) (i := p) dX6_girth_5 mM_1 rfl (by omega) (by decide) ?_
  refine kw_iconst (v := 2) (pc := 6) dX6_girth_6 (by decide) ?_
  refine kw_aload_n (pc := 7) dX6_girth_7 rfl ?_
  refine kw_getfield (pc := 8) kfw dX6_girth_8 fX6_7 mM_0 rfl ?_
  refine kw_iload_n (pc := 11) dX6_girth_11 rfl ?_
  refine kw_iconst (v := 1) (pc := 12) dX6_girth_12 (by decide) ?_
  refine kw_iadd (pc := 13) dX6_girth_13 ?_
  refine kw_ialoadN (pc := 14) (i := (p + 1)) dX6_girth_14 mM_1 (kA rfl (rfl : (1 : Int32) = nI 1)) (by omega) (by decide) ?_
  refine kw_aload_n (pc := 15) dX6_girth_15 rfl ?_
  refine kw_getfield (pc := 16) kfw dX6_girth_16 fX6_7 mM_0 rfl ?_
  refine kw_iload_n (pc := 19) dX6_girth_19 rfl ?_
  refine kw_iconst (v := 2) (pc := 20) dX6_girth_20 (by decide) ?_
  refine kw_iadd (pc := 21) dX6_girth_21 ?_
  refine kw_ialoadN (pc := 22) (i := (p + 2)) dX6_girth_22 mM_1 (kA rfl (rfl : (2 : Int32) = nI 2)) (by omega) (by decide) ?_
  refine kw_iadd (pc := 23) dX6_girth_23 ?_
  refine kw_imul (pc := 24) dX6_girth_24 ?_
  refine kw_iadd (pc := 25) dX6_girth_25 ?_
  exact kw_ireturn nlX6_girth (pc := 26) dX6_girth_26 rfl rfl (by exact ⟨rfl, rfl, rfl⟩)
set_option maxRecDepth 100000 in
set_option maxHeartbeats 4000000 in
theorem c_string {w0 : kM} {mo : Nat} {s : Nat → Int32} {sv : Int32} {kp bf : Nat → Int32} {ty th : Int32} {co ma : Nat → Int32} {sp : Int32}  {p : Nat} (hp : p + 6 < 682) : kCtrR mX6_string 0 [.ref mo, .int (nI p)] (mM w0 mo s sv kp bf ty th co ma sp) (.int (pS s (pa s p))) := by
  refine kCtrR.of pl6 nlX6_string rfl (Nat.le_of_ble_eq_true rfl) (fun n => ?_)
  refine kw_aload_n (pc := 0) dX6_string_0 rfl ?_
  refine kw_getfield (pc := 1) kfw dX6_string_1 fX6_7 mM_0 rfl ?_
  refine kw_iload_n (pc := 4) dX6_string_4 rfl ?_
  refine kw_ialoadN (pc := 5) (i := p) dX6_string_5 mM_1 rfl (by omega) (by decide) ?_
  refine kw_istore_n (pc := 6) dX6_string_6 (by decide) rfl ?_
  refine kw_aload_n (pc := 7) dX6_string_7 rfl ?_
  refine kw_getfield (pc := 8) kfw dX6_string_8 fX6_7 mM_0 rfl ?_
  refine kw_iload_n (pc := 11) dX6_string_11 rfl ?_
  refine kw_iconst (v := 1) (pc := 12) dX6_string_12 (by decide) ?_
  refine kw_iadd (pc := 13) dX6_string_13 ?_
  refine kw_ialoadN (pc := 14) (i := (p + 1)) dX6_string_14 mM_1 (kA rfl (rfl : (1 : Int32) = nI 1)) (by omega) (by decide) ?_
  refine kw_istore_n (pc := 15) dX6_string_15 (by decide) rfl ?_
  refine kw_aload_n (pc := 16) dX6_string_16 rfl ?_
  refine kw_getfield (pc := 17) kfw dX6_string_17 fX6_7 mM_0 rfl ?_
  refine kw_iload_n (pc := 20) dX6_string_20 rfl ?_
  refine kw_iconst (v := 2) (pc := 21) dX6_string_21 (by decide) ?_
  refine kw_iadd (pc := 22) dX6_string_22 ?_
  refine kw_ialoadN (pc := 23) (i := (p + 2)) dX6_string_23 mM_1 (kA rfl (rfl : (2 : Int32) = nI 2)) (by omega) (by decide) ?_
  refine kw_istore (pc := 24) dX6_string_24 (by decide) rfl ?_
  refine kw_aload_n (pc := 26) dX6_string_26 rfl ?_
  refine kw_getfield (pc := 27) kfw dX6_string_27 fX6_7 mM_0 rfl ?_
  refine kw_iload_n (pc := 30) dX6_string_30 rfl ?_
  refine kw_bipush (v := 6) (pc := 31) dX6_string_31 (by decide) ?_
  refine kw_iadd (pc := 33) dX6_string_33 ?_
  refine kw_ialoadN (pc := 34) (i := (p + 6)) dX6_string_34 mM_1 (kA rfl (rfl : (6 : Int32) = nI 6)) (by omega) (by decide) ?_
  refine kw_iconst (v := 1) (pc := 35) dX6_string_35 (by decide) ?_
  refine kw_iadd (pc := 36) dX6_string_36 ?_
  refine kw_istore (pc := 37) dX6_string_37 (by decide) rfl ?_
  refine kw_iload (pc := 39) dX6_string_39 rfl ?_
  refine kw_aload_n (pc := 41) dX6_string_41 rfl ?_
  refine kw_getfield (pc := 42) kfw dX6_string_42 fX6_7 mM_0 rfl ?_
  refine kw_iconst (v := 0) (pc := 45) dX6_string_45 (by decide) ?_
  refine kw_ialoadN (pc := 46) (i := 0) dX6_string_46 mM_1 (rfl : (0 : Int32) = nI 0) (by omega) (by decide) ?_
  refine kw_imul (pc := 47) dX6_string_47 ?_
  refine kw_iload (pc := 48) dX6_string_48 rfl ?_
  refine kw_iconst (v := 1) (pc := 50) dX6_string_50 (by decide) ?_
  refine kw_icmp_ne (tgt := 63) (pc := 51) dX6_string_51 (by decide) (fun h51 => ?_) (fun h51 => ?_)
  · refine kw_iload (pc := 63) dX6_string_63 rfl ?_
    refine kw_iconst (v := 2) (pc := 65) dX6_string_65 (by decide) ?_
    refine kw_icmp_ne (tgt := 84) (pc := 66) dX6_string_66 (by decide) (fun h66 => ?_) (fun h66 => ?_)
    · refine kw_iconst (v := 4) (pc := 84) dX6_string_84 (by decide) ?_
      refine kw_iload_n (pc := 85) dX6_string_85 rfl ?_
      refine kw_imul (pc := 86) dX6_string_86 ?_
      refine kw_iconst (v := 2) (pc := 87) dX6_string_87 (by decide) ?_
      refine kw_iload_n (pc := 88) dX6_string_88 rfl ?_
      refine kw_imul (pc := 89) dX6_string_89 ?_
      refine kw_iadd (pc := 90) dX6_string_90 ?_
      refine kw_bipush (v := 6) (pc := 91) dX6_string_91 (by decide) ?_
      refine kw_iload (pc := 93) dX6_string_93 rfl ?_
      refine kw_imul (pc := 95) dX6_string_95 ?_
      refine kw_iadd (pc := 96) dX6_string_96 ?_
      refine kw_iadd (pc := 97) dX6_string_97 ?_
      exact kw_ireturn nlX6_string (pc := 98) dX6_string_98 rfl rfl ⟨kv_eq (by grind [pS]), rfl, rfl⟩
    · refine kw_iconst (v := 2) (pc := 69) dX6_string_69 (by decide) ?_
      refine kw_iload_n (pc := 70) dX6_string_70 rfl ?_
      refine kw_imul (pc := 71) dX6_string_71 ?_
      refine kw_iconst (v := 2) (pc := 72) dX6_string_72 (by decide) ?_
      refine kw_iload_n (pc := 73) dX6_string_73 rfl ?_
      refine kw_imul (pc := 74) dX6_string_74 ?_
      refine kw_iadd (pc := 75) dX6_string_75 ?_
      refine kw_iconst (v := 4) (pc := 76) dX6_string_76 (by decide) ?_
      refine kw_iload (pc := 77) dX6_string_77 rfl ?_
      refine kw_imul (pc := 79) dX6_string_79 ?_
      refine kw_iadd (pc := 80) dX6_string_80 ?_
      refine kw_goto (tgt := 97) (pc := 81) dX6_string_81 (by decide) ?_
      refine kw_iadd (pc := 97) dX6_string_97 ?_
      exact kw_ireturn nlX6_string (pc := 98) dX6_string_98 rfl rfl ⟨kv_eq (by grind [pS]), rfl, rfl⟩
  · refine kw_iconst (v := 2) (pc := 54) dX6_string_54 (by decide) ?_
    refine kw_iload_n (pc := 55) dX6_string_55 rfl ?_
    refine kw_iload (pc := 56) dX6_string_56 rfl ?_
    refine kw_iadd (pc := 58) dX6_string_58 ?_
    refine kw_imul (pc := 59) dX6_string_59 ?_
    refine kw_goto (tgt := 97) (pc := 60) dX6_string_60 (by decide) ?_
    refine kw_iadd (pc := 97) dX6_string_97 ?_
    exact kw_ireturn nlX6_string (pc := 98) dX6_string_98 rfl rfl ⟨kv_eq (by grind [pS]), rfl, rfl⟩
set_option maxRecDepth 100000 in
set_option maxHeartbeats 4000000 in
theorem c_isOdd {w0 : kM} {mo : Nat} {s : Nat → Int32} {sv : Int32} {kp bf : Nat → Int32} {ty th : Int32} {co ma : Nat → Int32} {sp : Int32}  {p : Nat} (hp : p + 6 < 682) : kCtrR mX6_isOdd 1 [.ref mo, .int (nI p)] (mM w0 mo s sv kp bf ty th co ma sp) (.int (b2i (s 1 < pG (pa s p)))) := by
  refine kCtrR.of pl6 nlX6_isOdd rfl (Nat.le_of_ble_eq_true rfl) (fun n => ?_)
  refine kw_aload_n (pc := 0) dX6_isOdd_0 rfl ?_
  refine kw_iload_n (pc := 1) dX6_isOdd_1 rfl ?_
  refine kw_callVr (pc := 2) dX6_isOdd_2 lX6_53 (c_girth hp) mM_0 rfl rfl rfl ⟨by decide, by decide, Nat.le_of_ble_eq_true rfl⟩ ?_
  refine kw_aload_n (pc := 5) dX6_isOdd_5 rfl ?_
  refine kw_getfield (pc := 6) kfw dX6_isOdd_6 fX6_7 mM_0 rfl ?_
  refine kw_iconst (v := 1) (pc := 9) dX6_isOdd_9 (by decide) ?_
  refine kw_ialoadN (pc := 10) (i := 1) dX6_isOdd_10 mM_1 (rfl : (1 : Int32) = nI 1) (by omega) (by decide) ?_
  refine kw_icmp_le (tgt := 18) (pc := 11) dX6_isOdd_11 (by decide) (fun h11 => ?_) (fun h11 => ?_)
  · refine kw_iconst (v := 0) (pc := 18) dX6_isOdd_18 (by decide) ?_
    exact kw_ireturn nlX6_isOdd (pc := 19) dX6_isOdd_19 rfl (by first | rfl | exact b2i_z _ | exact hbool) ⟨kv_eq (by grind [b2i]), rfl, rfl⟩
  · refine kw_iconst (v := 1) (pc := 14) dX6_isOdd_14 (by decide) ?_
    refine kw_goto (tgt := 19) (pc := 15) dX6_isOdd_15 (by decide) ?_
    exact kw_ireturn nlX6_isOdd (pc := 19) dX6_isOdd_19 rfl (by first | rfl | exact b2i_z _ | exact hbool) ⟨kv_eq (by grind [b2i]), rfl, rfl⟩
set_option maxRecDepth 100000 in
set_option maxHeartbeats 4000000 in
theorem c_reason {w0 : kM} {mo : Nat} {s : Nat → Int32} {sv : Int32} {kp bf : Nat → Int32} {ty th : Int32} {co ma : Nat → Int32} {sp : Int32}  {p : Nat} (hp : p + 6 < 682) : kCtrR mX6_reason 1 [.ref mo, .int (nI p)] (mM w0 mo s sv kp bf ty th co ma sp) (.int (pR s (pa s p))) := by
  refine kCtrR.of pl6 nlX6_reason rfl (Nat.le_of_ble_eq_true rfl) (fun n => ?_)
  refine kw_aload_n (pc := 0) dX6_reason_0 rfl ?_
  refine kw_getfield (pc := 1) kfw dX6_reason_1 fX6_7 mM_0 rfl ?_
  refine kw_iload_n (pc := 4) dX6_reason_4 rfl ?_
  refine kw_iconst (v := 3) (pc := 5) dX6_reason_5 (by decide) ?_
  refine kw_iadd (pc := 6) dX6_reason_6 ?_
  refine kw_ialoadN (pc := 7) (i := (p + 3)) dX6_reason_7 mM_1 (kA rfl (rfl : (3 : Int32) = nI 3)) (by omega) (by decide) ?_
  refine kw_istore_n (pc := 8) dX6_reason_8 (by decide) rfl ?_
  refine kw_aload_n (pc := 9) dX6_reason_9 rfl ?_
  refine kw_getfield (pc := 10) kfw dX6_reason_10 fX6_7 mM_0 rfl ?_
  refine kw_iload_n (pc := 13) dX6_reason_13 rfl ?_
  refine kw_bipush (v := 6) (pc := 14) dX6_reason_14 (by decide) ?_
  refine kw_iadd (pc := 16) dX6_reason_16 ?_
  refine kw_ialoadN (pc := 17) (i := (p + 6)) dX6_reason_17 mM_1 (kA rfl (rfl : (6 : Int32) = nI 6)) (by omega) (by decide) ?_
  refine kw_istore_n (pc := 18) dX6_reason_18 (by decide) rfl ?_
  refine kw_iload_n (pc := 19) dX6_reason_19 rfl ?_
  refine kw_bipush (v := 30) (pc := 20) dX6_reason_20 (by decide) ?_
  refine kw_icmp_le (tgt := 29) (pc := 22) dX6_reason_22 (by decide) (fun h22 => ?_) (fun h22 => ?_)
  · refine kw_iload_n (pc := 29) dX6_reason_29 rfl ?_
    refine kw_bipush (v := 60) (pc := 30) dX6_reason_30 (by decide) ?_
    refine kw_icmp_le (tgt := 42) (pc := 32) dX6_reason_32 (by decide) (fun h32 => ?_) (fun h32 => ?_)
    · refine kw_aload_n (pc := 42) dX6_reason_42 rfl ?_
      refine kw_iload_n (pc := 43) dX6_reason_43 rfl ?_
      refine kw_callVr (pc := 44) dX6_reason_44 lX6_53 (c_girth hp) mM_0 rfl rfl rfl ⟨by decide, by decide, Nat.le_of_ble_eq_true rfl⟩ ?_
      refine kw_iconst (v := 2) (pc := 47) dX6_reason_47 (by decide) ?_
      refine kw_aload_n (pc := 48) dX6_reason_48 rfl ?_
      refine kw_getfield (pc := 49) kfw dX6_reason_49 fX6_7 mM_0 rfl ?_
      refine kw_iconst (v := 1) (pc := 52) dX6_reason_52 (by decide) ?_
      refine kw_ialoadN (pc := 53) (i := 1) dX6_reason_53 mM_1 (rfl : (1 : Int32) = nI 1) (by omega) (by decide) ?_
      refine kw_imul (pc := 54) dX6_reason_54 ?_
      refine kw_icmp_le (tgt := 62) (pc := 55) dX6_reason_55 (by decide) (fun h55 => ?_) (fun h55 => ?_)
      · refine kw_aload_n (pc := 62) dX6_reason_62 rfl ?_
        refine kw_getfield (pc := 63) kfw dX6_reason_63 fX6_7 mM_0 rfl ?_
        refine kw_iload_n (pc := 66) dX6_reason_66 rfl ?_
        refine kw_iconst (v := 5) (pc := 67) dX6_reason_67 (by decide) ?_
        refine kw_iadd (pc := 68) dX6_reason_68 ?_
        refine kw_ialoadN (pc := 69) (i := (p + 5)) dX6_reason_69 mM_1 (kA rfl (rfl : (5 : Int32) = nI 5)) (by omega) (by decide) ?_
        refine kw_if_le (tgt := 81) (pc := 70) dX6_reason_70 (by decide) (fun h70 => ?_) (fun h70 => ?_)
        · refine kw_iconst (v := 0) (pc := 81) dX6_reason_81 (by decide) ?_
          exact kw_ireturn nlX6_reason (pc := 82) dX6_reason_82 rfl rfl ⟨kv_eq (by grind [pR]), rfl, rfl⟩
        · refine kw_iload_n (pc := 73) dX6_reason_73 rfl ?_
          refine kw_if_ne (tgt := 81) (pc := 74) dX6_reason_74 (by decide) (fun h74 => ?_) (fun h74 => ?_)
          · refine kw_iconst (v := 0) (pc := 81) dX6_reason_81 (by decide) ?_
            exact kw_ireturn nlX6_reason (pc := 82) dX6_reason_82 rfl rfl ⟨kv_eq (by grind [pR]), rfl, rfl⟩
          · refine kw_iconst (v := 3) (pc := 77) dX6_reason_77 (by decide) ?_
            refine kw_goto (tgt := 82) (pc := 78) dX6_reason_78 (by decide) ?_
            exact kw_ireturn nlX6_reason (pc := 82) dX6_reason_82 rfl rfl ⟨kv_eq (by grind [pR]), rfl, rfl⟩
      · refine kw_iconst (v := 2) (pc := 58) dX6_reason_58 (by decide) ?_
        refine kw_goto (tgt := 82) (pc := 59) dX6_reason_59 (by decide) ?_
        exact kw_ireturn nlX6_reason (pc := 82) dX6_reason_82 rfl rfl ⟨kv_eq (by grind [pR]), rfl, rfl⟩
    · refine kw_iload_n (pc := 35) dX6_reason_35 rfl ?_
      refine kw_iconst (v := 1) (pc := 36) dX6_reason_36 (by decide) ?_
      refine kw_icmp_ne (tgt := 42) (pc := 37) dX6_reason_37 (by decide) (fun h37 => ?_) (fun h37 => ?_)
      · refine kw_aload_n (pc := 42) dX6_reason_42 rfl ?_
        refine kw_iload_n (pc := 43) dX6_reason_43 rfl ?_
        refine kw_callVr (pc := 44) dX6_reason_44 lX6_53 (c_girth hp) mM_0 rfl rfl rfl ⟨by decide, by decide, Nat.le_of_ble_eq_true rfl⟩ ?_
        refine kw_iconst (v := 2) (pc := 47) dX6_reason_47 (by decide) ?_
        refine kw_aload_n (pc := 48) dX6_reason_48 rfl ?_
        refine kw_getfield (pc := 49) kfw dX6_reason_49 fX6_7 mM_0 rfl ?_
        refine kw_iconst (v := 1) (pc := 52) dX6_reason_52 (by decide) ?_
        refine kw_ialoadN (pc := 53) (i := 1) dX6_reason_53 mM_1 (rfl : (1 : Int32) = nI 1) (by omega) (by decide) ?_
        refine kw_imul (pc := 54) dX6_reason_54 ?_
        refine kw_icmp_le (tgt := 62) (pc := 55) dX6_reason_55 (by decide) (fun h55 => ?_) (fun h55 => ?_)
        · refine kw_aload_n (pc := 62) dX6_reason_62 rfl ?_
          refine kw_getfield (pc := 63) kfw dX6_reason_63 fX6_7 mM_0 rfl ?_
          refine kw_iload_n (pc := 66) dX6_reason_66 rfl ?_
          refine kw_iconst (v := 5) (pc := 67) dX6_reason_67 (by decide) ?_
          refine kw_iadd (pc := 68) dX6_reason_68 ?_
          refine kw_ialoadN (pc := 69) (i := (p + 5)) dX6_reason_69 mM_1 (kA rfl (rfl : (5 : Int32) = nI 5)) (by omega) (by decide) ?_
          refine kw_if_le (tgt := 81) (pc := 70) dX6_reason_70 (by decide) (fun h70 => ?_) (fun h70 => ?_)
          · refine kw_iconst (v := 0) (pc := 81) dX6_reason_81 (by decide) ?_
            exact kw_ireturn nlX6_reason (pc := 82) dX6_reason_82 rfl rfl ⟨kv_eq (by grind [pR]), rfl, rfl⟩
          · refine kw_iload_n (pc := 73) dX6_reason_73 rfl ?_
            refine kw_if_ne (tgt := 81) (pc := 74) dX6_reason_74 (by decide) (fun h74 => ?_) (fun h74 => ?_)
            · refine kw_iconst (v := 0) (pc := 81) dX6_reason_81 (by decide) ?_
              exact kw_ireturn nlX6_reason (pc := 82) dX6_reason_82 rfl rfl ⟨kv_eq (by grind [pR]), rfl, rfl⟩
            · refine kw_iconst (v := 3) (pc := 77) dX6_reason_77 (by decide) ?_
              refine kw_goto (tgt := 82) (pc := 78) dX6_reason_78 (by decide) ?_
              exact kw_ireturn nlX6_reason (pc := 82) dX6_reason_82 rfl rfl ⟨kv_eq (by grind [pR]), rfl, rfl⟩
        · refine kw_iconst (v := 2) (pc := 58) dX6_reason_58 (by decide) ?_
          refine kw_goto (tgt := 82) (pc := 59) dX6_reason_59 (by decide) ?_
          exact kw_ireturn nlX6_reason (pc := 82) dX6_reason_82 rfl rfl ⟨kv_eq (by grind [pR]), rfl, rfl⟩
      · refine kw_iconst (v := 1) (pc := 40) dX6_reason_40 (by decide) ?_
        exact kw_ireturn nlX6_reason (pc := 41) dX6_reason_41 rfl rfl ⟨kv_eq (by grind [pR]), rfl, rfl⟩
  · refine kw_iload_n (pc := 25) dX6_reason_25 rfl ?_
    refine kw_if_eq (tgt := 40) (pc := 26) dX6_reason_26 (by decide) (fun h26 => ?_) (fun h26 => ?_)
    · refine kw_iconst (v := 1) (pc := 40) dX6_reason_40 (by decide) ?_
      exact kw_ireturn nlX6_reason (pc := 41) dX6_reason_41 rfl rfl ⟨kv_eq (by grind [pR]), rfl, rfl⟩
    · refine kw_iload_n (pc := 29) dX6_reason_29 rfl ?_
      refine kw_bipush (v := 60) (pc := 30) dX6_reason_30 (by decide) ?_
      refine kw_icmp_le (tgt := 42) (pc := 32) dX6_reason_32 (by decide) (fun h32 => ?_) (fun h32 => ?_)
      · refine kw_aload_n (pc := 42) dX6_reason_42 rfl ?_
        refine kw_iload_n (pc := 43) dX6_reason_43 rfl ?_
        refine kw_callVr (pc := 44) dX6_reason_44 lX6_53 (c_girth hp) mM_0 rfl rfl rfl ⟨by decide, by decide, Nat.le_of_ble_eq_true rfl⟩ ?_
        refine kw_iconst (v := 2) (pc := 47) dX6_reason_47 (by decide) ?_
        refine kw_aload_n (pc := 48) dX6_reason_48 rfl ?_
        refine kw_getfield (pc := 49) kfw dX6_reason_49 fX6_7 mM_0 rfl ?_
        refine kw_iconst (v := 1) (pc := 52) dX6_reason_52 (by decide) ?_
        refine kw_ialoadN (pc := 53) (i := 1) dX6_reason_53 mM_1 (rfl : (1 : Int32) = nI 1) (by omega) (by decide) ?_
        refine kw_imul (pc := 54) dX6_reason_54 ?_
        refine kw_icmp_le (tgt := 62) (pc := 55) dX6_reason_55 (by decide) (fun h55 => ?_) (fun h55 => ?_)
        · refine kw_aload_n (pc := 62) dX6_reason_62 rfl ?_
          refine kw_getfield (pc := 63) kfw dX6_reason_63 fX6_7 mM_0 rfl ?_
          refine kw_iload_n (pc := 66) dX6_reason_66 rfl ?_
          refine kw_iconst (v := 5) (pc := 67) dX6_reason_67 (by decide) ?_
          refine kw_iadd (pc := 68) dX6_reason_68 ?_
          refine kw_ialoadN (pc := 69) (i := (p + 5)) dX6_reason_69 mM_1 (kA rfl (rfl : (5 : Int32) = nI 5)) (by omega) (by decide) ?_
          refine kw_if_le (tgt := 81) (pc := 70) dX6_reason_70 (by decide) (fun h70 => ?_) (fun h70 => ?_)
          · refine kw_iconst (v := 0) (pc := 81) dX6_reason_81 (by decide) ?_
            exact kw_ireturn nlX6_reason (pc := 82) dX6_reason_82 rfl rfl ⟨kv_eq (by grind [pR]), rfl, rfl⟩
          · refine kw_iload_n (pc := 73) dX6_reason_73 rfl ?_
            refine kw_if_ne (tgt := 81) (pc := 74) dX6_reason_74 (by decide) (fun h74 => ?_) (fun h74 => ?_)
            · refine kw_iconst (v := 0) (pc := 81) dX6_reason_81 (by decide) ?_
              exact kw_ireturn nlX6_reason (pc := 82) dX6_reason_82 rfl rfl ⟨kv_eq (by grind [pR]), rfl, rfl⟩
            · refine kw_iconst (v := 3) (pc := 77) dX6_reason_77 (by decide) ?_
              refine kw_goto (tgt := 82) (pc := 78) dX6_reason_78 (by decide) ?_
              exact kw_ireturn nlX6_reason (pc := 82) dX6_reason_82 rfl rfl ⟨kv_eq (by grind [pR]), rfl, rfl⟩
        · refine kw_iconst (v := 2) (pc := 58) dX6_reason_58 (by decide) ?_
          refine kw_goto (tgt := 82) (pc := 59) dX6_reason_59 (by decide) ?_
          exact kw_ireturn nlX6_reason (pc := 82) dX6_reason_82 rfl rfl ⟨kv_eq (by grind [pR]), rfl, rfl⟩
      · refine kw_iload_n (pc := 35) dX6_reason_35 rfl ?_
        refine kw_iconst (v := 1) (pc := 36) dX6_reason_36 (by decide) ?_
        refine kw_icmp_ne (tgt := 42) (pc := 37) dX6_reason_37 (by decide) (fun h37 => ?_) (fun h37 => ?_)
        · refine kw_aload_n (pc := 42) dX6_reason_42 rfl ?_
          refine kw_iload_n (pc := 43) dX6_reason_43 rfl ?_
          refine kw_callVr (pc := 44) dX6_reason_44 lX6_53 (c_girth hp) mM_0 rfl rfl rfl ⟨by decide, by decide, Nat.le_of_ble_eq_true rfl⟩ ?_
          refine kw_iconst (v := 2) (pc := 47) dX6_reason_47 (by decide) ?_
          refine kw_aload_n (pc := 48) dX6_reason_48 rfl ?_
          refine kw_getfield (pc := 49) kfw dX6_reason_49 fX6_7 mM_0 rfl ?_
          refine kw_iconst (v := 1) (pc := 52) dX6_reason_52 (by decide) ?_
          refine kw_ialoadN (pc := 53) (i := 1) dX6_reason_53 mM_1 (rfl : (1 : Int32) = nI 1) (by omega) (by decide) ?_
          refine kw_imul (pc := 54) dX6_reason_54 ?_
          refine kw_icmp_le (tgt := 62) (pc := 55) dX6_reason_55 (by decide) (fun h55 => ?_) (fun h55 => ?_)
          · refine kw_aload_n (pc := 62) dX6_reason_62 rfl ?_
            refine kw_getfield (pc := 63) kfw dX6_reason_63 fX6_7 mM_0 rfl ?_
            refine kw_iload_n (pc := 66) dX6_reason_66 rfl ?_
            refine kw_iconst (v := 5) (pc := 67) dX6_reason_67 (by decide) ?_
            refine kw_iadd (pc := 68) dX6_reason_68 ?_
            refine kw_ialoadN (pc := 69) (i := (p + 5)) dX6_reason_69 mM_1 (kA rfl (rfl : (5 : Int32) = nI 5)) (by omega) (by decide) ?_
            refine kw_if_le (tgt := 81) (pc := 70) dX6_reason_70 (by decide) (fun h70 => ?_) (fun h70 => ?_)
            · refine kw_iconst (v := 0) (pc := 81) dX6_reason_81 (by decide) ?_
              exact kw_ireturn nlX6_reason (pc := 82) dX6_reason_82 rfl rfl ⟨kv_eq (by grind [pR]), rfl, rfl⟩
            · refine kw_iload_n (pc := 73) dX6_reason_73 rfl ?_
              refine kw_if_ne (tgt := 81) (pc := 74) dX6_reason_74 (by decide) (fun h74 => ?_) (fun h74 => ?_)
              · refine kw_iconst (v := 0) (pc := 81) dX6_reason_81 (by decide) ?_
                exact kw_ireturn nlX6_reason (pc := 82) dX6_reason_82 rfl rfl ⟨kv_eq (by grind [pR]), rfl, rfl⟩
              · refine kw_iconst (v := 3) (pc := 77) dX6_reason_77 (by decide) ?_
                refine kw_goto (tgt := 82) (pc := 78) dX6_reason_78 (by decide) ?_
                exact kw_ireturn nlX6_reason (pc := 82) dX6_reason_82 rfl rfl ⟨kv_eq (by grind [pR]), rfl, rfl⟩
          · refine kw_iconst (v := 2) (pc := 58) dX6_reason_58 (by decide) ?_
            refine kw_goto (tgt := 82) (pc := 59) dX6_reason_59 (by decide) ?_
            exact kw_ireturn nlX6_reason (pc := 82) dX6_reason_82 rfl rfl ⟨kv_eq (by grind [pR]), rfl, rfl⟩
        · refine kw_iconst (v := 1) (pc := 40) dX6_reason_40 (by decide) ?_
          exact kw_ireturn nlX6_reason (pc := 41) dX6_reason_41 rfl rfl ⟨kv_eq (by grind [pR]), rfl, rfl⟩
