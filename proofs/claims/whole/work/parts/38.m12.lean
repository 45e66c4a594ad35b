set_option maxRecDepth 100000 in
set_option maxHeartbeats 4000000 in
theorem c_isHere {w0 : kM} {mo : Nat} {s : Nat → Int32} {sv : Int32} {kp bf : Nat → Int32} {ty th : Int32} {co ma : Nat → Int32} {sp : Int32}  {T : Nat} (hT : ty = nI T) (hT60 : T ≤ 60) {i : Nat} (hi : sp = nI i) (hiT : i ≤ T) (lo hg : Int32) : kCtrR mX6_isHere 1 [.ref mo, .int lo, .int hg] (mM w0 mo s sv kp bf ty th co ma sp) (.int (b2i (hereF bf T i lo hg))) := by
  refine kCtrR.of pl6 nlX6_isHere rfl (Nat.le_of_ble_eq_true rfl) (fun n => ?_)
  refine kw_aload_n (pc := 0) dX6_isHere_0 rfl ?_
  refine kw_getfield (pc := 1) kfw dX6_isHere_1 fX6_138 mM_0 rfl ?_
  refine kw_aload_n (pc := 4) dX6_isHere_4 rfl ?_
  refine kw_getfield (pc := 5) kfw dX6_isHere_5 fX6_135 mM_0 rfl ?_
  refine kw_icmp_ge (tgt := 32) (pc := 8) dX6_isHere_8 (by decide) (fun h8 => ?_) (fun h8 => ?_)
  · have h8 := (kLeI (a := T) (b := i) (by omega) (by omega) hT hi).mp h8
    refine kw_iconst (v := 0) (pc := 32) dX6_isHere_32 (by decide) ?_
    exact kw_ireturn nlX6_isHere (pc := 33) dX6_isHere_33 rfl (by first | rfl | exact b2i_z _ | exact hbool) ⟨kv_eq (by grind [b2i]), rfl, rfl⟩
  · have h8 := mt (kLeI (a := T) (b := i) (by omega) (by omega) hT hi).mpr h8
    refine kw_aload_n (pc := 11) dX6_isHere_11 rfl ?_
    refine kw_getfield (pc := 12) kfw dX6_isHere_12 fX6_17 mM_0 rfl ?_
    refine kw_aload_n (pc := 15) dX6_isHere_15 rfl ?_
    refine kw_getfield (pc := 16) kfw dX6_isHere_16 fX6_138 mM_0 rfl ?_
    refine kw_caloadN (pc := 19) (i := i) dX6_isHere_19 mM_3 hi (by omega) (by decide) ?_
    refine kw_iload_n (pc := 20) dX6_isHere_20 rfl ?_
    refine kw_iload_n (pc := 21) dX6_isHere_21 rfl ?_
    refine kw_callSr (pc := 22) dX6_isHere_22 lX6_41 (c_in _ _ _) rfl rfl ⟨by decide, by decide, Nat.le_of_ble_eq_true rfl⟩ ?_
    refine kw_if_eq (tgt := 32) (pc := 25) dX6_isHere_25 (by decide) (fun h25 => ?_) (fun h25 => ?_)
    · refine kw_iconst (v := 0) (pc := 32) dX6_isHere_32 (by decide) ?_
      exact kw_ireturn nlX6_isHere (pc := 33) dX6_isHere_33 rfl (by first | rfl | exact b2i_z _ | exact hbool) ⟨kv_eq (by grind [b2i]), rfl, rfl⟩
    · refine kw_iconst (v := 1) (pc := 28) dX6_isHere_28 (by decide) ?_
      refine kw_goto (tgt := 33) (pc := 29) dX6_isHere_29 (by decide) ?_
      exact kw_ireturn nlX6_isHere (pc := 33) dX6_isHere_33 rfl (by first | rfl | exact b2i_z _ | exact hbool) ⟨kv_eq (by grind [b2i]), rfl, rfl⟩
theorem c_isHereT {w0 : kM} {mo : Nat} {s : Nat → Int32} {sv : Int32} {kp bf : Nat → Int32} {ty th : Int32} {co ma : Nat → Int32} {sp : Int32} {T : Nat} (hT : ty = nI T) (hT60 : T ≤ 60) {i : Nat} (hi : sp = nI i) (hiT : i ≤ T) {lo hg : Int32} (h : hereF bf T i lo hg) : kCtrR mX6_isHere 1 [.ref mo, .int lo, .int hg] (mM w0 mo s sv kp bf ty th co ma sp) (.int 1) := by
  have := c_isHere (w0 := w0) (mo := mo) (s := s) (sv := sv) (kp := kp) (bf := bf) (ty := ty) (th := th) (co := co) (ma := ma) (sp := sp) hT hT60 hi hiT lo hg
  rw [b2i_t h] at this
  exact this
theorem c_isHereF {w0 : kM} {mo : Nat} {s : Nat → Int32} {sv : Int32} {kp bf : Nat → Int32} {ty th : Int32} {co ma : Nat → Int32} {sp : Int32} {T : Nat} (hT : ty = nI T) (hT60 : T ≤ 60) {i : Nat} (hi : sp = nI i) (hiT : i ≤ T) {lo hg : Int32} (h : ¬ hereF bf T i lo hg) : kCtrR mX6_isHere 1 [.ref mo, .int lo, .int hg] (mM w0 mo s sv kp bf ty th co ma sp) (.int 0) := by
  have := c_isHere (w0 := w0) (mo := mo) (s := s) (sv := sv) (kp := kp) (bf := bf) (ty := ty) (th := th) (co := co) (ma := ma) (sp := sp) hT hT60 hi hiT lo hg
  rw [b2i_f h] at this
  exact this
set_option maxRecDepth 100000 in
set_option maxHeartbeats 4000000 in
theorem c_takesT {w0 : kM} {mo : Nat} {s : Nat → Int32} {sv : Int32} {kp bf : Nat → Int32} {ty th : Int32} {co ma : Nat → Int32} {sp : Int32}  {T : Nat} (hT : ty = nI T) (hT60 : T ≤ 60) {i : Nat} (hi : sp = nI i) (hiT : i ≤ T) {z : Int32} (h : hereF bf T i z z) : kCtrW mX6_takes 2 [.ref mo, .int z] (mM w0 mo s sv kp bf ty th co ma sp) (some (.int 1)) (fun w' => w' = (mM w0 mo s sv kp bf ty th co ma (nI (i + 1)))) := by
  refine kCtrW.of pl6 nlX6_takes rfl (Nat.le_of_ble_eq_true rfl) (fun n => ?_)
  refine kw_aload_n (pc := 0) dX6_takes_0 rfl ?_
  refine kw_iload_n (pc := 1) dX6_takes_1 rfl ?_
  refine kw_iload_n (pc := 2) dX6_takes_2 rfl ?_
  refine kw_callVr (pc := 3) dX6_takes_3 lX6_141 (c_isHereT hT hT60 hi hiT h) mM_0 rfl rfl rfl ⟨by decide, by decide, Nat.le_of_ble_eq_true rfl⟩ ?_
  refine kw_istore_n (pc := 6) dX6_takes_6 (by decide) rfl ?_
  refine kw_aload_n (pc := 7) dX6_takes_7 rfl ?_
  refine kw_dup (pc := 8) dX6_takes_8 rfl ?_
  refine kw_getfield (pc := 9) kfw dX6_takes_9 fX6_138 mM_0 rfl ?_
  refine kw_iload_n (pc := 12) dX6_takes_12 rfl ?_
  refine kw_if_eq (tgt := 20) (pc := 13) dX6_takes_13 (by decide) (fun h13 => ?_) (fun h13 => ?_)
  · exact absurd h13 (by decide)
  · refine kw_iconst (v := 1) (pc := 16) dX6_takes_16 (by decide) ?_
    refine kw_goto (tgt := 21) (pc := 17) dX6_takes_17 (by decide) ?_
    refine kw_iadd (pc := 21) dX6_takes_21 ?_
    refine kw_putfield (pc := 22) kfw dX6_takes_22 fX6_138 mM_0 (fun _ _ => rfl) (fun _ _ => rfl) (kW.eq mMf_8 rfl ?_)
    refine kw_iload_n (pc := 25) dX6_takes_25 rfl ?_
    exact kw_ireturn nlX6_takes (pc := 26) dX6_takes_26 rfl (by first | rfl | exact b2i_z _ | exact hbool) ⟨rfl, by rw [(kA (a := i) (b := 1) hi (rfl : (1 : Int32) = nI 1))] <;> rfl, rfl⟩
set_option maxRecDepth 100000 in
set_option maxHeartbeats 4000000 in
theorem c_takesF {w0 : kM} {mo : Nat} {s : Nat → Int32} {sv : Int32} {kp bf : Nat → Int32} {ty th : Int32} {co ma : Nat → Int32} {sp : Int32}  {T : Nat} (hT : ty = nI T) (hT60 : T ≤ 60) {i : Nat} (hi : sp = nI i) (hiT : i ≤ T) {z : Int32} (h : ¬ hereF bf T i z z) : kCtrW mX6_takes 2 [.ref mo, .int z] (mM w0 mo s sv kp bf ty th co ma sp) (some (.int 0)) (fun w' => w' = (mM w0 mo s sv kp bf ty th co ma (nI i))) := by
  refine kCtrW.of pl6 nlX6_takes rfl (Nat.le_of_ble_eq_true rfl) (fun n => ?_)
  refine kw_aload_n (pc := 0) dX6_takes_0 rfl ?_
  refine kw_iload_n (pc := 1) dX6_takes_1 rfl ?_
  refine kw_iload_n (pc := 2) dX6_takes_2 rfl ?_
  refine kw_callVr (pc := 3) dX6_takes_3 lX6_141 (c_isHereF hT hT60 hi hiT h) mM_0 rfl rfl rfl ⟨by decide, by decide, Nat.le_of_ble_eq_true rfl⟩ ?_
  refine kw_istore_n (pc := 6) dX6_takes_6 (by decide) rfl ?_
  refine kw_aload_n (pc := 7) dX6_takes_7 rfl ?_
  refine kw_dup (pc := 8) dX6_takes_8 rfl ?_
  refine kw_getfield (pc := 9) kfw dX6_takes_9 fX6_138 mM_0 rfl ?_
  refine kw_iload_n (pc := 12) dX6_takes_12 rfl ?_
  refine kw_if_eq (tgt := 20) (pc := 13) dX6_takes_13 (by decide) (fun h13 => ?_) (fun h13 => ?_)
  · refine kw_iconst (v := 0) (pc := 20) dX6_takes_20 (by decide) ?_
    refine kw_iadd (pc := 21) dX6_takes_21 ?_
    refine kw_putfield (pc := 22) kfw dX6_takes_22 fX6_138 mM_0 (fun _ _ => rfl) (fun _ _ => rfl) (kW.eq mMf_8 rfl ?_)
    refine kw_iload_n (pc := 25) dX6_takes_25 rfl ?_
    exact kw_ireturn nlX6_takes (pc := 26) dX6_takes_26 rfl (by first | rfl | exact b2i_z _ | exact hbool) ⟨rfl, by rw [(kA (a := i) (b := 0) hi (rfl : (0 : Int32) = nI 0))] <;> rfl, rfl⟩
  · exact absurd (by decide) h13
set_option maxRecDepth 100000 in
set_option maxHeartbeats 4000000 in
theorem c_number {w0 : kM} {mo : Nat} {s : Nat → Int32} {sv : Int32} {kp bf : Nat → Int32} {ty th : Int32} {co ma : Nat → Int32} {sp : Int32}  {T : Nat} (hT : ty = nI T) (hT60 : T ≤ 60) {i : Nat} (hi : sp = nI i) (hiT : i ≤ T) (g : Int32) : kCtrW mX6_number 2 [.ref mo, .int g] (mM w0 mo s sv kp bf ty th co ma sp) (some (.int (nmV bf T i g))) (fun w' => w' = (mM w0 mo s sv kp bf ty th co ma (nI (nmI bf T i g)))) := by
  refine kCtrW.of pl6 nlX6_number rfl (Nat.le_of_ble_eq_true rfl) (fun n => ?_)
  refine kw_aload_n (pc := 0) dX6_number_0 rfl ?_
  refine kw_bipush (v := 49) (pc := 1) dX6_number_1 (by decide) ?_
  refine kw_bipush (v := 57) (pc := 3) dX6_number_3 (by decide) ?_
  refine kw_callVr (pc := 5) dX6_number_5 lX6_141 (c_isHere (i := i) hT hT60 hi hiT _ _) mM_0 rfl rfl rfl ⟨by decide, by decide, Nat.le_of_ble_eq_true rfl⟩ ?_
  refine kw_if_eq (tgt := 26) (pc := 8) dX6_number_8 (by decide) (fun h8 => ?_) (fun h8 => ?_)
  · have hh : ¬ hereF bf T i 49 57 := by grind [b2i]
    refine kw_iconst (v := -1) (pc := 26) dX6_number_26 (by decide) ?_
    refine kw_istore_n (pc := 27) dX6_number_27 (by decide) rfl ?_
    refine kw_aload_n (pc := 28) dX6_number_28 rfl ?_
    refine kw_dup (pc := 29) dX6_number_29 rfl ?_
    refine kw_getfield (pc := 30) kfw dX6_number_30 fX6_138 mM_0 rfl ?_
    refine kw_iload_n (pc := 33) dX6_number_33 rfl ?_
    refine kw_iconst (v := -1) (pc := 34) dX6_number_34 (by decide) ?_
    refine kw_icmp_ne (tgt := 42) (pc := 35) dX6_number_35 (by decide) (fun h35 => ?_) (fun h35 => ?_)
    · exact absurd (by decide) h35
    · refine kw_iconst (v := 0) (pc := 38) dX6_number_38 (by decide) ?_
      refine kw_goto (tgt := 43) (pc := 39) dX6_number_39 (by decide) ?_
      refine kw_iadd (pc := 43) dX6_number_43 ?_
      refine kw_putfield (pc := 44) kfw dX6_number_44 fX6_138 mM_0 (fun _ _ => rfl) (fun _ _ => rfl) (kW.eq mMf_8 rfl ?_)
      refine kw_iload_n (pc := 47) dX6_number_47 rfl ?_
      refine kw_iconst (v := -1) (pc := 48) dX6_number_48 (by decide) ?_
      refine kw_icmp_eq (tgt := 112) (pc := 49) dX6_number_49 (by decide) (fun h49 => ?_) (fun h49 => ?_)
      · refine kw_iload_n (pc := 112) dX6_number_112 rfl ?_
        exact kw_ireturn nlX6_number (pc := 113) dX6_number_113 rfl rfl ⟨kv_eq (by unfold nmV; grind [b2i]), by rw [show nmI bf T i g = (i + 0) by unfold nmI; grind [b2i]]; try rw [(kA (a := i) (b := 0) hi (rfl : (0 : Int32) = nI 0))], rfl⟩
      · exact absurd (by decide) h49
  · have hh : hereF bf T i 49 57 := by grind [b2i]
    refine kw_aload_n (pc := 11) dX6_number_11 rfl ?_
    refine kw_getfield (pc := 12) kfw dX6_number_12 fX6_17 mM_0 rfl ?_
    refine kw_aload_n (pc := 15) dX6_number_15 rfl ?_
    refine kw_getfield (pc := 16) kfw dX6_number_16 fX6_138 mM_0 rfl ?_
    refine kw_caloadN (pc := 19) (i := i) dX6_number_19 mM_3 hi (by omega) (by decide) ?_
    refine kw_bipush (v := 48) (pc := 20) dX6_number_20 (by decide) ?_
    refine kw_isub (pc := 22) dX6_number_22 ?_
    refine kw_goto (tgt := 27) (pc := 23) dX6_number_23 (by decide) ?_
    refine kw_istore_n (pc := 27) dX6_number_27 (by decide) rfl ?_
    refine kw_aload_n (pc := 28) dX6_number_28 rfl ?_
    refine kw_dup (pc := 29) dX6_number_29 rfl ?_
    refine kw_getfield (pc := 30) kfw dX6_number_30 fX6_138 mM_0 rfl ?_
    refine kw_iload_n (pc := 33) dX6_number_33 rfl ?_
    refine kw_iconst (v := -1) (pc := 34) dX6_number_34 (by decide) ?_
    refine kw_icmp_ne (tgt := 42) (pc := 35) dX6_number_35 (by decide) (fun h35 => ?_) (fun h35 => ?_)
    · refine kw_iconst (v := 1) (pc := 42) dX6_number_42 (by decide) ?_
      refine kw_iadd (pc := 43) dX6_number_43 ?_
      refine kw_putfield (pc := 44) kfw dX6_number_44 fX6_138 mM_0 (fun _ _ => rfl) (fun _ _ => rfl) (kW.eq mMf_8 rfl ?_)
      refine kw_iload_n (pc := 47) dX6_number_47 rfl ?_
      refine kw_iconst (v := -1) (pc := 48) dX6_number_48 (by decide) ?_
      refine kw_icmp_eq (tgt := 112) (pc := 49) dX6_number_49 (by decide) (fun h49 => ?_) (fun h49 => ?_)
      · refine kw_iload_n (pc := 112) dX6_number_112 rfl ?_
        exact kw_ireturn nlX6_number (pc := 113) dX6_number_113 rfl rfl ⟨kv_eq (by unfold nmV; grind [b2i]), by rw [show nmI bf T i g = (i + 1) by unfold nmI; grind [b2i]]; try rw [(kA (a := i) (b := 1) hi (rfl : (1 : Int32) = nI 1))], rfl⟩
      · refine kw_aload_n (pc := 52) dX6_number_52 rfl ?_
        refine kw_bipush (v := 48) (pc := 53) dX6_number_53 (by decide) ?_
        refine kw_bipush (v := 57) (pc := 55) dX6_number_55 (by decide) ?_
        refine kw_callVr (pc := 57) dX6_number_57 lX6_141 (c_isHere (i := (i + 1)) hT hT60 (kA (a := i) (b := 1) hi (rfl : (1 : Int32) = nI 1)) (by have := hh.1; omega) _ _) mM_0 rfl rfl rfl ⟨by decide, by decide, Nat.le_of_ble_eq_true rfl⟩ ?_
        refine kw_if_eq (tgt := 112) (pc := 60) dX6_number_60 (by decide) (fun h60 => ?_) (fun h60 => ?_)
        · refine kw_iload_n (pc := 112) dX6_number_112 rfl ?_
          exact kw_ireturn nlX6_number (pc := 113) dX6_number_113 rfl rfl ⟨kv_eq (by unfold nmV; grind [b2i]), by rw [show nmI bf T i g = (i + 1) by unfold nmI; grind [b2i]]; try rw [(kA (a := i) (b := 1) hi (rfl : (1 : Int32) = nI 1))], rfl⟩
        · have hh2 : hereF bf T (i + 1) 48 57 := by grind [b2i]
          have hh3 := hh2.1
          refine kw_bipush (v := 10) (pc := 63) dX6_number_63 (by decide) ?_
          refine kw_iload_n (pc := 65) dX6_number_65 rfl ?_
          refine kw_imul (pc := 66) dX6_number_66 ?_
          refine kw_aload_n (pc := 67) dX6_number_67 rfl ?_
          refine kw_getfield (pc := 68) kfw dX6_number_68 fX6_17 mM_0 rfl ?_
          refine kw_aload_n (pc := 71) dX6_number_71 rfl ?_
          refine kw_getfield (pc := 72) kfw dX6_number_72 fX6_138 mM_0 rfl ?_
          refine kw_caloadN (pc := 75) (i := (i + 1)) dX6_number_75 mM_3 (kA (a := i) (b := 1) hi (rfl : (1 : Int32) = nI 1)) (by omega) (by decide) ?_
          refine kw_iadd (pc := 76) dX6_number_76 ?_
          refine kw_bipush (v := 48) (pc := 77) dX6_number_77 (by decide) ?_
          refine kw_isub (pc := 79) dX6_number_79 ?_
          refine kw_iload_n (pc := 80) dX6_number_80 rfl ?_
          refine kw_icmp_gt (tgt := 112) (pc := 81) dX6_number_81 (by decide) (fun h81 => ?_) (fun h81 => ?_)
          · refine kw_iload_n (pc := 112) dX6_number_112 rfl ?_
            exact kw_ireturn nlX6_number (pc := 113) dX6_number_113 rfl rfl ⟨kv_eq (by unfold nmV; grind [b2i]), by rw [show nmI bf T i g = (i + 1) by unfold nmI; grind [b2i]]; try rw [(kA (a := i) (b := 1) hi (rfl : (1 : Int32) = nI 1))], rfl⟩
          · refine kw_bipush (v := 10) (pc := 84) dX6_number_84 (by decide) ?_
            refine kw_iload_n (pc := 86) dX6_number_86 rfl ?_
            refine kw_imul (pc := 87) dX6_number_87 ?_
            refine kw_aload_n (pc := 88) dX6_number_88 rfl ?_
            refine kw_getfield (pc := 89) kfw dX6_number_89 fX6_17 mM_0 rfl ?_
            refine kw_aload_n (pc := 92) dX6_number_92 rfl ?_
            refine kw_getfield (pc := 93) kfw dX6_number_93 fX6_138 mM_0 rfl ?_
            refine kw_caloadN (pc := 96) (i := (i + 1)) dX6_number_96 mM_3 (kA (a := i) (b := 1) hi (rfl : (1 : Int32) = nI 1)) (by omega) (by decide) ?_
            refine kw_iadd (pc := 97) dX6_number_97 ?_
            refine kw_bipush (v := 48) (pc := 98) dX6_number_98 (by decide) ?_
            refine kw_isub (pc := 100) dX6_number_100 ?_
            refine kw_istore_n (pc := 101) dX6_number_101 (by decide) rfl ?_
            refine kw_aload_n (pc := 102) dX6_number_102 rfl ?_
            refine kw_dup (pc := 103) dX6_number_103 rfl ?_
            refine kw_getfield (pc := 104) kfw dX6_number_104 fX6_138 mM_0 rfl ?_
            refine kw_iconst (v := 1) (pc := 107) dX6_number_107 (by decide) ?_
            refine kw_iadd (pc := 108) dX6_number_108 ?_
            refine kw_putfield (pc := 109) kfw dX6_number_109 fX6_138 mM_0 (fun _ _ => rfl) (fun _ _ => rfl) (kW.eq mMf_8 rfl ?_)
            refine kw_iload_n (pc := 112) dX6_number_112 rfl ?_
            exact kw_ireturn nlX6_number (pc := 113) dX6_number_113 rfl rfl ⟨kv_eq (by unfold nmV; grind [b2i]), by rw [show nmI bf T i g = ((i + 1) + 1) by unfold nmI; grind [b2i]]; try rw [(kA (a := (i + 1)) (b := 1) (kA (a := i) (b := 1) hi (rfl : (1 : Int32) = nI 1)) (rfl : (1 : Int32) = nI 1))], rfl⟩
    · refine kw_iconst (v := 0) (pc := 38) dX6_number_38 (by decide) ?_
      refine kw_goto (tgt := 43) (pc := 39) dX6_number_39 (by decide) ?_
      refine kw_iadd (pc := 43) dX6_number_43 ?_
      refine kw_putfield (pc := 44) kfw dX6_number_44 fX6_138 mM_0 (fun _ _ => rfl) (fun _ _ => rfl) (kW.eq mMf_8 rfl ?_)
      refine kw_iload_n (pc := 47) dX6_number_47 rfl ?_
      refine kw_iconst (v := -1) (pc := 48) dX6_number_48 (by decide) ?_
      refine kw_icmp_eq (tgt := 112) (pc := 49) dX6_number_49 (by decide) (fun h49 => ?_) (fun h49 => ?_)
      · refine kw_iload_n (pc := 112) dX6_number_112 rfl ?_
        exact kw_ireturn nlX6_number (pc := 113) dX6_number_113 rfl rfl ⟨kv_eq (by unfold nmV; grind [b2i]), by rw [show nmI bf T i g = (i + 0) by unfold nmI; grind [b2i]]; try rw [(kA (a := i) (b := 0) hi (rfl : (0 : Int32) = nI 0))], rfl⟩
      · refine kw_aload_n (pc := 52) dX6_number_52 rfl ?_
        refine kw_bipush (v := 48) (pc := 53) dX6_number_53 (by decide) ?_
        refine kw_bipush (v := 57) (pc := 55) dX6_number_55 (by decide) ?_
        refine kw_callVr (pc := 57) dX6_number_57 lX6_141 (c_isHere (i := (i + 0)) hT hT60 (kA (a := i) (b := 0) hi (rfl : (0 : Int32) = nI 0)) (by have := hh.1; omega) _ _) mM_0 rfl rfl rfl ⟨by decide, by decide, Nat.le_of_ble_eq_true rfl⟩ ?_
        refine kw_if_eq (tgt := 112) (pc := 60) dX6_number_60 (by decide) (fun h60 => ?_) (fun h60 => ?_)
        · refine kw_iload_n (pc := 112) dX6_number_112 rfl ?_
          exact kw_ireturn nlX6_number (pc := 113) dX6_number_113 rfl rfl ⟨kv_eq (by unfold nmV; grind [b2i]), by rw [show nmI bf T i g = (i + 0) by unfold nmI; grind [b2i]]; try rw [(kA (a := i) (b := 0) hi (rfl : (0 : Int32) = nI 0))], rfl⟩
        · have hh2 : hereF bf T (i + 1) 48 57 := by grind [b2i]
          have hh3 := hh2.1
          refine kw_bipush (v := 10) (pc := 63) dX6_number_63 (by decide) ?_
          refine kw_iload_n (pc := 65) dX6_number_65 rfl ?_
          refine kw_imul (pc := 66) dX6_number_66 ?_
          refine kw_aload_n (pc := 67) dX6_number_67 rfl ?_
          refine kw_getfield (pc := 68) kfw dX6_number_68 fX6_17 mM_0 rfl ?_
          refine kw_aload_n (pc := 71) dX6_number_71 rfl ?_
          refine kw_getfield (pc := 72) kfw dX6_number_72 fX6_138 mM_0 rfl ?_
          refine kw_caloadN (pc := 75) (i := (i + 0)) dX6_number_75 mM_3 (kA (a := i) (b := 0) hi (rfl : (0 : Int32) = nI 0)) (by omega) (by decide) ?_
          refine kw_iadd (pc := 76) dX6_number_76 ?_
          refine kw_bipush (v := 48) (pc := 77) dX6_number_77 (by decide) ?_
          refine kw_isub (pc := 79) dX6_number_79 ?_
          refine kw_iload_n (pc := 80) dX6_number_80 rfl ?_
          refine kw_icmp_gt (tgt := 112) (pc := 81) dX6_number_81 (by decide) (fun h81 => ?_) (fun h81 => ?_)
          · refine kw_iload_n (pc := 112) dX6_number_112 rfl ?_
            exact kw_ireturn nlX6_number (pc := 113) dX6_number_113 rfl rfl ⟨kv_eq (by unfold nmV; grind [b2i]), by rw [show nmI bf T i g = (i + 0) by unfold nmI; grind [b2i]]; try rw [(kA (a := i) (b := 0) hi (rfl : (0 : Int32) = nI 0))], rfl⟩
          · refine kw_bipush (v := 10) (pc := 84) dX6_number_84 (by decide) ?_
            refine kw_iload_n (pc := 86) dX6_number_86 rfl ?_
            refine kw_imul (pc := 87) dX6_number_87 ?_
            refine kw_aload_n (pc := 88) dX6_number_88 rfl ?_
            refine kw_getfield (pc := 89) kfw dX6_number_89 fX6_17 mM_0 rfl ?_
            refine kw_aload_n (pc := 92) dX6_number_92 rfl ?_
            refine kw_getfield (pc := 93) kfw dX6_number_93 fX6_138 mM_0 rfl ?_
            refine kw_caloadN (pc := 96) (i := (i + 0)) dX6_number_96 mM_3 (kA (a := i) (b := 0) hi (rfl : (0 : Int32) = nI 0)) (by omega) (by decide) ?_
            refine kw_iadd (pc := 97) dX6_number_97 ?_
            refine kw_bipush (v := 48) (pc := 98) dX6_number_98 (by decide) ?_
            refine kw_isub (pc := 100) dX6_number_100 ?_
            refine kw_istore_n (pc := 101) dX6_number_101 (by decide) rfl ?_
            refine kw_aload_n (pc := 102) dX6_number_102 rfl ?_
            refine kw_dup (pc := 103) dX6_number_103 rfl ?_
            refine kw_getfield (pc := 104) kfw dX6_number_104 fX6_138 mM_0 rfl ?_
            refine kw_iconst (v := 1) (pc := 107) dX6_number_107 (by decide) ?_
            refine kw_iadd (pc := 108) dX6_number_108 ?_
            refine kw_putfield (pc := 109) kfw dX6_number_109 fX6_138 mM_0 (fun _ _ => rfl) (fun _ _ => rfl) (kW.eq mMf_8 rfl ?_)
            refine kw_iload_n (pc := 112) dX6_number_112 rfl ?_
            exact kw_ireturn nlX6_number (pc := 113) dX6_number_113 rfl rfl ⟨kv_eq (by unfold nmV; grind [b2i]), by rw [show nmI bf T i g = ((i + 0) + 1) by unfold nmI; grind [b2i]]; try rw [(kA (a := (i + 0)) (b := 1) (kA (a := i) (b := 0) hi (rfl : (0 : Int32) = nI 0)) (rfl : (1 : Int32) = nI 1))], rfl⟩
