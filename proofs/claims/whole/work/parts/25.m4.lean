set_option maxRecDepth 100000 in
set_option maxHeartbeats 4000000 in
theorem c_laysBundle {w0 : kM} {mo : Nat} {s : Nat → Int32} {sv : Int32} {kp bf : Nat → Int32} {ty th : Int32} {co ma : Nat → Int32} {sp : Int32}  {k j : Nat} (hk : k < 7) (hj : j < 7) : kCtrW mX6_laysBundle 2 [.ref mo, .int (nI k), .int (nI j)] (mM w0 mo s sv kp bf ty th co ma sp) (some (.int (b2i (bOK s (pa s (21 + 7 * k)) (pa s (21 + 7 * j)))))) (fun w' => ∃ s', w' = (mM w0 mo s' sv kp bf ty th co ma sp) ∧ agr s s' ∧ ∀ i, i < 7 → s' (675 + i) = bnP (pa s (21 + 7 * k)) (pa s (21 + 7 * j)) i) := by
  refine kCtrW.of pl6 nlX6_laysBundle rfl (Nat.le_of_ble_eq_true rfl) (fun n => ?_)
  have tail : ∀ s1 : Nat → Int32, agr s s1 → (∀ i, i < 7 → s1 (675 + i) = bnP (pa s (21 + 7 * k)) (pa s (21 + 7 * j)) i) → kW (0, fun _ => 0) mX6_laysBundle 2 (fun o w' n' => o = .inl (some (.int (b2i (bOK s (pa s (21 + 7 * k)) (pa s (21 + 7 * j)))))) ∧ (fun w' => ∃ s', w' = (mM w0 mo s' sv kp bf ty th co ma sp) ∧ agr s s' ∧ ∀ i, i < 7 → s' (675 + i) = bnP (pa s (21 + 7 * k)) (pa s (21 + 7 * j)) i) w' ∧ n' = n) 0 0 n (mM w0 mo s1 sv kp bf ty th co ma sp) 170 [(0, .ref mo), (3, .int (nI (21 + 7 * k))), (4, .int (nI (21 + 7 * j)))] [] := by
    intro s1 ha hb
    have e1 : s1 (21 + 7 * k + 4) = s (21 + 7 * k + 4) := ha _ (by omega)
    have e2 : s1 (21 + 7 * j + 4) = s (21 + 7 * j + 4) := ha _ (by omega)
    have r1 : pR s1 (pa s1 (21 + 7 * k)) = pR s (pa s (21 + 7 * k)) := pR_congr (fun i hi => ha i (by omega)) (fun i hi => ha _ (by omega))
    have r2 : pR s1 (pa s1 (21 + 7 * j)) = pR s (pa s (21 + 7 * j)) := pR_congr (fun i hi => ha i (by omega)) (fun i hi => ha _ (by omega))
    have r3 : pR s1 (pa s1 675) = pR s (bnP (pa s (21 + 7 * k)) (pa s (21 + 7 * j))) := pR_congr (fun i hi => ha i (by omega)) hb
    have e3 : s1 678 = s (21 + 7 * k + 3) + s (21 + 7 * j + 3) := hb 3 (by decide)
    refine kw_aload_n (pc := 170) dX6_laysBundle_170 rfl ?_
    refine kw_getfield (pc := 171) kfw dX6_laysBundle_171 fX6_7 mM_0 rfl ?_
    refine kw_iload_n (pc := 174) dX6_laysBundle_174 rfl ?_
    refine kw_iconst (v := 4) (pc := 175) dX6_laysBundle_175 (by decide) ?_
    refine kw_iadd (pc := 176) dX6_laysBundle_176 ?_
    refine kw_ialoadN (pc := 177) (i := ((21 + 7 * k) + 4)) dX6_laysBundle_177 mM_1 (kA (a := (21 + 7 * k)) (b := 4) rfl (rfl : (4 : Int32) = nI 4)) (by omega) (by decide) ?_
    refine kw_aload_n (pc := 178) dX6_laysBundle_178 rfl ?_
    refine kw_getfield (pc := 179) kfw dX6_laysBundle_179 fX6_7 mM_0 rfl ?_
    refine kw_iload (pc := 182) dX6_laysBundle_182 rfl ?_
    refine kw_iconst (v := 4) (pc := 184) dX6_laysBundle_184 (by decide) ?_
    refine kw_iadd (pc := 185) dX6_laysBundle_185 ?_
    refine kw_ialoadN (pc := 186) (i := ((21 + 7 * j) + 4)) dX6_laysBundle_186 mM_1 (kA (a := (21 + 7 * j)) (b := 4) rfl (rfl : (4 : Int32) = nI 4)) (by omega) (by decide) ?_
    refine kw_icmp_ne (tgt := 234) (pc := 187) dX6_laysBundle_187 (by decide) (fun h187 => ?_) (fun h187 => ?_)
    · refine kw_iconst (v := 0) (pc := 234) dX6_laysBundle_234 (by decide) ?_
      exact kw_ireturn nlX6_laysBundle (pc := 235) dX6_laysBundle_235 rfl (by first | rfl | exact b2i_z _ | exact hbool) ⟨kv_eq (by first | (rw [b2i_t]; refine ⟨?_, ?_, ?_, ?_, ?_⟩ <;> grind) | (rw [b2i_f]; rintro ⟨q1, q2, q3, q4, q5⟩; grind)), ⟨s1, rfl, ha, hb⟩, rfl⟩
    · refine kw_aload_n (pc := 190) dX6_laysBundle_190 rfl ?_
      refine kw_iload_n (pc := 191) dX6_laysBundle_191 rfl ?_
      refine kw_callVr (pc := 192) dX6_laysBundle_192 lX6_76 (c_reason (p := (21 + 7 * k)) (by omega)) mM_0 rfl rfl rfl ⟨by decide, by decide, Nat.le_of_ble_eq_true rfl⟩ ?_
      refine kw_if_ne (tgt := 234) (pc := 195) dX6_laysBundle_195 (by decide) (fun h195 => ?_) (fun h195 => ?_)
      · refine kw_iconst (v := 0) (pc := 234) dX6_laysBundle_234 (by decide) ?_
        exact kw_ireturn nlX6_laysBundle (pc := 235) dX6_laysBundle_235 rfl (by first | rfl | exact b2i_z _ | exact hbool) ⟨kv_eq (by first | (rw [b2i_t]; refine ⟨?_, ?_, ?_, ?_, ?_⟩ <;> grind) | (rw [b2i_f]; rintro ⟨q1, q2, q3, q4, q5⟩; grind)), ⟨s1, rfl, ha, hb⟩, rfl⟩
      · refine kw_aload_n (pc := 198) dX6_laysBundle_198 rfl ?_
        refine kw_iload (pc := 199) dX6_laysBundle_199 rfl ?_
        refine kw_callVr (pc := 201) dX6_laysBundle_201 lX6_76 (c_reason (p := (21 + 7 * j)) (by omega)) mM_0 rfl rfl rfl ⟨by decide, by decide, Nat.le_of_ble_eq_true rfl⟩ ?_
        refine kw_if_ne (tgt := 234) (pc := 204) dX6_laysBundle_204 (by decide) (fun h204 => ?_) (fun h204 => ?_)
        · refine kw_iconst (v := 0) (pc := 234) dX6_laysBundle_234 (by decide) ?_
          exact kw_ireturn nlX6_laysBundle (pc := 235) dX6_laysBundle_235 rfl (by first | rfl | exact b2i_z _ | exact hbool) ⟨kv_eq (by first | (rw [b2i_t]; refine ⟨?_, ?_, ?_, ?_, ?_⟩ <;> grind) | (rw [b2i_f]; rintro ⟨q1, q2, q3, q4, q5⟩; grind)), ⟨s1, rfl, ha, hb⟩, rfl⟩
        · refine kw_aload_n (pc := 207) dX6_laysBundle_207 rfl ?_
          refine kw_getfield (pc := 208) kfw dX6_laysBundle_208 fX6_7 mM_0 rfl ?_
          refine kw_sipush (v := 678) (pc := 211) dX6_laysBundle_211 (by decide) ?_
          refine kw_ialoadN (pc := 214) (i := 678) dX6_laysBundle_214 mM_1 (rfl : (678 : Int32) = nI 678) (by omega) (by decide) ?_
          refine kw_bipush (v := 99) (pc := 215) dX6_laysBundle_215 (by decide) ?_
          refine kw_icmp_gt (tgt := 234) (pc := 217) dX6_laysBundle_217 (by decide) (fun h217 => ?_) (fun h217 => ?_)
          · refine kw_iconst (v := 0) (pc := 234) dX6_laysBundle_234 (by decide) ?_
            exact kw_ireturn nlX6_laysBundle (pc := 235) dX6_laysBundle_235 rfl (by first | rfl | exact b2i_z _ | exact hbool) ⟨kv_eq (by first | (rw [b2i_t]; refine ⟨?_, ?_, ?_, ?_, ?_⟩ <;> grind) | (rw [b2i_f]; rintro ⟨q1, q2, q3, q4, q5⟩; grind)), ⟨s1, rfl, ha, hb⟩, rfl⟩
          · refine kw_aload_n (pc := 220) dX6_laysBundle_220 rfl ?_
            refine kw_sipush (v := 675) (pc := 221) dX6_laysBundle_221 (by decide) ?_
            refine kw_callVr (pc := 224) dX6_laysBundle_224 lX6_76 (c_reason (p := 675) (by omega)) mM_0 rfl rfl rfl ⟨by decide, by decide, Nat.le_of_ble_eq_true rfl⟩ ?_
            refine kw_if_ne (tgt := 234) (pc := 227) dX6_laysBundle_227 (by decide) (fun h227 => ?_) (fun h227 => ?_)
            · refine kw_iconst (v := 0) (pc := 234) dX6_laysBundle_234 (by decide) ?_
              exact kw_ireturn nlX6_laysBundle (pc := 235) dX6_laysBundle_235 rfl (by first | rfl | exact b2i_z _ | exact hbool) ⟨kv_eq (by first | (rw [b2i_t]; refine ⟨?_, ?_, ?_, ?_, ?_⟩ <;> grind) | (rw [b2i_f]; rintro ⟨q1, q2, q3, q4, q5⟩; grind)), ⟨s1, rfl, ha, hb⟩, rfl⟩
            · refine kw_iconst (v := 1) (pc := 230) dX6_laysBundle_230 (by decide) ?_
              refine kw_goto (tgt := 235) (pc := 231) dX6_laysBundle_231 (by decide) ?_
              exact kw_ireturn nlX6_laysBundle (pc := 235) dX6_laysBundle_235 rfl (by first | rfl | exact b2i_z _ | exact hbool) ⟨kv_eq (by first | (rw [b2i_t]; refine ⟨?_, ?_, ?_, ?_, ?_⟩ <;> grind) | (rw [b2i_f]; rintro ⟨q1, q2, q3, q4, q5⟩; grind)), ⟨s1, rfl, ha, hb⟩, rfl⟩
  refine kw_iload_n (pc := 0) dX6_laysBundle_0 rfl ?_
  refine kw_callSr (pc := 1) dX6_laysBundle_1 lX6_69 (c_atE (p := k) rfl) rfl rfl ⟨by decide, by decide, Nat.le_of_ble_eq_true rfl⟩ ?_
  refine kw_istore_n (pc := 4) dX6_laysBundle_4 (by decide) rfl ?_
  refine kw_iload_n (pc := 5) dX6_laysBundle_5 rfl ?_
  refine kw_callSr (pc := 6) dX6_laysBundle_6 lX6_69 (c_atE (p := j) rfl) rfl rfl ⟨by decide, by decide, Nat.le_of_ble_eq_true rfl⟩ ?_
  refine kw_istore (pc := 9) dX6_laysBundle_9 (by decide) rfl ?_
  refine kw_aload_n (pc := 11) dX6_laysBundle_11 rfl ?_
  refine kw_sipush (v := 675) (pc := 12) dX6_laysBundle_12 (by decide) ?_
  refine kw_aload_n (pc := 15) dX6_laysBundle_15 rfl ?_
  refine kw_getfield (pc := 16) kfw dX6_laysBundle_16 fX6_7 mM_0 rfl ?_
  refine kw_iload_n (pc := 19) dX6_laysBundle_19 rfl ?_
  refine kw_ialoadN (pc := 20) (i := (21 + 7 * k)) dX6_laysBundle_20 mM_1 rfl (by omega) (by decide) ?_
  refine kw_aload_n (pc := 21) dX6_laysBundle_21 rfl ?_
  refine kw_getfield (pc := 22) kfw dX6_laysBundle_22 fX6_7 mM_0 rfl ?_
  refine kw_iload (pc := 25) dX6_laysBundle_25 rfl ?_
  refine kw_ialoadN (pc := 27) (i := (21 + 7 * j)) dX6_laysBundle_27 mM_1 rfl (by omega) (by decide) ?_
  refine kw_callSr (pc := 28) dX6_laysBundle_28 lX6_49 (c_greater _ _) rfl rfl ⟨by decide, by decide, Nat.le_of_ble_eq_true rfl⟩ ?_
  refine kw_aload_n (pc := 31) dX6_laysBundle_31 rfl ?_
  refine kw_getfield (pc := 32) kfw dX6_laysBundle_32 fX6_7 mM_0 rfl ?_
  refine kw_iload_n (pc := 35) dX6_laysBundle_35 rfl ?_
  refine kw_iconst (v := 1) (pc := 36) dX6_laysBundle_36 (by decide) ?_
  refine kw_iadd (pc := 37) dX6_laysBundle_37 ?_
  refine kw_ialoadN (pc := 38) (i := ((21 + 7 * k) + 1)) dX6_laysBundle_38 mM_1 (kA (a := (21 + 7 * k)) (b := 1) rfl (rfl : (1 : Int32) = nI 1)) (by omega) (by decide) ?_
  refine kw_aload_n (pc := 39) dX6_laysBundle_39 rfl ?_
  refine kw_getfield (pc := 40) kfw dX6_laysBundle_40 fX6_7 mM_0 rfl ?_
  refine kw_iload (pc := 43) dX6_laysBundle_43 rfl ?_
  refine kw_iconst (v := 1) (pc := 45) dX6_laysBundle_45 (by decide) ?_
  refine kw_iadd (pc := 46) dX6_laysBundle_46 ?_
  refine kw_ialoadN (pc := 47) (i := ((21 + 7 * j) + 1)) dX6_laysBundle_47 mM_1 (kA (a := (21 + 7 * j)) (b := 1) rfl (rfl : (1 : Int32) = nI 1)) (by omega) (by decide) ?_
  refine kw_callSr (pc := 48) dX6_laysBundle_48 lX6_49 (c_greater _ _) rfl rfl ⟨by decide, by decide, Nat.le_of_ble_eq_true rfl⟩ ?_
  refine kw_aload_n (pc := 51) dX6_laysBundle_51 rfl ?_
  refine kw_getfield (pc := 52) kfw dX6_laysBundle_52 fX6_7 mM_0 rfl ?_
  refine kw_iload_n (pc := 55) dX6_laysBundle_55 rfl ?_
  refine kw_iconst (v := 2) (pc := 56) dX6_laysBundle_56 (by decide) ?_
  refine kw_iadd (pc := 57) dX6_laysBundle_57 ?_
  refine kw_ialoadN (pc := 58) (i := ((21 + 7 * k) + 2)) dX6_laysBundle_58 mM_1 (kA (a := (21 + 7 * k)) (b := 2) rfl (rfl : (2 : Int32) = nI 2)) (by omega) (by decide) ?_
  refine kw_aload_n (pc := 59) dX6_laysBundle_59 rfl ?_
  refine kw_getfield (pc := 60) kfw dX6_laysBundle_60 fX6_7 mM_0 rfl ?_
  refine kw_iload (pc := 63) dX6_laysBundle_63 rfl ?_
  refine kw_iconst (v := 2) (pc := 65) dX6_laysBundle_65 (by decide) ?_
  refine kw_iadd (pc := 66) dX6_laysBundle_66 ?_
  refine kw_ialoadN (pc := 67) (i := ((21 + 7 * j) + 2)) dX6_laysBundle_67 mM_1 (kA (a := (21 + 7 * j)) (b := 2) rfl (rfl : (2 : Int32) = nI 2)) (by omega) (by decide) ?_
  refine kw_iadd (pc := 68) dX6_laysBundle_68 ?_
  refine kw_callVw0 (pc := 69) dX6_laysBundle_69 lX6_72 (c_sorts (by decide) _ _ _) mM_0 rfl rfl rfl ⟨by decide, by decide, Nat.le_of_ble_eq_true rfl⟩ (fun w1 hw1 => ?_)
  have hw1 : w1 = _ := hw1
  subst hw1
  refine kw_aload_n (pc := 72) dX6_laysBundle_72 rfl ?_
  refine kw_getfield (pc := 73) kfw dX6_laysBundle_73 fX6_7 mM_0 rfl ?_
  refine kw_sipush (v := 678) (pc := 76) dX6_laysBundle_76 (by decide) ?_
  refine kw_aload_n (pc := 79) dX6_laysBundle_79 rfl ?_
  refine kw_getfield (pc := 80) kfw dX6_laysBundle_80 fX6_7 mM_0 rfl ?_
  refine kw_iload_n (pc := 83) dX6_laysBundle_83 rfl ?_
  refine kw_iconst (v := 3) (pc := 84) dX6_laysBundle_84 (by decide) ?_
  refine kw_iadd (pc := 85) dX6_laysBundle_85 ?_
  refine kw_ialoadN (pc := 86) (i := ((21 + 7 * k) + 3)) dX6_laysBundle_86 mM_1 (kA (a := (21 + 7 * k)) (b := 3) rfl (rfl : (3 : Int32) = nI 3)) (by omega) (by decide) ?_
  refine kw_aload_n (pc := 87) dX6_laysBundle_87 rfl ?_
  refine kw_getfield (pc := 88) kfw dX6_laysBundle_88 fX6_7 mM_0 rfl ?_
  refine kw_iload (pc := 91) dX6_laysBundle_91 rfl ?_
  refine kw_iconst (v := 3) (pc := 93) dX6_laysBundle_93 (by decide) ?_
  refine kw_iadd (pc := 94) dX6_laysBundle_94 ?_
  refine kw_ialoadN (pc := 95) (i := ((21 + 7 * j) + 3)) dX6_laysBundle_95 mM_1 (kA (a := (21 + 7 * j)) (b := 3) rfl (rfl : (3 : Int32) = nI 3)) (by omega) (by decide) ?_
  refine kw_iadd (pc := 96) dX6_laysBundle_96 ?_
  refine kw_iastoreN (pc := 97) (i := 678) dX6_laysBundle_97 mM_1 (rfl : (678 : Int32) = nI 678) (by omega) (by decide) (kW.eq mMs_1 rfl ?_)
  refine kw_aload_n (pc := 98) dX6_laysBundle_98 rfl ?_
  refine kw_getfield (pc := 99) kfw dX6_laysBundle_99 fX6_7 mM_0 rfl ?_
  refine kw_sipush (v := 679) (pc := 102) dX6_laysBundle_102 (by decide) ?_
  refine kw_aload_n (pc := 105) dX6_laysBundle_105 rfl ?_
  refine kw_getfield (pc := 106) kfw dX6_laysBundle_106 fX6_7 mM_0 rfl ?_
  refine kw_iload_n (pc := 109) dX6_laysBundle_109 rfl ?_
  refine kw_iconst (v := 4) (pc := 110) dX6_laysBundle_110 (by decide) ?_
  refine kw_iadd (pc := 111) dX6_laysBundle_111 ?_
  refine kw_ialoadN (pc := 112) (i := ((21 + 7 * k) + 4)) dX6_laysBundle_112 mM_1 (kA (a := (21 + 7 * k)) (b := 4) rfl (rfl : (4 : Int32) = nI 4)) (by omega) (by decide) ?_
  refine kw_iastoreN (pc := 113) (i := 679) dX6_laysBundle_113 mM_1 (rfl : (679 : Int32) = nI 679) (by omega) (by decide) (kW.eq mMs_1 rfl ?_)
  refine kw_aload_n (pc := 114) dX6_laysBundle_114 rfl ?_
  refine kw_getfield (pc := 115) kfw dX6_laysBundle_115 fX6_7 mM_0 rfl ?_
  refine kw_sipush (v := 680) (pc := 118) dX6_laysBundle_118 (by decide) ?_
  refine kw_aload_n (pc := 121) dX6_laysBundle_121 rfl ?_
  refine kw_getfield (pc := 122) kfw dX6_laysBundle_122 fX6_7 mM_0 rfl ?_
  refine kw_iload_n (pc := 125) dX6_laysBundle_125 rfl ?_
  refine kw_iconst (v := 5) (pc := 126) dX6_laysBundle_126 (by decide) ?_
  refine kw_iadd (pc := 127) dX6_laysBundle_127 ?_
  refine kw_ialoadN (pc := 128) (i := ((21 + 7 * k) + 5)) dX6_laysBundle_128 mM_1 (kA (a := (21 + 7 * k)) (b := 5) rfl (rfl : (5 : Int32) = nI 5)) (by omega) (by decide) ?_
  refine kw_aload_n (pc := 129) dX6_laysBundle_129 rfl ?_
  refine kw_getfield (pc := 130) kfw dX6_laysBundle_130 fX6_7 mM_0 rfl ?_
  refine kw_iload (pc := 133) dX6_laysBundle_133 rfl ?_
  refine kw_iconst (v := 5) (pc := 135) dX6_laysBundle_135 (by decide) ?_
  refine kw_iadd (pc := 136) dX6_laysBundle_136 ?_
  refine kw_ialoadN (pc := 137) (i := ((21 + 7 * j) + 5)) dX6_laysBundle_137 mM_1 (kA (a := (21 + 7 * j)) (b := 5) rfl (rfl : (5 : Int32) = nI 5)) (by omega) (by decide) ?_
  refine kw_iadd (pc := 138) dX6_laysBundle_138 ?_
  refine kw_iastoreN (pc := 139) (i := 680) dX6_laysBundle_139 mM_1 (rfl : (680 : Int32) = nI 680) (by omega) (by decide) (kW.eq mMs_1 rfl ?_)
  refine kw_aload_n (pc := 140) dX6_laysBundle_140 rfl ?_
  refine kw_getfield (pc := 141) kfw dX6_laysBundle_141 fX6_7 mM_0 rfl ?_
  refine kw_sipush (v := 681) (pc := 144) dX6_laysBundle_144 (by decide) ?_
  refine kw_aload_n (pc := 147) dX6_laysBundle_147 rfl ?_
  refine kw_getfield (pc := 148) kfw dX6_laysBundle_148 fX6_7 mM_0 rfl ?_
  refine kw_iload_n (pc := 151) dX6_laysBundle_151 rfl ?_
  refine kw_bipush (v := 6) (pc := 152) dX6_laysBundle_152 (by decide) ?_
  refine kw_iadd (pc := 154) dX6_laysBundle_154 ?_
  refine kw_ialoadN (pc := 155) (i := ((21 + 7 * k) + 6)) dX6_laysBundle_155 mM_1 (kA (a := (21 + 7 * k)) (b := 6) rfl (rfl : (6 : Int32) = nI 6)) (by omega) (by decide) ?_
  refine kw_aload_n (pc := 156) dX6_laysBundle_156 rfl ?_
  refine kw_getfield (pc := 157) kfw dX6_laysBundle_157 fX6_7 mM_0 rfl ?_
  refine kw_iload (pc := 160) dX6_laysBundle_160 rfl ?_
  refine kw_bipush (v := 6) (pc := 162) dX6_laysBundle_162 (by decide) ?_
  refine kw_iadd (pc := 164) dX6_laysBundle_164 ?_
  refine kw_ialoadN (pc := 165) (i := ((21 + 7 * j) + 6)) dX6_laysBundle_165 mM_1 (kA (a := (21 + 7 * j)) (b := 6) rfl (rfl : (6 : Int32) = nI 6)) (by omega) (by decide) ?_
  refine kw_callSr (pc := 166) dX6_laysBundle_166 lX6_49 (c_greater _ _) rfl rfl ⟨by decide, by decide, Nat.le_of_ble_eq_true rfl⟩ ?_
  refine kw_iastoreN (pc := 169) (i := 681) dX6_laysBundle_169 mM_1 (rfl : (681 : Int32) = nI 681) (by omega) (by decide) (kW.eq mMs_1 rfl ?_)
  refine kW.locs (tail _ ?_ ?_) ⟨rfl, rfl, rfl, trivial⟩
  · intro i hi
    simp (disch := omega) only [putS, kuf_ne]
  · intro i hi
    match i, hi with
    | 0, _ => simp (disch := omega) only [putS, kuf_eq, kuf_ne, Nat.reduceAdd, Nat.add_zero]; rfl
    | 1, _ => simp (disch := omega) only [putS, kuf_eq, kuf_ne, Nat.reduceAdd, Nat.add_zero]; rfl
    | 2, _ => simp (disch := omega) only [putS, kuf_eq, kuf_ne, Nat.reduceAdd, Nat.add_zero]; rfl
    | 3, _ => simp (disch := omega) only [putS, kuf_eq, kuf_ne, Nat.reduceAdd, Nat.add_zero]; rfl
    | 4, _ => simp (disch := omega) only [putS, kuf_eq, kuf_ne, Nat.reduceAdd, Nat.add_zero]; rfl
    | 5, _ => simp (disch := omega) only [putS, kuf_eq, kuf_ne, Nat.reduceAdd, Nat.add_zero]; rfl
    | 6, _ => simp (disch := omega) only [putS, kuf_eq, kuf_ne, Nat.reduceAdd, Nat.add_zero]; rfl
set_option maxRecDepth 100000 in
set_option maxHeartbeats 4000000 in
theorem c_bundled {w0 : kM} {mo : Nat} {s : Nat → Int32} {sv : Int32} {kp bf : Nat → Int32} {ty th : Int32} {co ma : Nat → Int32} {sp : Int32}  {k j : Nat} (hk : k < 7) (hj : j < 7) (hf : (bOK s (pa s (21 + 7 * k)) (pa s (21 + 7 * j))) → fineP s (bnP (pa s (21 + 7 * k)) (pa s (21 + 7 * j)))) : kCtrW mX6_bundled 4 [.ref mo, .int (nI k), .int (nI j)] (mM w0 mo s sv kp bf ty th co ma sp) (some (.int (bdF s (pa s (21 + 7 * k)) (pa s (21 + 7 * j))))) (fun w' => ∃ s', w' = (mM w0 mo s' sv kp bf ty th co ma sp) ∧ agr s s') := by
  refine kCtrW.of pl6 nlX6_bundled rfl (Nat.le_of_ble_eq_true rfl) (fun n => ?_)
  refine kw_aload_n (pc := 0) dX6_bundled_0 rfl ?_
  refine kw_iload_n (pc := 1) dX6_bundled_1 rfl ?_
  refine kw_iload_n (pc := 2) dX6_bundled_2 rfl ?_
  refine kw_callVw1 (pc := 3) dX6_bundled_3 lX6_79 (c_laysBundle hk hj) mM_0 rfl rfl rfl ⟨by decide, by decide, Nat.le_of_ble_eq_true rfl⟩ (fun w1 hw1 => ?_)
  obtain ⟨s1, hw1, ha1, hb1⟩ := hw1
  subst hw1
  refine kw_if_eq (tgt := 19) (pc := 6) dX6_bundled_6 (by decide) (fun h6 => ?_) (fun h6 => ?_)
  · refine kw_iconst (v := -1) (pc := 19) dX6_bundled_19 (by decide) ?_
    exact kw_ireturn nlX6_bundled (pc := 20) dX6_bundled_20 rfl rfl ⟨kv_eq (by rw [bdF, if_neg (b2i_0.mp h6)]), ⟨s1, rfl, ha1⟩, rfl⟩
  · refine kw_aload_n (pc := 9) dX6_bundled_9 rfl ?_
    refine kw_sipush (v := 675) (pc := 10) dX6_bundled_10 (by decide) ?_
    refine kw_callVr (pc := 13) dX6_bundled_13 lX6_83 (c_postage (by decide) (fineP_congr (fun i hi => ha1 i (by omega)) hb1 (hf (by rw [b2i_0] at h6; exact Decidable.not_not.mp h6)))) mM_0 rfl rfl rfl ⟨by decide, by decide, Nat.le_of_ble_eq_true rfl⟩ ?_
    refine kw_goto (tgt := 20) (pc := 16) dX6_bundled_16 (by decide) ?_
    exact kw_ireturn nlX6_bundled (pc := 20) dX6_bundled_20 rfl rfl ⟨kv_eq (by rw [b2i_0] at h6; have h6 := Decidable.not_not.mp h6; rw [bdF, if_pos h6]; exact pP_congr (fun i hi => ha1 i (by omega)) hb1 (hf h6)), ⟨s1, rfl, ha1⟩, rfl⟩
set_option maxRecDepth 100000 in
set_option maxHeartbeats 4000000 in
theorem c_property_0 {w0 : kM} {mo : Nat} {s : Nat → Int32} {sv : Int32} {kp bf : Nat → Int32} {ty th : Int32} {co ma : Nat → Int32} {sp : Int32}  {k : Nat} (hk : k < 7) (hf : fineP s (pa s (21 + 7 * k))) : kCtrR mX6_property 4 [.ref mo, .int (nI k), .int (nI 0)] (mM w0 mo s sv kp bf ty th co ma sp) (.int (prp s (pa s (21 + 7 * k)) 0)) := by
  refine kCtrR.of pl6 nlX6_property rfl (Nat.le_of_ble_eq_true rfl) (fun n => ?_)
  refine kw_iload_n (pc := 0) dX6_property_0 rfl ?_
  refine kw_callSr (pc := 1) dX6_property_1 lX6_69 (c_atE (p := k) rfl) rfl rfl ⟨by decide, by decide, Nat.le_of_ble_eq_true rfl⟩ ?_
  refine kw_istore_n (pc := 4) dX6_property_4 (by decide) rfl ?_
  refine kw_iload_n (pc := 5) dX6_property_5 rfl ?_
  refine kw_tableOut (tgt := 60) (pc := 6) dX6_property_6 (by decide) (by decide) ?_
  refine kw_aload_n (pc := 60) dX6_property_60 rfl ?_
  refine kw_getfield (pc := 61) kfw dX6_property_61 fX6_7 mM_0 rfl ?_
  refine kw_iload_n (pc := 64) dX6_property_64 rfl ?_
  refine kw_iload_n (pc := 65) dX6_property_65 rfl ?_
  refine kw_iadd (pc := 66) dX6_property_66 ?_
  refine kw_ialoadN (pc := 67) (i := ((21 + 7 * k) + 0)) dX6_property_67 mM_1 (kA (a := (21 + 7 * k)) (b := 0) rfl rfl) (by omega) (by decide) ?_
  exact kw_ireturn nlX6_property (pc := 68) dX6_property_68 rfl rfl (by exact ⟨rfl, rfl, rfl⟩)
set_option maxRecDepth 100000 in
set_option maxHeartbeats 4000000 in
theorem c_property_1 {w0 : kM} {mo : Nat} {s : Nat → Int32} {sv : Int32} {kp bf : Nat → Int32} {ty th : Int32} {co ma : Nat → Int32} {sp : Int32}  {k : Nat} (hk : k < 7) (hf : fineP s (pa s (21 + 7 * k))) : kCtrR mX6_property 4 [.ref mo, .int (nI k), .int (nI 1)] (mM w0 mo s sv kp bf ty th co ma sp) (.int (prp s (pa s (21 + 7 * k)) 1)) := by
  refine kCtrR.of pl6 nlX6_property rfl (Nat.le_of_ble_eq_true rfl) (fun n => ?_)
  refine kw_iload_n (pc := 0) dX6_property_0 rfl ?_
  refine kw_callSr (pc := 1) dX6_property_1 lX6_69 (c_atE (p := k) rfl) rfl rfl ⟨by decide, by decide, Nat.le_of_ble_eq_true rfl⟩ ?_
  refine kw_istore_n (pc := 4) dX6_property_4 (by decide) rfl ?_
  refine kw_iload_n (pc := 5) dX6_property_5 rfl ?_
  refine kw_tableOut (tgt := 60) (pc := 6) dX6_property_6 (by decide) (by decide) ?_
  refine kw_aload_n (pc := 60) dX6_property_60 rfl ?_
  refine kw_getfield (pc := 61) kfw dX6_property_61 fX6_7 mM_0 rfl ?_
  refine kw_iload_n (pc := 64) dX6_property_64 rfl ?_
  refine kw_iload_n (pc := 65) dX6_property_65 rfl ?_
  refine kw_iadd (pc := 66) dX6_property_66 ?_
  refine kw_ialoadN (pc := 67) (i := ((21 + 7 * k) + 1)) dX6_property_67 mM_1 (kA (a := (21 + 7 * k)) (b := 1) rfl rfl) (by omega) (by decide) ?_
  exact kw_ireturn nlX6_property (pc := 68) dX6_property_68 rfl rfl (by exact ⟨rfl, rfl, rfl⟩)
set_option maxRecDepth 100000 in
set_option maxHeartbeats 4000000 in
theorem c_property_2 {w0 : kM} {mo : Nat} {s : Nat → Int32} {sv : Int32} {kp bf : Nat → Int32} {ty th : Int32} {co ma : Nat → Int32} {sp : Int32}  {k : Nat} (hk : k < 7) (hf : fineP s (pa s (21 + 7 * k))) : kCtrR mX6_property 4 [.ref mo, .int (nI k), .int (nI 2)] (mM w0 mo s sv kp bf ty th co ma sp) (.int (prp s (pa s (21 + 7 * k)) 2)) := by
  refine kCtrR.of pl6 nlX6_property rfl (Nat.le_of_ble_eq_true rfl) (fun n => ?_)
  refine kw_iload_n (pc := 0) dX6_property_0 rfl ?_
  refine kw_callSr (pc := 1) dX6_property_1 lX6_69 (c_atE (p := k) rfl) rfl rfl ⟨by decide, by decide, Nat.le_of_ble_eq_true rfl⟩ ?_
  refine kw_istore_n (pc := 4) dX6_property_4 (by decide) rfl ?_
  refine kw_iload_n (pc := 5) dX6_property_5 rfl ?_
  refine kw_tableOut (tgt := 60) (pc := 6) dX6_property_6 (by decide) (by decide) ?_
  refine kw_aload_n (pc := 60) dX6_property_60 rfl ?_
  refine kw_getfield (pc := 61) kfw dX6_property_61 fX6_7 mM_0 rfl ?_
  refine kw_iload_n (pc := 64) dX6_property_64 rfl ?_
  refine kw_iload_n (pc := 65) dX6_property_65 rfl ?_
  refine kw_iadd (pc := 66) dX6_property_66 ?_
  refine kw_ialoadN (pc := 67) (i := ((21 + 7 * k) + 2)) dX6_property_67 mM_1 (kA (a := (21 + 7 * k)) (b := 2) rfl rfl) (by omega) (by decide) ?_
  exact kw_ireturn nlX6_property (pc := 68) dX6_property_68 rfl rfl (by exact ⟨rfl, rfl, rfl⟩)
set_option maxRecDepth 100000 in
set_option maxHeartbeats 4000000 in
theorem c_property_3 {w0 : kM} {mo : Nat} {s : Nat → Int32} {sv : Int32} {kp bf : Nat → Int32} {ty th : Int32} {co ma : Nat → Int32} {sp : Int32}  {k : Nat} (hk : k < 7) (hf : fineP s (pa s (21 + 7 * k))) : kCtrR mX6_property 4 [.ref mo, .int (nI k), .int (nI 3)] (mM w0 mo s sv kp bf ty th co ma sp) (.int (prp s (pa s (21 + 7 * k)) 3)) := by
  refine kCtrR.of pl6 nlX6_property rfl (Nat.le_of_ble_eq_true rfl) (fun n => ?_)
  refine kw_iload_n (pc := 0) dX6_property_0 rfl ?_
  refine kw_callSr (pc := 1) dX6_property_1 lX6_69 (c_atE (p := k) rfl) rfl rfl ⟨by decide, by decide, Nat.le_of_ble_eq_true rfl⟩ ?_
  refine kw_istore_n (pc := 4) dX6_property_4 (by decide) rfl ?_
  refine kw_iload_n (pc := 5) dX6_property_5 rfl ?_
  refine kw_tableOut (tgt := 60) (pc := 6) dX6_property_6 (by decide) (by decide) ?_
  refine kw_aload_n (pc := 60) dX6_property_60 rfl ?_
  refine kw_getfield (pc := 61) kfw dX6_property_61 fX6_7 mM_0 rfl ?_
  refine kw_iload_n (pc := 64) dX6_property_64 rfl ?_
  refine kw_iload_n (pc := 65) dX6_property_65 rfl ?_
  refine kw_iadd (pc := 66) dX6_property_66 ?_
  refine kw_ialoadN (pc := 67) (i := ((21 + 7 * k) + 3)) dX6_property_67 mM_1 (kA (a := (21 + 7 * k)) (b := 3) rfl rfl) (by omega) (by decide) ?_
  exact kw_ireturn nlX6_property (pc := 68) dX6_property_68 rfl rfl (by exact ⟨rfl, rfl, rfl⟩)
set_option maxRecDepth 100000 in
set_option maxHeartbeats 4000000 in
theorem c_property_4 {w0 : kM} {mo : Nat} {s : Nat → Int32} {sv : Int32} {kp bf : Nat → Int32} {ty th : Int32} {co ma : Nat → Int32} {sp : Int32}  {k : Nat} (hk : k < 7) (hf : fineP s (pa s (21 + 7 * k))) : kCtrR mX6_property 4 [.ref mo, .int (nI k), .int (nI 4)] (mM w0 mo s sv kp bf ty th co ma sp) (.int (prp s (pa s (21 + 7 * k)) 4)) := by
  refine kCtrR.of pl6 nlX6_property rfl (Nat.le_of_ble_eq_true rfl) (fun n => ?_)
  refine kw_iload_n (pc := 0) dX6_property_0 rfl ?_
  refine kw_callSr (pc := 1) dX6_property_1 lX6_69 (c_atE (p := k) rfl) rfl rfl ⟨by decide, by decide, Nat.le_of_ble_eq_true rfl⟩ ?_
  refine kw_istore_n (pc := 4) dX6_property_4 (by decide) rfl ?_
  refine kw_iload_n (pc := 5) dX6_property_5 rfl ?_
  refine kw_tableOut (tgt := 60) (pc := 6) dX6_property_6 (by decide) (by decide) ?_
  refine kw_aload_n (pc := 60) dX6_property_60 rfl ?_
  refine kw_getfield (pc := 61) kfw dX6_property_61 fX6_7 mM_0 rfl ?_
  refine kw_iload_n (pc := 64) dX6_property_64 rfl ?_
  refine kw_iload_n (pc := 65) dX6_property_65 rfl ?_
  refine kw_iadd (pc := 66) dX6_property_66 ?_
  refine kw_ialoadN (pc := 67) (i := ((21 + 7 * k) + 4)) dX6_property_67 mM_1 (kA (a := (21 + 7 * k)) (b := 4) rfl rfl) (by omega) (by decide) ?_
  exact kw_ireturn nlX6_property (pc := 68) dX6_property_68 rfl rfl (by exact ⟨rfl, rfl, rfl⟩)
set_option maxRecDepth 100000 in
set_option maxHeartbeats 4000000 in
theorem c_property_5 {w0 : kM} {mo : Nat} {s : Nat → Int32} {sv : Int32} {kp bf : Nat → Int32} {ty th : Int32} {co ma : Nat → Int32} {sp : Int32}  {k : Nat} (hk : k < 7) (hf : fineP s (pa s (21 + 7 * k))) : kCtrR mX6_property 4 [.ref mo, .int (nI k), .int (nI 5)] (mM w0 mo s sv kp bf ty th co ma sp) (.int (prp s (pa s (21 + 7 * k)) 5)) := by
  refine kCtrR.of pl6 nlX6_property rfl (Nat.le_of_ble_eq_true rfl) (fun n => ?_)
  refine kw_iload_n (pc := 0) dX6_property_0 rfl ?_
  refine kw_callSr (pc := 1) dX6_property_1 lX6_69 (c_atE (p := k) rfl) rfl rfl ⟨by decide, by decide, Nat.le_of_ble_eq_true rfl⟩ ?_
  refine kw_istore_n (pc := 4) dX6_property_4 (by decide) rfl ?_
  refine kw_iload_n (pc := 5) dX6_property_5 rfl ?_
  refine kw_tableOut (tgt := 60) (pc := 6) dX6_property_6 (by decide) (by decide) ?_
  refine kw_aload_n (pc := 60) dX6_property_60 rfl ?_
  refine kw_getfield (pc := 61) kfw dX6_property_61 fX6_7 mM_0 rfl ?_
  refine kw_iload_n (pc := 64) dX6_property_64 rfl ?_
  refine kw_iload_n (pc := 65) dX6_property_65 rfl ?_
  refine kw_iadd (pc := 66) dX6_property_66 ?_
  refine kw_ialoadN (pc := 67) (i := ((21 + 7 * k) + 5)) dX6_property_67 mM_1 (kA (a := (21 + 7 * k)) (b := 5) rfl rfl) (by omega) (by decide) ?_
  exact kw_ireturn nlX6_property (pc := 68) dX6_property_68 rfl rfl (by exact ⟨rfl, rfl, rfl⟩)
set_option maxRecDepth 100000 in
set_option maxHeartbeats 4000000 in
theorem c_property_6 {w0 : kM} {mo : Nat} {s : Nat → Int32} {sv : Int32} {kp bf : Nat → Int32} {ty th : Int32} {co ma : Nat → Int32} {sp : Int32}  {k : Nat} (hk : k < 7) (hf : fineP s (pa s (21 + 7 * k))) : kCtrR mX6_property 4 [.ref mo, .int (nI k), .int (nI 6)] (mM w0 mo s sv kp bf ty th co ma sp) (.int (prp s (pa s (21 + 7 * k)) 6)) := by
  refine kCtrR.of pl6 nlX6_property rfl (Nat.le_of_ble_eq_true rfl) (fun n => ?_)
  refine kw_iload_n (pc := 0) dX6_property_0 rfl ?_
  refine kw_callSr (pc := 1) dX6_property_1 lX6_69 (c_atE (p := k) rfl) rfl rfl ⟨by decide, by decide, Nat.le_of_ble_eq_true rfl⟩ ?_
  refine kw_istore_n (pc := 4) dX6_property_4 (by decide) rfl ?_
  refine kw_iload_n (pc := 5) dX6_property_5 rfl ?_
  refine kw_tableOut (tgt := 60) (pc := 6) dX6_property_6 (by decide) (by decide) ?_
  refine kw_aload_n (pc := 60) dX6_property_60 rfl ?_
  refine kw_getfield (pc := 61) kfw dX6_property_61 fX6_7 mM_0 rfl ?_
  refine kw_iload_n (pc := 64) dX6_property_64 rfl ?_
  refine kw_iload_n (pc := 65) dX6_property_65 rfl ?_
  refine kw_iadd (pc := 66) dX6_property_66 ?_
  refine kw_ialoadN (pc := 67) (i := ((21 + 7 * k) + 6)) dX6_property_67 mM_1 (kA (a := (21 + 7 * k)) (b := 6) rfl rfl) (by omega) (by decide) ?_
  exact kw_ireturn nlX6_property (pc := 68) dX6_property_68 rfl rfl (by exact ⟨rfl, rfl, rfl⟩)
set_option maxRecDepth 100000 in
set_option maxHeartbeats 4000000 in
theorem c_property_7 {w0 : kM} {mo : Nat} {s : Nat → Int32} {sv : Int32} {kp bf : Nat → Int32} {ty th : Int32} {co ma : Nat → Int32} {sp : Int32}  {k : Nat} (hk : k < 7) (hf : fineP s (pa s (21 + 7 * k))) : kCtrR mX6_property 4 [.ref mo, .int (nI k), .int (nI 7)] (mM w0 mo s sv kp bf ty th co ma sp) (.int (prp s (pa s (21 + 7 * k)) 7)) := by
  refine kCtrR.of pl6 nlX6_property rfl (Nat.le_of_ble_eq_true rfl) (fun n => ?_)
  refine kw_iload_n (pc := 0) dX6_property_0 rfl ?_
  refine kw_callSr (pc := 1) dX6_property_1 lX6_69 (c_atE (p := k) rfl) rfl rfl ⟨by decide, by decide, Nat.le_of_ble_eq_true rfl⟩ ?_
  refine kw_istore_n (pc := 4) dX6_property_4 (by decide) rfl ?_
  refine kw_iload_n (pc := 5) dX6_property_5 rfl ?_
  refine kw_tableIn (off := 30) (tgt := 36) (pc := 6) dX6_property_6 (by decide) (by decide) (by decide) (by decide) ?_
  refine kw_aload_n (pc := 36) dX6_property_36 rfl ?_
  refine kw_iload_n (pc := 37) dX6_property_37 rfl ?_
  refine kw_callVr (pc := 38) dX6_property_38 lX6_53 (c_girth (by omega)) mM_0 rfl rfl rfl ⟨by decide, by decide, Nat.le_of_ble_eq_true rfl⟩ ?_
  exact kw_ireturn nlX6_property (pc := 41) dX6_property_41 rfl rfl (by exact ⟨rfl, rfl, rfl⟩)
set_option maxRecDepth 100000 in
set_option maxHeartbeats 4000000 in
theorem c_property_8 {w0 : kM} {mo : Nat} {s : Nat → Int32} {sv : Int32} {kp bf : Nat → Int32} {ty th : Int32} {co ma : Nat → Int32} {sp : Int32}  {k : Nat} (hk : k < 7) (hf : fineP s (pa s (21 + 7 * k))) : kCtrR mX6_property 4 [.ref mo, .int (nI k), .int (nI 8)] (mM w0 mo s sv kp bf ty th co ma sp) (.int (prp s (pa s (21 + 7 * k)) 8)) := by
  refine kCtrR.of pl6 nlX6_property rfl (Nat.le_of_ble_eq_true rfl) (fun n => ?_)
  refine kw_iload_n (pc := 0) dX6_property_0 rfl ?_
  refine kw_callSr (pc := 1) dX6_property_1 lX6_69 (c_atE (p := k) rfl) rfl rfl ⟨by decide, by decide, Nat.le_of_ble_eq_true rfl⟩ ?_
  refine kw_istore_n (pc := 4) dX6_property_4 (by decide) rfl ?_
  refine kw_iload_n (pc := 5) dX6_property_5 rfl ?_
  refine kw_tableIn (off := 36) (tgt := 42) (pc := 6) dX6_property_6 (by decide) (by decide) (by decide) (by decide) ?_
  refine kw_aload_n (pc := 42) dX6_property_42 rfl ?_
  refine kw_iload_n (pc := 43) dX6_property_43 rfl ?_
  refine kw_callVr (pc := 44) dX6_property_44 lX6_63 (c_string (by omega)) mM_0 rfl rfl rfl ⟨by decide, by decide, Nat.le_of_ble_eq_true rfl⟩ ?_
  exact kw_ireturn nlX6_property (pc := 47) dX6_property_47 rfl rfl (by exact ⟨rfl, rfl, rfl⟩)
set_option maxRecDepth 100000 in
set_option maxHeartbeats 4000000 in
theorem c_property_9 {w0 : kM} {mo : Nat} {s : Nat → Int32} {sv : Int32} {kp bf : Nat → Int32} {ty th : Int32} {co ma : Nat → Int32} {sp : Int32}  {k : Nat} (hk : k < 7) (hf : fineP s (pa s (21 + 7 * k))) : kCtrR mX6_property 4 [.ref mo, .int (nI k), .int (nI 9)] (mM w0 mo s sv kp bf ty th co ma sp) (.int (prp s (pa s (21 + 7 * k)) 9)) := by
  refine kCtrR.of pl6 nlX6_property rfl (Nat.le_of_ble_eq_true rfl) (fun n => ?_)
  refine kw_iload_n (pc := 0) dX6_property_0 rfl ?_
  refine kw_callSr (pc := 1) dX6_property_1 lX6_69 (c_atE (p := k) rfl) rfl rfl ⟨by decide, by decide, Nat.le_of_ble_eq_true rfl⟩ ?_
  refine kw_istore_n (pc := 4) dX6_property_4 (by decide) rfl ?_
  refine kw_iload_n (pc := 5) dX6_property_5 rfl ?_
  refine kw_tableIn (off := 42) (tgt := 48) (pc := 6) dX6_property_6 (by decide) (by decide) (by decide) (by decide) ?_
  refine kw_aload_n (pc := 48) dX6_property_48 rfl ?_
  refine kw_iload_n (pc := 49) dX6_property_49 rfl ?_
  refine kw_callVr (pc := 50) dX6_property_50 lX6_83 (c_postage (by omega) hf) mM_0 rfl rfl rfl ⟨by decide, by decide, Nat.le_of_ble_eq_true rfl⟩ ?_
  exact kw_ireturn nlX6_property (pc := 53) dX6_property_53 rfl rfl (by exact ⟨rfl, rfl, rfl⟩)
set_option maxRecDepth 100000 in
set_option maxHeartbeats 4000000 in
theorem c_property_10 {w0 : kM} {mo : Nat} {s : Nat → Int32} {sv : Int32} {kp bf : Nat → Int32} {ty th : Int32} {co ma : Nat → Int32} {sp : Int32}  {k : Nat} (hk : k < 7) (hf : fineP s (pa s (21 + 7 * k))) : kCtrR mX6_property 4 [.ref mo, .int (nI k), .int (nI 10)] (mM w0 mo s sv kp bf ty th co ma sp) (.int (prp s (pa s (21 + 7 * k)) 10)) := by
  refine kCtrR.of pl6 nlX6_property rfl (Nat.le_of_ble_eq_true rfl) (fun n => ?_)
  refine kw_iload_n (pc := 0) dX6_property_0 rfl ?_
  refine kw_callSr (pc := 1) dX6_property_1 lX6_69 (c_atE (p := k) rfl) rfl rfl ⟨by decide, by decide, Nat.le_of_ble_eq_true rfl⟩ ?_
  refine kw_istore_n (pc := 4) dX6_property_4 (by decide) rfl ?_
  refine kw_iload_n (pc := 5) dX6_property_5 rfl ?_
  refine kw_tableIn (off := 48) (tgt := 54) (pc := 6) dX6_property_6 (by decide) (by decide) (by decide) (by decide) ?_
  refine kw_aload_n (pc := 54) dX6_property_54 rfl ?_
  refine kw_iload_n (pc := 55) dX6_property_55 rfl ?_
  refine kw_callVr (pc := 56) dX6_property_56 lX6_76 (c_reason (by omega)) mM_0 rfl rfl rfl ⟨by decide, by decide, Nat.le_of_ble_eq_true rfl⟩ ?_
  exact kw_ireturn nlX6_property (pc := 59) dX6_property_59 rfl rfl (by exact ⟨rfl, rfl, rfl⟩)
theorem c_property {w0 : kM} {mo : Nat} {s : Nat → Int32} {sv : Int32} {kp bf : Nat → Int32} {ty th : Int32} {co ma : Nat → Int32} {sp : Int32} {k : Nat} (hk : k < 7) (hf : fineP s (pa s (21 + 7 * k))) : ∀ {j : Nat}, j < 11 → kCtrR mX6_property 4 [.ref mo, .int (nI k), .int (nI j)] (mM w0 mo s sv kp bf ty th co ma sp) (.int (prp s (pa s (21 + 7 * k)) j))
  | 0, _ => c_property_0 hk hf
  | 1, _ => c_property_1 hk hf
  | 2, _ => c_property_2 hk hf
  | 3, _ => c_property_3 hk hf
  | 4, _ => c_property_4 hk hf
  | 5, _ => c_property_5 hk hf
  | 6, _ => c_property_6 hk hf
  | 7, _ => c_property_7 hk hf
  | 8, _ => c_property_8 hk hf
  | 9, _ => c_property_9 hk hf
  | 10, _ => c_property_10 hk hf
  | j + 11, h => absurd h (by omega)
set_option maxRecDepth 100000 in
set_option maxHeartbeats 4000000 in
theorem c_counted_0 {w0 : kM} {mo : Nat} {s : Nat → Int32} {sv : Int32} {kp bf : Nat → Int32} {ty th : Int32} {co ma : Nat → Int32} {sp : Int32}  {c : Nat} (hc : s 20 = nI c) (hc7 : c ≤ 7) : kCtrR mX6_counted 4 [.ref mo, .int (nI 0)] (mM w0 mo s sv kp bf ty th co ma sp) (.int (ctd s sv c 0)) := by
  refine kCtrR.of pl6 nlX6_counted rfl (Nat.le_of_ble_eq_true rfl) (fun n => ?_)
  refine kw_iload_n (pc := 0) dX6_counted_0 rfl ?_
  refine kw_tableIn (off := 55) (tgt := 56) (pc := 1) dX6_counted_1 (by decide) (by decide) (by decide) (by decide) ?_
  refine kw_aload_n (pc := 56) dX6_counted_56 rfl ?_
  refine kw_getfield (pc := 57) kfw dX6_counted_57 fX6_7 mM_0 rfl ?_
  refine kw_bipush (v := 20) (pc := 60) dX6_counted_60 (by decide) ?_
  refine kw_ialoadN (pc := 62) (i := 20) dX6_counted_62 mM_1 (rfl : (20 : Int32) = nI 20) (by omega) (by decide) ?_
  exact kw_ireturn nlX6_counted (pc := 63) dX6_counted_63 rfl rfl (by exact ⟨rfl, rfl, rfl⟩)
set_option maxRecDepth 100000 in
set_option maxHeartbeats 4000000 in
theorem c_counted_1 {w0 : kM} {mo : Nat} {s : Nat → Int32} {sv : Int32} {kp bf : Nat → Int32} {ty th : Int32} {co ma : Nat → Int32} {sp : Int32}  {c : Nat} (hc : s 20 = nI c) (hc7 : c ≤ 7) : kCtrR mX6_counted 4 [.ref mo, .int (nI 1)] (mM w0 mo s sv kp bf ty th co ma sp) (.int (ctd s sv c 1)) := by
  refine kCtrR.of pl6 nlX6_counted rfl (Nat.le_of_ble_eq_true rfl) (fun n => ?_)
  refine kw_iload_n (pc := 0) dX6_counted_0 rfl ?_
  refine kw_tableIn (off := 63) (tgt := 64) (pc := 1) dX6_counted_1 (by decide) (by decide) (by decide) (by decide) ?_
  refine kw_aload_n (pc := 64) dX6_counted_64 rfl ?_
  refine kw_iload_n (pc := 65) dX6_counted_65 rfl ?_
  refine kw_iconst (v := 2) (pc := 66) dX6_counted_66 (by decide) ?_
  refine kw_icmp_ne (tgt := 74) (pc := 67) dX6_counted_67 (by decide) (fun h67 => ?_) (fun h67 => ?_)
  · refine kw_iconst (v := 0) (pc := 74) dX6_counted_74 (by decide) ?_
    refine kw_callVr (pc := 75) dX6_counted_75 lX6_171 (c_parcels _ hc hc7) mM_0 rfl rfl rfl ⟨by decide, by decide, Nat.le_of_ble_eq_true rfl⟩ ?_
    exact kw_ireturn nlX6_counted (pc := 78) dX6_counted_78 rfl rfl (by exact ⟨rfl, rfl, rfl⟩)
  · exact absurd h67 (by decide)
set_option maxRecDepth 100000 in
set_option maxHeartbeats 4000000 in
theorem c_counted_2 {w0 : kM} {mo : Nat} {s : Nat → Int32} {sv : Int32} {kp bf : Nat → Int32} {ty th : Int32} {co ma : Nat → Int32} {sp : Int32}  {c : Nat} (hc : s 20 = nI c) (hc7 : c ≤ 7) : kCtrR mX6_counted 4 [.ref mo, .int (nI 2)] (mM w0 mo s sv kp bf ty th co ma sp) (.int (ctd s sv c 2)) := by
  refine kCtrR.of pl6 nlX6_counted rfl (Nat.le_of_ble_eq_true rfl) (fun n => ?_)
  refine kw_iload_n (pc := 0) dX6_counted_0 rfl ?_
  refine kw_tableIn (off := 63) (tgt := 64) (pc := 1) dX6_counted_1 (by decide) (by decide) (by decide) (by decide) ?_
  refine kw_aload_n (pc := 64) dX6_counted_64 rfl ?_
  refine kw_iload_n (pc := 65) dX6_counted_65 rfl ?_
  refine kw_iconst (v := 2) (pc := 66) dX6_counted_66 (by decide) ?_
  refine kw_icmp_ne (tgt := 74) (pc := 67) dX6_counted_67 (by decide) (fun h67 => ?_) (fun h67 => ?_)
  · exact absurd (by decide) h67
  · refine kw_iconst (v := 1) (pc := 70) dX6_counted_70 (by decide) ?_
    refine kw_goto (tgt := 75) (pc := 71) dX6_counted_71 (by decide) ?_
    refine kw_callVr (pc := 75) dX6_counted_75 lX6_171 (c_parcels _ hc hc7) mM_0 rfl rfl rfl ⟨by decide, by decide, Nat.le_of_ble_eq_true rfl⟩ ?_
    exact kw_ireturn nlX6_counted (pc := 78) dX6_counted_78 rfl rfl (by exact ⟨rfl, rfl, rfl⟩)
set_option maxRecDepth 100000 in
set_option maxHeartbeats 4000000 in
theorem c_counted_3 {w0 : kM} {mo : Nat} {s : Nat → Int32} {sv : Int32} {kp bf : Nat → Int32} {ty th : Int32} {co ma : Nat → Int32} {sp : Int32}  {c : Nat} (hc : s 20 = nI c) (hc7 : c ≤ 7) : kCtrR mX6_counted 4 [.ref mo, .int (nI 3)] (mM w0 mo s sv kp bf ty th co ma sp) (.int (ctd s sv c 3)) := by
  refine kCtrR.of pl6 nlX6_counted rfl (Nat.le_of_ble_eq_true rfl) (fun n => ?_)
  refine kw_iload_n (pc := 0) dX6_counted_0 rfl ?_
  refine kw_tableIn (off := 88) (tgt := 89) (pc := 1) dX6_counted_1 (by decide) (by decide) (by decide) (by decide) ?_
  refine kw_aload_n (pc := 89) dX6_counted_89 rfl ?_
  refine kw_getfield (pc := 90) kfw dX6_counted_90 fX6_7 mM_0 rfl ?_
  refine kw_bipush (v := 70) (pc := 93) dX6_counted_93 (by decide) ?_
  refine kw_iload_n (pc := 95) dX6_counted_95 rfl ?_
  refine kw_iadd (pc := 96) dX6_counted_96 ?_
  refine kw_iconst (v := 3) (pc := 97) dX6_counted_97 (by decide) ?_
  refine kw_isub (pc := 98) dX6_counted_98 ?_
  refine kw_ialoadN (pc := 99) (i := ((70 + 3) - 3)) dX6_counted_99 mM_1 (kS (a := (70 + 3)) (b := 3) (kA (a := 70) (b := 3) (rfl : (70 : Int32) = nI 70) rfl) (rfl : (3 : Int32) = nI 3) (by omega)) (by omega) (by decide) ?_
  exact kw_ireturn nlX6_counted (pc := 100) dX6_counted_100 rfl rfl (by exact ⟨rfl, rfl, rfl⟩)
set_option maxRecDepth 100000 in
set_option maxHeartbeats 4000000 in
theorem c_counted_4 {w0 : kM} {mo : Nat} {s : Nat → Int32} {sv : Int32} {kp bf : Nat → Int32} {ty th : Int32} {co ma : Nat → Int32} {sp : Int32}  {c : Nat} (hc : s 20 = nI c) (hc7 : c ≤ 7) : kCtrR mX6_counted 4 [.ref mo, .int (nI 4)] (mM w0 mo s sv kp bf ty th co ma sp) (.int (ctd s sv c 4)) := by
  refine kCtrR.of pl6 nlX6_counted rfl (Nat.le_of_ble_eq_true rfl) (fun n => ?_)
  refine kw_iload_n (pc := 0) dX6_counted_0 rfl ?_
  refine kw_tableIn (off := 88) (tgt := 89) (pc := 1) dX6_counted_1 (by decide) (by decide) (by decide) (by decide) ?_
  refine kw_aload_n (pc := 89) dX6_counted_89 rfl ?_
  refine kw_getfield (pc := 90) kfw dX6_counted_90 fX6_7 mM_0 rfl ?_
  refine kw_bipush (v := 70) (pc := 93) dX6_counted_93 (by decide) ?_
  refine kw_iload_n (pc := 95) dX6_counted_95 rfl ?_
  refine kw_iadd (pc := 96) dX6_counted_96 ?_
  refine kw_iconst (v := 3) (pc := 97) dX6_counted_97 (by decide) ?_
  refine kw_isub (pc := 98) dX6_counted_98 ?_
  refine kw_ialoadN (pc := 99) (i := ((70 + 4) - 3)) dX6_counted_99 mM_1 (kS (a := (70 + 4)) (b := 3) (kA (a := 70) (b := 4) (rfl : (70 : Int32) = nI 70) rfl) (rfl : (3 : Int32) = nI 3) (by omega)) (by omega) (by decide) ?_
  exact kw_ireturn nlX6_counted (pc := 100) dX6_counted_100 rfl rfl (by exact ⟨rfl, rfl, rfl⟩)
set_option maxRecDepth 100000 in
set_option maxHeartbeats 4000000 in
theorem c_counted_5 {w0 : kM} {mo : Nat} {s : Nat → Int32} {sv : Int32} {kp bf : Nat → Int32} {ty th : Int32} {co ma : Nat → Int32} {sp : Int32}  {c : Nat} (hc : s 20 = nI c) (hc7 : c ≤ 7) : kCtrR mX6_counted 4 [.ref mo, .int (nI 5)] (mM w0 mo s sv kp bf ty th co ma sp) (.int (ctd s sv c 5)) := by
  refine kCtrR.of pl6 nlX6_counted rfl (Nat.le_of_ble_eq_true rfl) (fun n => ?_)
  refine kw_iload_n (pc := 0) dX6_counted_0 rfl ?_
  refine kw_tableIn (off := 88) (tgt := 89) (pc := 1) dX6_counted_1 (by decide) (by decide) (by decide) (by decide) ?_
  refine kw_aload_n (pc := 89) dX6_counted_89 rfl ?_
  refine kw_getfield (pc := 90) kfw dX6_counted_90 fX6_7 mM_0 rfl ?_
  refine kw_bipush (v := 70) (pc := 93) dX6_counted_93 (by decide) ?_
  refine kw_iload_n (pc := 95) dX6_counted_95 rfl ?_
  refine kw_iadd (pc := 96) dX6_counted_96 ?_
  refine kw_iconst (v := 3) (pc := 97) dX6_counted_97 (by decide) ?_
  refine kw_isub (pc := 98) dX6_counted_98 ?_
  refine kw_ialoadN (pc := 99) (i := ((70 + 5) - 3)) dX6_counted_99 mM_1 (kS (a := (70 + 5)) (b := 3) (kA (a := 70) (b := 5) (rfl : (70 : Int32) = nI 70) rfl) (rfl : (3 : Int32) = nI 3) (by omega)) (by omega) (by decide) ?_
  exact kw_ireturn nlX6_counted (pc := 100) dX6_counted_100 rfl rfl (by exact ⟨rfl, rfl, rfl⟩)
set_option maxRecDepth 100000 in
set_option maxHeartbeats 4000000 in
theorem c_counted_6 {w0 : kM} {mo : Nat} {s : Nat → Int32} {sv : Int32} {kp bf : Nat → Int32} {ty th : Int32} {co ma : Nat → Int32} {sp : Int32}  {c : Nat} (hc : s 20 = nI c) (hc7 : c ≤ 7) : kCtrR mX6_counted 4 [.ref mo, .int (nI 6)] (mM w0 mo s sv kp bf ty th co ma sp) (.int (ctd s sv c 6)) := by
  refine kCtrR.of pl6 nlX6_counted rfl (Nat.le_of_ble_eq_true rfl) (fun n => ?_)
  refine kw_iload_n (pc := 0) dX6_counted_0 rfl ?_
  refine kw_tableIn (off := 88) (tgt := 89) (pc := 1) dX6_counted_1 (by decide) (by decide) (by decide) (by decide) ?_
  refine kw_aload_n (pc := 89) dX6_counted_89 rfl ?_
  refine kw_getfield (pc := 90) kfw dX6_counted_90 fX6_7 mM_0 rfl ?_
  refine kw_bipush (v := 70) (pc := 93) dX6_counted_93 (by decide) ?_
  refine kw_iload_n (pc := 95) dX6_counted_95 rfl ?_
  refine kw_iadd (pc := 96) dX6_counted_96 ?_
  refine kw_iconst (v := 3) (pc := 97) dX6_counted_97 (by decide) ?_
  refine kw_isub (pc := 98) dX6_counted_98 ?_
  refine kw_ialoadN (pc := 99) (i := ((70 + 6) - 3)) dX6_counted_99 mM_1 (kS (a := (70 + 6)) (b := 3) (kA (a := 70) (b := 6) (rfl : (70 : Int32) = nI 70) rfl) (rfl : (3 : Int32) = nI 3) (by omega)) (by omega) (by decide) ?_
  exact kw_ireturn nlX6_counted (pc := 100) dX6_counted_100 rfl rfl (by exact ⟨rfl, rfl, rfl⟩)
set_option maxRecDepth 100000 in
set_option maxHeartbeats 4000000 in
theorem c_counted_7 {w0 : kM} {mo : Nat} {s : Nat → Int32} {sv : Int32} {kp bf : Nat → Int32} {ty th : Int32} {co ma : Nat → Int32} {sp : Int32}  {c : Nat} (hc : s 20 = nI c) (hc7 : c ≤ 7) : kCtrR mX6_counted 4 [.ref mo, .int (nI 7)] (mM w0 mo s sv kp bf ty th co ma sp) (.int (ctd s sv c 7)) := by
  refine kCtrR.of pl6 nlX6_counted rfl (Nat.le_of_ble_eq_true rfl) (fun n => ?_)
  refine kw_iload_n (pc := 0) dX6_counted_0 rfl ?_
  refine kw_tableIn (off := 88) (tgt := 89) (pc := 1) dX6_counted_1 (by decide) (by decide) (by decide) (by decide) ?_
  refine kw_aload_n (pc := 89) dX6_counted_89 rfl ?_
  refine kw_getfield (pc := 90) kfw dX6_counted_90 fX6_7 mM_0 rfl ?_
  refine kw_bipush (v := 70) (pc := 93) dX6_counted_93 (by decide) ?_
  refine kw_iload_n (pc := 95) dX6_counted_95 rfl ?_
  refine kw_iadd (pc := 96) dX6_counted_96 ?_
  refine kw_iconst (v := 3) (pc := 97) dX6_counted_97 (by decide) ?_
  refine kw_isub (pc := 98) dX6_counted_98 ?_
  refine kw_ialoadN (pc := 99) (i := ((70 + 7) - 3)) dX6_counted_99 mM_1 (kS (a := (70 + 7)) (b := 3) (kA (a := 70) (b := 7) (rfl : (70 : Int32) = nI 70) rfl) (rfl : (3 : Int32) = nI 3) (by omega)) (by omega) (by decide) ?_
  exact kw_ireturn nlX6_counted (pc := 100) dX6_counted_100 rfl rfl (by exact ⟨rfl, rfl, rfl⟩)
set_option maxRecDepth 100000 in
set_option maxHeartbeats 4000000 in
theorem c_counted_8 {w0 : kM} {mo : Nat} {s : Nat → Int32} {sv : Int32} {kp bf : Nat → Int32} {ty th : Int32} {co ma : Nat → Int32} {sp : Int32}  {c : Nat} (hc : s 20 = nI c) (hc7 : c ≤ 7) : kCtrR mX6_counted 4 [.ref mo, .int (nI 8)] (mM w0 mo s sv kp bf ty th co ma sp) (.int (ctd s sv c 8)) := by
  refine kCtrR.of pl6 nlX6_counted rfl (Nat.le_of_ble_eq_true rfl) (fun n => ?_)
  refine kw_iload_n (pc := 0) dX6_counted_0 rfl ?_
  refine kw_tableIn (off := 78) (tgt := 79) (pc := 1) dX6_counted_1 (by decide) (by decide) (by decide) (by decide) ?_
  refine kw_aload_n (pc := 79) dX6_counted_79 rfl ?_
  refine kw_callVr (pc := 80) dX6_counted_80 lX6_175 c_lowBands mM_0 rfl rfl rfl ⟨by decide, by decide, Nat.le_of_ble_eq_true rfl⟩ ?_
  exact kw_ireturn nlX6_counted (pc := 83) dX6_counted_83 rfl rfl (by exact ⟨rfl, rfl, rfl⟩)
set_option maxRecDepth 100000 in
set_option maxHeartbeats 4000000 in
theorem c_counted_9 {w0 : kM} {mo : Nat} {s : Nat → Int32} {sv : Int32} {kp bf : Nat → Int32} {ty th : Int32} {co ma : Nat → Int32} {sp : Int32}  {c : Nat} (hc : s 20 = nI c) (hc7 : c ≤ 7) : kCtrR mX6_counted 4 [.ref mo, .int (nI 9)] (mM w0 mo s sv kp bf ty th co ma sp) (.int (ctd s sv c 9)) := by
  refine kCtrR.of pl6 nlX6_counted rfl (Nat.le_of_ble_eq_true rfl) (fun n => ?_)
  refine kw_iload_n (pc := 0) dX6_counted_0 rfl ?_
  refine kw_tableIn (off := 83) (tgt := 84) (pc := 1) dX6_counted_1 (by decide) (by decide) (by decide) (by decide) ?_
  refine kw_aload_n (pc := 84) dX6_counted_84 rfl ?_
  refine kw_getfield (pc := 85) kfw dX6_counted_85 fX6_31 mM_0 rfl ?_
  exact kw_ireturn nlX6_counted (pc := 88) dX6_counted_88 rfl rfl (by exact ⟨rfl, rfl, rfl⟩)
theorem c_counted {w0 : kM} {mo : Nat} {s : Nat → Int32} {sv : Int32} {kp bf : Nat → Int32} {ty th : Int32} {co ma : Nat → Int32} {sp : Int32} {c : Nat} (hc : s 20 = nI c) (hc7 : c ≤ 7) : ∀ {j : Nat}, j < 10 → kCtrR mX6_counted 4 [.ref mo, .int (nI j)] (mM w0 mo s sv kp bf ty th co ma sp) (.int (ctd s sv c j))
  | 0, _ => c_counted_0 hc hc7
  | 1, _ => c_counted_1 hc hc7
  | 2, _ => c_counted_2 hc hc7
  | 3, _ => c_counted_3 hc hc7
  | 4, _ => c_counted_4 hc hc7
  | 5, _ => c_counted_5 hc hc7
  | 6, _ => c_counted_6 hc hc7
  | 7, _ => c_counted_7 hc hc7
  | 8, _ => c_counted_8 hc hc7
  | 9, _ => c_counted_9 hc hc7
  | j + 10, h => absurd h (by omega)
