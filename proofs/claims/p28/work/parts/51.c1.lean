def sK (P : Nat → Int32) (v : Int32) : Int32 := if v = 0 then 2 * (P 1 + P 2) else if v = 1 then 2 * P 0 + 2 * P 1 + 4 * P 2 else 4 * P 0 + 2 * P 1 + 6 * P 2
theorem pS_sK {s P : Nat → Int32} {v : Int32} : pS s (wyP P v) = sK P v + (v + 1) * s 0 := by
  show (v + 1) * s 0 + (if v + 1 = 1 then 2 * (P 1 + P 2) else if v + 1 = 2 then 2 * P 0 + 2 * P 1 + 4 * P 2 else 4 * P 0 + 2 * P 1 + 6 * P 2) = _
  unfold sK
  grind
set_option maxRecDepth 100000 in
set_option maxHeartbeats 4000000 in
theorem c2_girth {w : kM} {p : Nat} {P : Nat → Int32} (hp : w p = kO 2 (pF P)) : kCtrR mX2_girth 0 [.ref p] w (.int (pG P)) := by
  refine kCtrR.of pl2 nlX2_girth rfl (Nat.le_of_ble_eq_true rfl) (fun n => ?_)
  refine kw_aload_n (pc := 0) dX2_girth_0 rfl ?_
  refine kw_getfield (pc := 1) kfw dX2_girth_1 fX2_28 hp rfl ?_
  refine kw_iconst (v := 2) (pc := 4) dX2_girth_4 (by decide) ?_
  refine kw_aload_n (pc := 5) dX2_girth_5 rfl ?_
  refine kw_getfield (pc := 6) kfw dX2_girth_6 fX2_31 hp rfl ?_
  refine kw_aload_n (pc := 9) dX2_girth_9 rfl ?_
  refine kw_getfield (pc := 10) kfw dX2_girth_10 fX2_34 hp rfl ?_
  refine kw_iadd (pc := 13) dX2_girth_13 ?_
  refine kw_imul (pc := 14) dX2_girth_14 ?_
  refine kw_iadd (pc := 15) dX2_girth_15 ?_
  exact kw_ireturn nlX2_girth (pc := 16) dX2_girth_16 rfl rfl (by exact ⟨rfl, rfl, rfl⟩)
set_option maxRecDepth 100000 in
set_option maxHeartbeats 4000000 in
theorem c2_sK {w : kM} {p : Nat} {P : Nat → Int32} (hp : w p = kO 2 (pF P)) (v : Int32) : kCtrR mX2_stringWithoutKnots 0 [.ref p, .int v] w (.int (sK P v)) := by
  refine kCtrR.of pl2 nlX2_stringWithoutKnots rfl (Nat.le_of_ble_eq_true rfl) (fun n => ?_)
  refine kw_iload_n (pc := 0) dX2_stringWithoutKnots_0 rfl ?_
  refine kw_if_ne (tgt := 16) (pc := 1) dX2_stringWithoutKnots_1 (by decide) (fun h1 => ?_) (fun h1 => ?_)
  · refine kw_iload_n (pc := 16) dX2_stringWithoutKnots_16 rfl ?_
    refine kw_iconst (v := 1) (pc := 17) dX2_stringWithoutKnots_17 (by decide) ?_
    refine kw_icmp_ne (tgt := 42) (pc := 18) dX2_stringWithoutKnots_18 (by decide) (fun h18 => ?_) (fun h18 => ?_)
    · refine kw_iconst (v := 4) (pc := 42) dX2_stringWithoutKnots_42 (by decide) ?_
      refine kw_aload_n (pc := 43) dX2_stringWithoutKnots_43 rfl ?_
      refine kw_getfield (pc := 44) kfw dX2_stringWithoutKnots_44 fX2_28 hp rfl ?_
      refine kw_imul (pc := 47) dX2_stringWithoutKnots_47 ?_
      refine kw_iconst (v := 2) (pc := 48) dX2_stringWithoutKnots_48 (by decide) ?_
      refine kw_aload_n (pc := 49) dX2_stringWithoutKnots_49 rfl ?_
      refine kw_getfield (pc := 50) kfw dX2_stringWithoutKnots_50 fX2_31 hp rfl ?_
      refine kw_imul (pc := 53) dX2_stringWithoutKnots_53 ?_
      refine kw_iadd (pc := 54) dX2_stringWithoutKnots_54 ?_
      refine kw_bipush (v := 6) (pc := 55) dX2_stringWithoutKnots_55 (by decide) ?_
      refine kw_aload_n (pc := 57) dX2_stringWithoutKnots_57 rfl ?_
      refine kw_getfield (pc := 58) kfw dX2_stringWithoutKnots_58 fX2_34 hp rfl ?_
      refine kw_imul (pc := 61) dX2_stringWithoutKnots_61 ?_
      refine kw_iadd (pc := 62) dX2_stringWithoutKnots_62 ?_
      exact kw_ireturn nlX2_stringWithoutKnots (pc := 63) dX2_stringWithoutKnots_63 rfl rfl ⟨kv_eq (by grind [sK]), rfl, rfl⟩
    · refine kw_iconst (v := 2) (pc := 21) dX2_stringWithoutKnots_21 (by decide) ?_
      refine kw_aload_n (pc := 22) dX2_stringWithoutKnots_22 rfl ?_
      refine kw_getfield (pc := 23) kfw dX2_stringWithoutKnots_23 fX2_28 hp rfl ?_
      refine kw_imul (pc := 26) dX2_stringWithoutKnots_26 ?_
      refine kw_iconst (v := 2) (pc := 27) dX2_stringWithoutKnots_27 (by decide) ?_
      refine kw_aload_n (pc := 28) dX2_stringWithoutKnots_28 rfl ?_
      refine kw_getfield (pc := 29) kfw dX2_stringWithoutKnots_29 fX2_31 hp rfl ?_
      refine kw_imul (pc := 32) dX2_stringWithoutKnots_32 ?_
      refine kw_iadd (pc := 33) dX2_stringWithoutKnots_33 ?_
      refine kw_iconst (v := 4) (pc := 34) dX2_stringWithoutKnots_34 (by decide) ?_
      refine kw_aload_n (pc := 35) dX2_stringWithoutKnots_35 rfl ?_
      refine kw_getfield (pc := 36) kfw dX2_stringWithoutKnots_36 fX2_34 hp rfl ?_
      refine kw_imul (pc := 39) dX2_stringWithoutKnots_39 ?_
      refine kw_iadd (pc := 40) dX2_stringWithoutKnots_40 ?_
      exact kw_ireturn nlX2_stringWithoutKnots (pc := 41) dX2_stringWithoutKnots_41 rfl rfl ⟨kv_eq (by grind [sK]), rfl, rfl⟩
  · refine kw_iconst (v := 2) (pc := 4) dX2_stringWithoutKnots_4 (by decide) ?_
    refine kw_aload_n (pc := 5) dX2_stringWithoutKnots_5 rfl ?_
    refine kw_getfield (pc := 6) kfw dX2_stringWithoutKnots_6 fX2_31 hp rfl ?_
    refine kw_aload_n (pc := 9) dX2_stringWithoutKnots_9 rfl ?_
    refine kw_getfield (pc := 10) kfw dX2_stringWithoutKnots_10 fX2_34 hp rfl ?_
    refine kw_iadd (pc := 13) dX2_stringWithoutKnots_13 ?_
    refine kw_imul (pc := 14) dX2_stringWithoutKnots_14 ?_
    exact kw_ireturn nlX2_stringWithoutKnots (pc := 15) dX2_stringWithoutKnots_15 rfl rfl ⟨kv_eq (by grind [sK]), rfl, rfl⟩
set_option maxRecDepth 100000 in
set_option maxHeartbeats 4000000 in
theorem c1_stringOf {w : kM} {o : Nat} {s : Nat → Int32} {c : Nat} {σ : Nat → Nat} (H : offP w o s c σ) {p : Nat} {P : Nat → Int32} (hp : w p = kO 2 (pF P)) (v : Int32) : kCtrR mX1_stringOf 1 [.ref o, .ref p, .int v] w (.int (pS s (wyP P v))) := by
  refine kCtrR.of pl1 nlX1_stringOf rfl (Nat.le_of_ble_eq_true rfl) (fun n => ?_)
  refine kw_aload_n (pc := 0) dX1_stringOf_0 rfl ?_
  refine kw_iload_n (pc := 1) dX1_stringOf_1 rfl ?_
  refine kw_callVr (pc := 2) dX1_stringOf_2 lX1_91 (c2_sK hp _) hp rfl rfl rfl ⟨by decide, by decide, Nat.le_of_ble_eq_true rfl⟩ ?_
  refine kw_iload_n (pc := 5) dX1_stringOf_5 rfl ?_
  refine kw_iconst (v := 1) (pc := 6) dX1_stringOf_6 (by decide) ?_
  refine kw_iadd (pc := 7) dX1_stringOf_7 ?_
  refine kw_aload_n (pc := 8) dX1_stringOf_8 rfl ?_
  refine kw_getfield (pc := 9) kfw dX1_stringOf_9 fX1_24 H.ob rfl ?_
  refine kw_iconst (v := 0) (pc := 12) dX1_stringOf_12 (by decide) ?_
  refine kw_ialoadT (pc := 13) (i := 0) dX1_stringOf_13 H.se (rfl : (0 : Int32) = nI 0) (by omega) (by decide) ?_
  refine kw_imul (pc := 14) dX1_stringOf_14 ?_
  refine kw_iadd (pc := 15) dX1_stringOf_15 ?_
  exact kw_ireturn nlX1_stringOf (pc := 16) dX1_stringOf_16 rfl rfl ⟨kv_eq pS_sK.symm, rfl, rfl⟩
set_option maxRecDepth 100000 in
set_option maxHeartbeats 4000000 in
theorem c1_isOdd {w : kM} {o : Nat} {s : Nat → Int32} {c : Nat} {σ : Nat → Nat} (H : offP w o s c σ) {p : Nat} {P : Nat → Int32} (hp : w p = kO 2 (pF P)) : kCtrR mX1_isOdd 1 [.ref o, .ref p] w (.int (b2i (s 1 < pG P))) := by
  refine kCtrR.of pl1 nlX1_isOdd rfl (Nat.le_of_ble_eq_true rfl) (fun n => ?_)
  refine kw_aload_n (pc := 0) dX1_isOdd_0 rfl ?_
  refine kw_callVr (pc := 1) dX1_isOdd_1 lX1_94 (c2_girth hp) hp rfl rfl rfl ⟨by decide, by decide, Nat.le_of_ble_eq_true rfl⟩ ?_
  refine kw_aload_n (pc := 4) dX1_isOdd_4 rfl ?_
  refine kw_getfield (pc := 5) kfw dX1_isOdd_5 fX1_24 H.ob rfl ?_
  refine kw_iconst (v := 1) (pc := 8) dX1_isOdd_8 (by decide) ?_
  refine kw_ialoadT (pc := 9) (i := 1) dX1_isOdd_9 H.se (rfl : (1 : Int32) = nI 1) (by omega) (by decide) ?_
  refine kw_icmp_le (tgt := 17) (pc := 10) dX1_isOdd_10 (by decide) (fun h10 => ?_) (fun h10 => ?_)
  · refine kw_iconst (v := 0) (pc := 17) dX1_isOdd_17 (by decide) ?_
    exact kw_ireturn nlX1_isOdd (pc := 18) dX1_isOdd_18 rfl (by first | rfl | exact b2i_z _ | exact hbool) ⟨kv_eq (by grind [b2i]), rfl, rfl⟩
  · refine kw_iconst (v := 1) (pc := 13) dX1_isOdd_13 (by decide) ?_
    refine kw_goto (tgt := 18) (pc := 14) dX1_isOdd_14 (by decide) ?_
    exact kw_ireturn nlX1_isOdd (pc := 18) dX1_isOdd_18 rfl (by first | rfl | exact b2i_z _ | exact hbool) ⟨kv_eq (by grind [b2i]), rfl, rfl⟩
theorem pR_wy {s P : Nat → Int32} {v : Int32} : pR s (wyP P v) = if (30 < P 3 ∧ v = 0) ∨ (60 < P 3 ∧ v = 1) then 1 else if 2 * s 1 < pG P then 2 else if 0 < P 5 ∧ v = 0 then 3 else 0 := rfl
set_option maxRecDepth 100000 in
set_option maxHeartbeats 4000000 in
theorem c1_reason {w : kM} {o : Nat} {s : Nat → Int32} {c : Nat} {σ : Nat → Nat} (H : offP w o s c σ) {p : Nat} {P : Nat → Int32} (hp : w p = kO 2 (pF P)) (v : Int32) : kCtrR mX1_reasonAgainst 1 [.ref o, .ref p, .int v] w (.int (pR s (wyP P v))) := by
  refine kCtrR.of pl1 nlX1_reasonAgainst rfl (Nat.le_of_ble_eq_true rfl) (fun n => ?_)
  refine kw_iload_n (pc := 0) dX1_reasonAgainst_0 rfl ?_
  refine kw_if_ne (tgt := 15) (pc := 1) dX1_reasonAgainst_1 (by decide) (fun h1 => ?_) (fun h1 => ?_)
  · refine kw_iload_n (pc := 15) dX1_reasonAgainst_15 rfl ?_
    refine kw_iconst (v := 1) (pc := 16) dX1_reasonAgainst_16 (by decide) ?_
    refine kw_icmp_ne (tgt := 31) (pc := 17) dX1_reasonAgainst_17 (by decide) (fun h17 => ?_) (fun h17 => ?_)
    · refine kw_aload_n (pc := 31) dX1_reasonAgainst_31 rfl ?_
      refine kw_callVr (pc := 32) dX1_reasonAgainst_32 lX1_94 (c2_girth hp) hp rfl rfl rfl ⟨by decide, by decide, Nat.le_of_ble_eq_true rfl⟩ ?_
      refine kw_iconst (v := 2) (pc := 35) dX1_reasonAgainst_35 (by decide) ?_
      refine kw_aload_n (pc := 36) dX1_reasonAgainst_36 rfl ?_
      refine kw_getfield (pc := 37) kfw dX1_reasonAgainst_37 fX1_24 H.ob rfl ?_
      refine kw_iconst (v := 1) (pc := 40) dX1_reasonAgainst_40 (by decide) ?_
      refine kw_ialoadT (pc := 41) (i := 1) dX1_reasonAgainst_41 H.se (rfl : (1 : Int32) = nI 1) (by omega) (by decide) ?_
      refine kw_imul (pc := 42) dX1_reasonAgainst_42 ?_
      refine kw_icmp_le (tgt := 48) (pc := 43) dX1_reasonAgainst_43 (by decide) (fun h43 => ?_) (fun h43 => ?_)
      · refine kw_iload_n (pc := 48) dX1_reasonAgainst_48 rfl ?_
        refine kw_if_ne (tgt := 63) (pc := 49) dX1_reasonAgainst_49 (by decide) (fun h49 => ?_) (fun h49 => ?_)
        · refine kw_iconst (v := 0) (pc := 63) dX1_reasonAgainst_63 (by decide) ?_
          exact kw_ireturn nlX1_reasonAgainst (pc := 64) dX1_reasonAgainst_64 rfl rfl ⟨kv_eq (pR_wy.trans (by grind)).symm, rfl, rfl⟩
        · refine kw_aload_n (pc := 52) dX1_reasonAgainst_52 rfl ?_
          refine kw_getfield (pc := 53) kfw dX1_reasonAgainst_53 fX1_101 hp rfl ?_
          refine kw_if_le (tgt := 63) (pc := 56) dX1_reasonAgainst_56 (by decide) (fun h56 => ?_) (fun h56 => ?_)
          · refine kw_iconst (v := 0) (pc := 63) dX1_reasonAgainst_63 (by decide) ?_
            exact kw_ireturn nlX1_reasonAgainst (pc := 64) dX1_reasonAgainst_64 rfl rfl ⟨kv_eq (pR_wy.trans (by grind)).symm, rfl, rfl⟩
          · refine kw_iconst (v := 3) (pc := 59) dX1_reasonAgainst_59 (by decide) ?_
            refine kw_goto (tgt := 64) (pc := 60) dX1_reasonAgainst_60 (by decide) ?_
            exact kw_ireturn nlX1_reasonAgainst (pc := 64) dX1_reasonAgainst_64 rfl rfl ⟨kv_eq (pR_wy.trans (by grind)).symm, rfl, rfl⟩
      · refine kw_iconst (v := 2) (pc := 46) dX1_reasonAgainst_46 (by decide) ?_
        exact kw_ireturn nlX1_reasonAgainst (pc := 47) dX1_reasonAgainst_47 rfl rfl ⟨kv_eq (pR_wy.trans (by grind)).symm, rfl, rfl⟩
    · refine kw_aload_n (pc := 20) dX1_reasonAgainst_20 rfl ?_
      refine kw_getfield (pc := 21) kfw dX1_reasonAgainst_21 fX1_98 hp rfl ?_
      refine kw_bipush (v := 60) (pc := 24) dX1_reasonAgainst_24 (by decide) ?_
      refine kw_icmp_le (tgt := 31) (pc := 26) dX1_reasonAgainst_26 (by decide) (fun h26 => ?_) (fun h26 => ?_)
      · refine kw_aload_n (pc := 31) dX1_reasonAgainst_31 rfl ?_
        refine kw_callVr (pc := 32) dX1_reasonAgainst_32 lX1_94 (c2_girth hp) hp rfl rfl rfl ⟨by decide, by decide, Nat.le_of_ble_eq_true rfl⟩ ?_
        refine kw_iconst (v := 2) (pc := 35) dX1_reasonAgainst_35 (by decide) ?_
        refine kw_aload_n (pc := 36) dX1_reasonAgainst_36 rfl ?_
        refine kw_getfield (pc := 37) kfw dX1_reasonAgainst_37 fX1_24 H.ob rfl ?_
        refine kw_iconst (v := 1) (pc := 40) dX1_reasonAgainst_40 (by decide) ?_
        refine kw_ialoadT (pc := 41) (i := 1) dX1_reasonAgainst_41 H.se (rfl : (1 : Int32) = nI 1) (by omega) (by decide) ?_
        refine kw_imul (pc := 42) dX1_reasonAgainst_42 ?_
        refine kw_icmp_le (tgt := 48) (pc := 43) dX1_reasonAgainst_43 (by decide) (fun h43 => ?_) (fun h43 => ?_)
        · refine kw_iload_n (pc := 48) dX1_reasonAgainst_48 rfl ?_
          refine kw_if_ne (tgt := 63) (pc := 49) dX1_reasonAgainst_49 (by decide) (fun h49 => ?_) (fun h49 => ?_)
          · refine kw_iconst (v := 0) (pc := 63) dX1_reasonAgainst_63 (by decide) ?_
            exact kw_ireturn nlX1_reasonAgainst (pc := 64) dX1_reasonAgainst_64 rfl rfl ⟨kv_eq (pR_wy.trans (by grind)).symm, rfl, rfl⟩
          · refine kw_aload_n (pc := 52) dX1_reasonAgainst_52 rfl ?_
            refine kw_getfield (pc := 53) kfw dX1_reasonAgainst_53 fX1_101 hp rfl ?_
            refine kw_if_le (tgt := 63) (pc := 56) dX1_reasonAgainst_56 (by decide) (fun h56 => ?_) (fun h56 => ?_)
            · refine kw_iconst (v := 0) (pc := 63) dX1_reasonAgainst_63 (by decide) ?_
              exact kw_ireturn nlX1_reasonAgainst (pc := 64) dX1_reasonAgainst_64 rfl rfl ⟨kv_eq (pR_wy.trans (by grind)).symm, rfl, rfl⟩
            · refine kw_iconst (v := 3) (pc := 59) dX1_reasonAgainst_59 (by decide) ?_
              refine kw_goto (tgt := 64) (pc := 60) dX1_reasonAgainst_60 (by decide) ?_
              exact kw_ireturn nlX1_reasonAgainst (pc := 64) dX1_reasonAgainst_64 rfl rfl ⟨kv_eq (pR_wy.trans (by grind)).symm, rfl, rfl⟩
        · refine kw_iconst (v := 2) (pc := 46) dX1_reasonAgainst_46 (by decide) ?_
          exact kw_ireturn nlX1_reasonAgainst (pc := 47) dX1_reasonAgainst_47 rfl rfl ⟨kv_eq (pR_wy.trans (by grind)).symm, rfl, rfl⟩
      · refine kw_iconst (v := 1) (pc := 29) dX1_reasonAgainst_29 (by decide) ?_
        exact kw_ireturn nlX1_reasonAgainst (pc := 30) dX1_reasonAgainst_30 rfl rfl ⟨kv_eq (pR_wy.trans (by grind)).symm, rfl, rfl⟩
  · refine kw_aload_n (pc := 4) dX1_reasonAgainst_4 rfl ?_
    refine kw_getfield (pc := 5) kfw dX1_reasonAgainst_5 fX1_98 hp rfl ?_
    refine kw_bipush (v := 30) (pc := 8) dX1_reasonAgainst_8 (by decide) ?_
    refine kw_icmp_le (tgt := 15) (pc := 10) dX1_reasonAgainst_10 (by decide) (fun h10 => ?_) (fun h10 => ?_)
    · refine kw_iload_n (pc := 15) dX1_reasonAgainst_15 rfl ?_
      refine kw_iconst (v := 1) (pc := 16) dX1_reasonAgainst_16 (by decide) ?_
      refine kw_icmp_ne (tgt := 31) (pc := 17) dX1_reasonAgainst_17 (by decide) (fun h17 => ?_) (fun h17 => ?_)
      · refine kw_aload_n (pc := 31) dX1_reasonAgainst_31 rfl ?_
        refine kw_callVr (pc := 32) dX1_reasonAgainst_32 lX1_94 (c2_girth hp) hp rfl rfl rfl ⟨by decide, by decide, Nat.le_of_ble_eq_true rfl⟩ ?_
        refine kw_iconst (v := 2) (pc := 35) dX1_reasonAgainst_35 (by decide) ?_
        refine kw_aload_n (pc := 36) dX1_reasonAgainst_36 rfl ?_
        refine kw_getfield (pc := 37) kfw dX1_reasonAgainst_37 fX1_24 H.ob rfl ?_
        refine kw_iconst (v := 1) (pc := 40) dX1_reasonAgainst_40 (by decide) ?_
        refine kw_ialoadT (pc := 41) (i := 1) dX1_reasonAgainst_41 H.se (rfl : (1 : Int32) = nI 1) (by omega) (by decide) ?_
        refine kw_imul (pc := 42) dX1_reasonAgainst_42 ?_
        refine kw_icmp_le (tgt := 48) (pc := 43) dX1_reasonAgainst_43 (by decide) (fun h43 => ?_) (fun h43 => ?_)
        · refine kw_iload_n (pc := 48) dX1_reasonAgainst_48 rfl ?_
          refine kw_if_ne (tgt := 63) (pc := 49) dX1_reasonAgainst_49 (by decide) (fun h49 => ?_) (fun h49 => ?_)
          · refine kw_iconst (v := 0) (pc := 63) dX1_reasonAgainst_63 (by decide) ?_
            exact kw_ireturn nlX1_reasonAgainst (pc := 64) dX1_reasonAgainst_64 rfl rfl ⟨kv_eq (pR_wy.trans (by grind)).symm, rfl, rfl⟩
          · refine kw_aload_n (pc := 52) dX1_reasonAgainst_52 rfl ?_
            refine kw_getfield (pc := 53) kfw dX1_reasonAgainst_53 fX1_101 hp rfl ?_
            refine kw_if_le (tgt := 63) (pc := 56) dX1_reasonAgainst_56 (by decide) (fun h56 => ?_) (fun h56 => ?_)
            · refine kw_iconst (v := 0) (pc := 63) dX1_reasonAgainst_63 (by decide) ?_
              exact kw_ireturn nlX1_reasonAgainst (pc := 64) dX1_reasonAgainst_64 rfl rfl ⟨kv_eq (pR_wy.trans (by grind)).symm, rfl, rfl⟩
            · refine kw_iconst (v := 3) (pc := 59) dX1_reasonAgainst_59 (by decide) ?_
              refine kw_goto (tgt := 64) (pc := 60) dX1_reasonAgainst_60 (by decide) ?_
              exact kw_ireturn nlX1_reasonAgainst (pc := 64) dX1_reasonAgainst_64 rfl rfl ⟨kv_eq (pR_wy.trans (by grind)).symm, rfl, rfl⟩
        · refine kw_iconst (v := 2) (pc := 46) dX1_reasonAgainst_46 (by decide) ?_
          exact kw_ireturn nlX1_reasonAgainst (pc := 47) dX1_reasonAgainst_47 rfl rfl ⟨kv_eq (pR_wy.trans (by grind)).symm, rfl, rfl⟩
      · refine kw_aload_n (pc := 20) dX1_reasonAgainst_20 rfl ?_
        refine kw_getfield (pc := 21) kfw dX1_reasonAgainst_21 fX1_98 hp rfl ?_
        refine kw_bipush (v := 60) (pc := 24) dX1_reasonAgainst_24 (by decide) ?_
        refine kw_icmp_le (tgt := 31) (pc := 26) dX1_reasonAgainst_26 (by decide) (fun h26 => ?_) (fun h26 => ?_)
        · refine kw_aload_n (pc := 31) dX1_reasonAgainst_31 rfl ?_
          refine kw_callVr (pc := 32) dX1_reasonAgainst_32 lX1_94 (c2_girth hp) hp rfl rfl rfl ⟨by decide, by decide, Nat.le_of_ble_eq_true rfl⟩ ?_
          refine kw_iconst (v := 2) (pc := 35) dX1_reasonAgainst_35 (by decide) ?_
          refine kw_aload_n (pc := 36) dX1_reasonAgainst_36 rfl ?_
          refine kw_getfield (pc := 37) kfw dX1_reasonAgainst_37 fX1_24 H.ob rfl ?_
          refine kw_iconst (v := 1) (pc := 40) dX1_reasonAgainst_40 (by decide) ?_
          refine kw_ialoadT (pc := 41) (i := 1) dX1_reasonAgainst_41 H.se (rfl : (1 : Int32) = nI 1) (by omega) (by decide) ?_
          refine kw_imul (pc := 42) dX1_reasonAgainst_42 ?_
          refine kw_icmp_le (tgt := 48) (pc := 43) dX1_reasonAgainst_43 (by decide) (fun h43 => ?_) (fun h43 => ?_)
          · refine kw_iload_n (pc := 48) dX1_reasonAgainst_48 rfl ?_
            refine kw_if_ne (tgt := 63) (pc := 49) dX1_reasonAgainst_49 (by decide) (fun h49 => ?_) (fun h49 => ?_)
            · refine kw_iconst (v := 0) (pc := 63) dX1_reasonAgainst_63 (by decide) ?_
              exact kw_ireturn nlX1_reasonAgainst (pc := 64) dX1_reasonAgainst_64 rfl rfl ⟨kv_eq (pR_wy.trans (by grind)).symm, rfl, rfl⟩
            · refine kw_aload_n (pc := 52) dX1_reasonAgainst_52 rfl ?_
              refine kw_getfield (pc := 53) kfw dX1_reasonAgainst_53 fX1_101 hp rfl ?_
              refine kw_if_le (tgt := 63) (pc := 56) dX1_reasonAgainst_56 (by decide) (fun h56 => ?_) (fun h56 => ?_)
              · refine kw_iconst (v := 0) (pc := 63) dX1_reasonAgainst_63 (by decide) ?_
                exact kw_ireturn nlX1_reasonAgainst (pc := 64) dX1_reasonAgainst_64 rfl rfl ⟨kv_eq (pR_wy.trans (by grind)).symm, rfl, rfl⟩
              · refine kw_iconst (v := 3) (pc := 59) dX1_reasonAgainst_59 (by decide) ?_
                refine kw_goto (tgt := 64) (pc := 60) dX1_reasonAgainst_60 (by decide) ?_
                exact kw_ireturn nlX1_reasonAgainst (pc := 64) dX1_reasonAgainst_64 rfl rfl ⟨kv_eq (pR_wy.trans (by grind)).symm, rfl, rfl⟩
          · refine kw_iconst (v := 2) (pc := 46) dX1_reasonAgainst_46 (by decide) ?_
            exact kw_ireturn nlX1_reasonAgainst (pc := 47) dX1_reasonAgainst_47 rfl rfl ⟨kv_eq (pR_wy.trans (by grind)).symm, rfl, rfl⟩
        · refine kw_iconst (v := 1) (pc := 29) dX1_reasonAgainst_29 (by decide) ?_
          exact kw_ireturn nlX1_reasonAgainst (pc := 30) dX1_reasonAgainst_30 rfl rfl ⟨kv_eq (pR_wy.trans (by grind)).symm, rfl, rfl⟩
    · refine kw_iconst (v := 1) (pc := 13) dX1_reasonAgainst_13 (by decide) ?_
      exact kw_ireturn nlX1_reasonAgainst (pc := 14) dX1_reasonAgainst_14 rfl rfl ⟨kv_eq (pR_wy.trans (by grind)).symm, rfl, rfl⟩
set_option maxRecDepth 100000 in
set_option maxHeartbeats 4000000 in
theorem c1_isTaken {w : kM} {o : Nat} {s : Nat → Int32} {c : Nat} {σ : Nat → Nat} (H : offP w o s c σ) {p : Nat} {P : Nat → Int32} (hp : w p = kO 2 (pF P)) : kCtrR mX1_isTaken 2 [.ref o, .ref p] w (.int (b2i (pR s P = 0))) := by
  refine kCtrR.of pl1 nlX1_isTaken rfl (Nat.le_of_ble_eq_true rfl) (fun n => ?_)
  refine kw_aload_n (pc := 0) dX1_isTaken_0 rfl ?_
  refine kw_aload_n (pc := 1) dX1_isTaken_1 rfl ?_
  refine kw_aload_n (pc := 2) dX1_isTaken_2 rfl ?_
  refine kw_getfield (pc := 3) kfw dX1_isTaken_3 fX1_64 hp rfl ?_
  refine kw_callVr (pc := 6) dX1_isTaken_6 lX1_67 (c1_reason H hp _) H.ob rfl rfl rfl ⟨by decide, by decide, Nat.le_of_ble_eq_true rfl⟩ ?_
  refine kw_if_ne (tgt := 16) (pc := 9) dX1_isTaken_9 (by decide) (fun h9 => ?_) (fun h9 => ?_)
  · refine kw_iconst (v := 0) (pc := 16) dX1_isTaken_16 (by decide) ?_
    exact kw_ireturn nlX1_isTaken (pc := 17) dX1_isTaken_17 rfl (by first | rfl | exact b2i_z _ | exact hbool) ⟨kv_eq (by rw [wyP_self] at *; grind [b2i]), rfl, rfl⟩
  · refine kw_iconst (v := 1) (pc := 12) dX1_isTaken_12 (by decide) ?_
    refine kw_goto (tgt := 17) (pc := 13) dX1_isTaken_13 (by decide) ?_
    exact kw_ireturn nlX1_isTaken (pc := 17) dX1_isTaken_17 rfl (by first | rfl | exact b2i_z _ | exact hbool) ⟨kv_eq (by rw [wyP_self] at *; grind [b2i]), rfl, rfl⟩
theorem band_0 {z : Int32} {K : Nat} (hb : bnd z = nI K) (hK : K < 12) (h : ¬ 600 < z) : (z - 1) / 50 = nI K := by
  unfold bnd at hb
  rw [if_neg h] at hb
  exact hb
theorem band_a {z : Int32} {K : Nat} (hb : bnd z = nI K) (hK : K < 12) (h : ¬ 0 ≤ (z - 1) / 50) : (0 : Int32) = nI K := by
  by_cases h6 : 600 < z
  · exact absurd (Int32.not_lt.mp (bnd_big h6).1) h
  · rw [band_0 hb hK h6] at h
    exact absurd (nI_pos' (by omega)) h
theorem band_b {z : Int32} {K : Nat} (hb : bnd z = nI K) (hK : K < 12) (h : 0 ≤ (z - 1) / 50) (h2 : 12 ≤ (z - 1) / 50) : (11 : Int32) = nI K := by
  by_cases h6 : 600 < z
  · unfold bnd at hb
    rw [if_pos h6] at hb
    exact hb
  · rw [band_0 hb hK h6] at h2
    exfalso
    rw [Int32.le_iff_toInt_le, nI_toInt (by omega)] at h2
    have z2 : (12 : Int32).toInt = 12 := by decide
    rw [z2] at h2
    omega
theorem band_c {z : Int32} {K : Nat} (hb : bnd z = nI K) (hK : K < 12) (h : 0 ≤ (z - 1) / 50) (h2 : ¬ 12 ≤ (z - 1) / 50) : (z - 1) / 50 = nI K := by
  by_cases h6 : 600 < z
  · exact absurd (Int32.not_lt.mp (bnd_big h6).2) h2
  · exact band_0 hb hK h6
set_option maxRecDepth 100000 in
set_option maxHeartbeats 4000000 in
theorem c1_bandOf {w : kM} {z : Int32} {K : Nat} (hb : bnd z = nI K) (hK : K < 12) : kCtrR mX1_bandOf 0 [.int z] w (.int (nI K)) := by
  refine kCtrR.of pl1 nlX1_bandOf rfl (Nat.le_of_ble_eq_true rfl) (fun n => ?_)
  refine kw_iload_n (pc := 0) dX1_bandOf_0 rfl ?_
  refine kw_iconst (v := 1) (pc := 1) dX1_bandOf_1 (by decide) ?_
  refine kw_isub (pc := 2) dX1_bandOf_2 ?_
  refine kw_bipush (v := 50) (pc := 3) dX1_bandOf_3 (by decide) ?_
  refine kw_idiv (pc := 5) dX1_bandOf_5 (by decide) ?_
  refine kw_istore_n (pc := 6) dX1_bandOf_6 (by decide) rfl ?_
  refine kw_iload_n (pc := 7) dX1_bandOf_7 rfl ?_
  refine kw_if_ge (tgt := 13) (pc := 8) dX1_bandOf_8 (by decide) (fun h8 => ?_) (fun h8 => ?_)
  · refine kw_iload_n (pc := 13) dX1_bandOf_13 rfl ?_
    refine kw_bipush (v := 12) (pc := 14) dX1_bandOf_14 (by decide) ?_
    refine kw_icmp_ge (tgt := 23) (pc := 16) dX1_bandOf_16 (by decide) (fun h16 => ?_) (fun h16 => ?_)
    · refine kw_bipush (v := 11) (pc := 23) dX1_bandOf_23 (by decide) ?_
      exact kw_ireturn nlX1_bandOf (pc := 25) dX1_bandOf_25 rfl rfl ⟨kv_eq (by first | exact band_b hb hK h8 h16 | exact band_c hb hK h8 h16), rfl, rfl⟩
    · refine kw_iload_n (pc := 19) dX1_bandOf_19 rfl ?_
      refine kw_goto (tgt := 25) (pc := 20) dX1_bandOf_20 (by decide) ?_
      exact kw_ireturn nlX1_bandOf (pc := 25) dX1_bandOf_25 rfl rfl ⟨kv_eq (by first | exact band_b hb hK h8 h16 | exact band_c hb hK h8 h16), rfl, rfl⟩
  · refine kw_iconst (v := 0) (pc := 11) dX1_bandOf_11 (by decide) ?_
    exact kw_ireturn nlX1_bandOf (pc := 12) dX1_bandOf_12 rfl rfl ⟨kv_eq (band_a hb hK h8), rfl, rfl⟩
set_option maxRecDepth 100000 in
set_option maxHeartbeats 4000000 in
theorem c1_rateUp {w : kM} {o : Nat} {s : Nat → Int32} {c : Nat} {σ : Nat → Nat} (H : offP w o s c σ) {z : Int32} {K : Nat} (hb : bnd z = nI K) (hK : K < 12) : kCtrR mX1_rateUpwards 1 [.ref o, .int z] w (.int (rM s (K + 1))) := by
  refine kCtrR.of pl1 nlX1_rateUpwards rfl (Nat.le_of_ble_eq_true rfl) (fun n => ?_)
  have loop : ∀ (m : Nat) (k : Nat), m = K + 1 - k → k ≤ K + 1 → kW (0, fun _ => 0) mX1_rateUpwards 1 (fun o' w' n' => o' = .inl (some (.int (rM s (K + 1)))) ∧ w' = w ∧ n' = n) 0 0 n w 10 [(0, .ref o), (1, .int z), (2, .int (nI K)), (3, .int (rM s k)), (4, .int (nI k))] [] := by
    intro m
    induction m using Nat.strongRecOn with
    | _ m ih =>
      intro k hm hk
      refine kw_iload (pc := 10) dX1_rateUpwards_10 rfl ?_
      refine kw_iload_n (pc := 12) dX1_rateUpwards_12 rfl ?_
      refine kw_icmp_gt (tgt := 44) (pc := 13) dX1_rateUpwards_13 (by decide) (fun h13 => ?_) (fun h13 => ?_)
      · have h13 := (kLtI (a := K) (b := k) (by omega) (by omega) rfl rfl).mp h13
        refine kw_iload_n (pc := 44) dX1_rateUpwards_44 rfl ?_
        exact kw_ireturn nlX1_rateUpwards (pc := 45) dX1_rateUpwards_45 rfl rfl ⟨kv_eq (by rw [show k = K + 1 by omega]), rfl, rfl⟩
      · have h13 := mt (kLtI (a := K) (b := k) (by omega) (by omega) rfl rfl).mpr h13
        refine kw_iload (pc := 16) dX1_rateUpwards_16 rfl ?_
        refine kw_aload_n (pc := 18) dX1_rateUpwards_18 rfl ?_
        refine kw_getfield (pc := 19) kfw dX1_rateUpwards_19 fX1_17 H.ob rfl ?_
        refine kw_alenI (pc := 22) (v := 12) dX1_rateUpwards_22 H.pr rfl ?_
        refine kw_icmp_ge (tgt := 44) (pc := 23) dX1_rateUpwards_23 (by decide) (fun h23 => ?_) (fun h23 => ?_)
        · have h23 := (kLeI (a := 12) (b := k) (by omega) (by omega) (rfl : (12 : Int32) = nI 12) rfl).mp h23
          exfalso; omega
        · have h23 := mt (kLeI (a := 12) (b := k) (by omega) (by omega) (rfl : (12 : Int32) = nI 12) rfl).mpr h23
          refine kw_iload_n (pc := 26) dX1_rateUpwards_26 rfl ?_
          refine kw_aload_n (pc := 27) dX1_rateUpwards_27 rfl ?_
          refine kw_getfield (pc := 28) kfw dX1_rateUpwards_28 fX1_17 H.ob rfl ?_
          refine kw_iload (pc := 31) dX1_rateUpwards_31 rfl ?_
          refine kw_ialoadT (pc := 33) (i := k) dX1_rateUpwards_33 H.pr rfl (by omega) (by decide) ?_
          refine kw_mmax (pc := 34) dX1_rateUpwards_34 lX1_117 (by decide) (by decide) ?_
          refine kw_istore_n (pc := 37) dX1_rateUpwards_37 (by decide) rfl ?_
          refine kw_iinc (pc := 38) dX1_rateUpwards_38 (by decide) rfl rfl rfl ?_
          refine kw_goto (tgt := 10) (pc := 41) dX1_rateUpwards_41 (by decide) ?_
          exact kW.locs (ih (K + 1 - (k + 1)) (by omega) (k + 1) rfl (by omega)) ⟨rfl, rfl, rfl, kgE rfl rfl, kgE rfl (kA (a := k) (b := 1) rfl (rfl : (Int32.ofInt 1) = nI 1)), trivial⟩
  refine kw_iload_n (pc := 0) dX1_rateUpwards_0 rfl ?_
  refine kw_callSr (pc := 1) dX1_rateUpwards_1 lX1_114 (c1_bandOf hb hK) rfl rfl ⟨by decide, by decide, Nat.le_of_ble_eq_true rfl⟩ ?_
  refine kw_istore_n (pc := 4) dX1_rateUpwards_4 (by decide) rfl ?_
  refine kw_iconst (v := 0) (pc := 5) dX1_rateUpwards_5 (by decide) ?_
  refine kw_istore_n (pc := 6) dX1_rateUpwards_6 (by decide) rfl ?_
  refine kw_iconst (v := 0) (pc := 7) dX1_rateUpwards_7 (by decide) ?_
  refine kw_istore (pc := 8) dX1_rateUpwards_8 (by decide) rfl ?_
  exact kW.locs (loop (K + 1 - 0) 0 rfl (by omega)) ⟨rfl, rfl, rfl, rfl, rfl, trivial⟩
set_option maxRecDepth 100000 in
set_option maxHeartbeats 4000000 in
theorem c1_rateDown {w : kM} {o : Nat} {s : Nat → Int32} {c : Nat} {σ : Nat → Nat} (H : offP w o s c σ) {z : Int32} {K : Nat} (hb : bnd z = nI K) (hK : K < 12) : kCtrR mX1_rateDownwards 1 [.ref o, .int z] w (.int (s (4 + rDn s K K))) := by
  refine kCtrR.of pl1 nlX1_rateDownwards rfl (Nat.le_of_ble_eq_true rfl) (fun n => ?_)
  have loop : ∀ (j b : Nat), b < 12 → j ≤ 12 → rDn s j b = rDn s K K → kW (0, fun _ => 0) mX1_rateDownwards 1 (fun o' w' n' => o' = .inl (some (.int (s (4 + rDn s K K)))) ∧ w' = w ∧ n' = n) 0 0 n w 12 [(0, .ref o), (1, .int z), (2, .int (nI K)), (3, .int (nI b)), (4, .int (nI j - 1))] [] := by
    intro j
    induction j with
    | zero =>
      intro b hb1 hj hr
      refine kw_iload (pc := 12) dX1_rateDownwards_12 rfl ?_
      refine kw_if_lt (tgt := 42) (pc := 14) dX1_rateDownwards_14 (by decide) (fun h14 => ?_) (fun h14 => ?_)
      · refine kw_aload_n (pc := 42) dX1_rateDownwards_42 rfl ?_
        refine kw_getfield (pc := 43) kfw dX1_rateDownwards_43 fX1_17 H.ob rfl ?_
        refine kw_iload_n (pc := 46) dX1_rateDownwards_46 rfl ?_
        refine kw_ialoadT (pc := 47) (i := b) dX1_rateDownwards_47 H.pr rfl (by omega) (by decide) ?_
        exact kw_ireturn nlX1_rateDownwards (pc := 48) dX1_rateDownwards_48 rfl rfl ⟨by rw [← hr]; rfl, rfl, rfl⟩
      · exact absurd (by decide) h14
    | succ j ih =>
      intro b hb1 hj hr
      refine kW.locs (L' := [(0, .ref o), (1, .int z), (2, .int (nI K)), (3, .int (nI b)), (4, .int (nI j))]) ?_ ⟨rfl, rfl, rfl, rfl, kgE rfl (nI_pred j), trivial⟩
      refine kw_iload (pc := 12) dX1_rateDownwards_12 rfl ?_
      refine kw_if_lt (tgt := 42) (pc := 14) dX1_rateDownwards_14 (by decide) (fun h14 => ?_) (fun h14 => ?_)
      · have h14 := (kLtI (a := j) (b := 0) (by omega) (by omega) rfl (rfl : (0 : Int32) = nI 0)).mp h14
        exfalso; omega
      · have h14 := mt (kLtI (a := j) (b := 0) (by omega) (by omega) rfl (rfl : (0 : Int32) = nI 0)).mpr h14
        refine kw_aload_n (pc := 17) dX1_rateDownwards_17 rfl ?_
        refine kw_getfield (pc := 18) kfw dX1_rateDownwards_18 fX1_17 H.ob rfl ?_
        refine kw_iload (pc := 21) dX1_rateDownwards_21 rfl ?_
        refine kw_ialoadT (pc := 23) (i := j) dX1_rateDownwards_23 H.pr rfl (by omega) (by decide) ?_
        refine kw_aload_n (pc := 24) dX1_rateDownwards_24 rfl ?_
        refine kw_getfield (pc := 25) kfw dX1_rateDownwards_25 fX1_17 H.ob rfl ?_
        refine kw_iload_n (pc := 28) dX1_rateDownwards_28 rfl ?_
        refine kw_ialoadT (pc := 29) (i := b) dX1_rateDownwards_29 H.pr rfl (by omega) (by decide) ?_
        refine kw_icmp_le (tgt := 36) (pc := 30) dX1_rateDownwards_30 (by decide) (fun h30 => ?_) (fun h30 => ?_)
        · refine kw_iinc (pc := 36) dX1_rateDownwards_36 (by decide) rfl rfl rfl ?_
          refine kw_goto (tgt := 12) (pc := 39) dX1_rateDownwards_39 (by decide) ?_
          exact kW.locs (ih b (by omega) (by omega) (by rw [← hr]; grind [rDn])) ⟨rfl, rfl, rfl, rfl, kgE rfl (by rw [Int32.sub_eq_add_neg]; rfl), trivial⟩
        · refine kw_iload (pc := 33) dX1_rateDownwards_33 rfl ?_
          refine kw_istore_n (pc := 35) dX1_rateDownwards_35 (by decide) rfl ?_
          refine kw_iinc (pc := 36) dX1_rateDownwards_36 (by decide) rfl rfl rfl ?_
          refine kw_goto (tgt := 12) (pc := 39) dX1_rateDownwards_39 (by decide) ?_
          exact kW.locs (ih j (by omega) (by omega) (by rw [← hr]; grind [rDn])) ⟨rfl, rfl, rfl, rfl, kgE rfl (by rw [Int32.sub_eq_add_neg]; rfl), trivial⟩
  refine kw_iload_n (pc := 0) dX1_rateDownwards_0 rfl ?_
  refine kw_callSr (pc := 1) dX1_rateDownwards_1 lX1_114 (c1_bandOf hb hK) rfl rfl ⟨by decide, by decide, Nat.le_of_ble_eq_true rfl⟩ ?_
  refine kw_istore_n (pc := 4) dX1_rateDownwards_4 (by decide) rfl ?_
  refine kw_iload_n (pc := 5) dX1_rateDownwards_5 rfl ?_
  refine kw_istore_n (pc := 6) dX1_rateDownwards_6 (by decide) rfl ?_
  refine kw_iload_n (pc := 7) dX1_rateDownwards_7 rfl ?_
  refine kw_iconst (v := 1) (pc := 8) dX1_rateDownwards_8 (by decide) ?_
  refine kw_isub (pc := 9) dX1_rateDownwards_9 ?_
  refine kw_istore (pc := 10) dX1_rateDownwards_10 (by decide) rfl ?_
  exact kW.locs (loop K K hK (by omega) rfl) ⟨rfl, rfl, rfl, rfl, rfl, trivial⟩
set_option maxRecDepth 100000 in
set_option maxHeartbeats 4000000 in
theorem c1_postage {w : kM} {o : Nat} {s : Nat → Int32} {c : Nat} {σ : Nat → Nat} (H : offP w o s c σ) {p : Nat} {P : Nat → Int32} (hp : w p = kO 2 (pF P)) {z : Int32} (h4 : fineZ P) (h5 : fineB z) : kCtrR mX1_postageFor 2 [.ref o, .ref p, .int z] w (.int (pW s P z)) := by
  refine kCtrR.of pl1 nlX1_postageFor rfl (Nat.le_of_ble_eq_true rfl) (fun n => ?_)
  obtain ⟨zz, hzz, hz⟩ := h4
  obtain ⟨K, hK, hb⟩ := h5
  refine kw_aload_n (pc := 0) dX1_postageFor_0 rfl ?_
  refine kw_iload_n (pc := 1) dX1_postageFor_1 rfl ?_
  refine kw_callVr (pc := 2) dX1_postageFor_2 lX1_104 (c1_rateUp H hb hK) H.ob rfl rfl rfl ⟨by decide, by decide, Nat.le_of_ble_eq_true rfl⟩ ?_
  refine kw_aload_n (pc := 5) dX1_postageFor_5 rfl ?_
  refine kw_getfield (pc := 6) kfw dX1_postageFor_6 fX1_21 H.ob rfl ?_
  refine kw_aload_n (pc := 9) dX1_postageFor_9 rfl ?_
  refine kw_getfield (pc := 10) kfw dX1_postageFor_10 fX1_107 hp rfl ?_
  refine kw_ialoadT (pc := 13) (i := zz) dX1_postageFor_13 H.fa hz (by omega) (by decide) ?_
  refine kw_imul (pc := 14) dX1_postageFor_14 ?_
  refine kw_istore_n (pc := 15) dX1_postageFor_15 (by decide) rfl ?_
  refine kw_aload_n (pc := 16) dX1_postageFor_16 rfl ?_
  refine kw_aload_n (pc := 17) dX1_postageFor_17 rfl ?_
  refine kw_callVr (pc := 18) dX1_postageFor_18 lX1_110 (c1_isOdd H hp) H.ob rfl rfl rfl ⟨by decide, by decide, Nat.le_of_ble_eq_true rfl⟩ ?_
  refine kw_if_eq (tgt := 30) (pc := 21) dX1_postageFor_21 (by decide) (fun h21 => ?_) (fun h21 => ?_)
  · refine kw_iconst (v := 0) (pc := 30) dX1_postageFor_30 (by decide) ?_
    refine kw_istore (pc := 31) dX1_postageFor_31 (by decide) rfl ?_
    refine kw_iload_n (pc := 33) dX1_postageFor_33 rfl ?_
    refine kw_iload (pc := 34) dX1_postageFor_34 rfl ?_
    refine kw_iadd (pc := 36) dX1_postageFor_36 ?_
    refine kw_aload_n (pc := 37) dX1_postageFor_37 rfl ?_
    refine kw_getfield (pc := 38) kfw dX1_postageFor_38 fX1_24 H.ob rfl ?_
    refine kw_iconst (v := 2) (pc := 41) dX1_postageFor_41 (by decide) ?_
    refine kw_ialoadT (pc := 42) (i := 2) dX1_postageFor_42 H.se (rfl : (2 : Int32) = nI 2) (by omega) (by decide) ?_
    refine kw_aload_n (pc := 43) dX1_postageFor_43 rfl ?_
    refine kw_getfield (pc := 44) kfw dX1_postageFor_44 fX1_101 hp rfl ?_
    refine kw_imul (pc := 47) dX1_postageFor_47 ?_
    refine kw_iadd (pc := 48) dX1_postageFor_48 ?_
    exact kw_ireturn nlX1_postageFor (pc := 49) dX1_postageFor_49 rfl rfl ⟨kv_eq (by rw [pW_of hb hK hz hzz]; grind [b2i]), rfl, rfl⟩
  · refine kw_iload_n (pc := 24) dX1_postageFor_24 rfl ?_
    refine kw_iconst (v := 2) (pc := 25) dX1_postageFor_25 (by decide) ?_
    refine kw_idiv (pc := 26) dX1_postageFor_26 (by decide) ?_
    refine kw_goto (tgt := 31) (pc := 27) dX1_postageFor_27 (by decide) ?_
    refine kw_istore (pc := 31) dX1_postageFor_31 (by decide) rfl ?_
    refine kw_iload_n (pc := 33) dX1_postageFor_33 rfl ?_
    refine kw_iload (pc := 34) dX1_postageFor_34 rfl ?_
    refine kw_iadd (pc := 36) dX1_postageFor_36 ?_
    refine kw_aload_n (pc := 37) dX1_postageFor_37 rfl ?_
    refine kw_getfield (pc := 38) kfw dX1_postageFor_38 fX1_24 H.ob rfl ?_
    refine kw_iconst (v := 2) (pc := 41) dX1_postageFor_41 (by decide) ?_
    refine kw_ialoadT (pc := 42) (i := 2) dX1_postageFor_42 H.se (rfl : (2 : Int32) = nI 2) (by omega) (by decide) ?_
    refine kw_aload_n (pc := 43) dX1_postageFor_43 rfl ?_
    refine kw_getfield (pc := 44) kfw dX1_postageFor_44 fX1_101 hp rfl ?_
    refine kw_imul (pc := 47) dX1_postageFor_47 ?_
    refine kw_iadd (pc := 48) dX1_postageFor_48 ?_
    exact kw_ireturn nlX1_postageFor (pc := 49) dX1_postageFor_49 rfl rfl ⟨kv_eq (by rw [pW_of hb hK hz hzz]; grind [b2i]), rfl, rfl⟩
