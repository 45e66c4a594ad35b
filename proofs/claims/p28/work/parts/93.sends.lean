section SD
variable {m c : Nat} {s0 : Nat → Int32} {w : kM}
theorem K.dispTE (h : K m s0 c w) {k z Z x3 : Nat} {zz : Int32} (hzz : zz = nI z) (hk : k < c) (ht : pR s0 (pa s0 (21 + 7 * k)) = 0) (hZ : pS s0 (pa s0 (21 + 7 * k)) = nI Z) (hz : 1 ≤ z ∧ z ≤ 999) (hZ9 : Z ≤ 999) (h3 : s0 3 = nI x3) (hx3 : x3 ≤ 50) (hA : (if Z ≤ z then z - Z else Z - z) ≤ x3) : kCtrW mL_dispute 12 [.ref 0, .int (nI k), .int zz] w (some (.int (10 + pW s0 (pa s0 (21 + 7 * k)) (nI z)))) (fun w' => ∃ s1, Dn m s0 c s1 (c - 1) w' ∧ s1 3 = s0 3) := by
  subst hzz
  exact h.dispT hk ht hZ hz hZ9 h3 hx3 hA
theorem K.dispRE (h : K m s0 c w) {k z : Nat} {zz : Int32} (hzz : zz = nI z) (hk : k < c) (ht : ¬ pR s0 (pa s0 (21 + 7 * k)) = 0) (hz : 1 ≤ z ∧ z ≤ 999) : kCtrW mL_dispute 12 [.ref 0, .int (nI k), .int zz] w (some (.int (pR s0 (pa s0 (21 + 7 * k))))) (fun w' => ∃ s1, Dn m s0 c s1 c w') := by
  subst hzz
  exact h.dispR hk ht hz
theorem sum_by {Z y : Nat} (hZ : Z ≤ 999) (hy : y ≤ 60) : (31 ≤ Z + y → nI Z + (nI y - 30) = nI (Z + y - 30)) ∧ (¬ 31 ≤ Z + y → ¬ 1 ≤ nI Z + (nI y - 30)) := by
  have e : nI Z + (nI y - 30) = nI (Z + y) - nI 30 := by
    rw [Int32.sub_eq_add_neg, ← Int32.add_assoc, ← Int32.sub_eq_add_neg, nI_add]
    rfl
  rw [e]
  refine ⟨fun h => kS rfl rfl (by omega), fun h q => ?_⟩
  have q2 := Int32.le_iff_toInt_le.mp q
  rw [sub_toInt (by omega) (by omega)] at q2
  have : (1 : Int32).toInt = 1 := by decide
  omega
set_option maxRecDepth 100000 in
set_option maxHeartbeats 40000000 in
theorem K.sendsX (h : K m s0 c w) {p : Nat} (hp : c ≤ p) (hp2 : p < 100) {v : Int32} : kCtrG mL_sends 14 3 18 [.ref 0, .int (nI p), .int v] w (.int 1) (K m s0 c) := by
  refine kCtrG.of plLw nlL_sends rfl (Nat.le_of_ble_eq_true rfl) (fun n => ?_)
  have N0 := h.ok.1
  have h7 := N0.1
  have Lc : c < 2147483648 := by omega
  have Lp : p < 2147483648 := by omega
  refine kw_aload_n (pc := 0) dL_sends_0 rfl ?_
  refine kw_iconst (v := 3) (pc := 1) dL_sends_1 (by decide) ?_
  refine kw_callSr (pc := 2) dL_sends_2 lL_98 (V0.countE (j := 3) h.v (rfl : (3 : Int32) = nI 3) (by decide)) rfl rfl ⟨by decide, by decide, Nat.le_of_ble_eq_true rfl⟩ ?_
  refine kw_istore_n (pc := 5) dL_sends_5 (by decide) rfl ?_
  refine kW.locs (L' := [(0, _), (1, _), (2, _), (3, _)]) ?_ ⟨rfl, rfl, rfl, rfl, trivial⟩
  refine kw_aload_n (pc := 6) dL_sends_6 rfl ?_
  refine kw_iconst (v := 4) (pc := 7) dL_sends_7 (by decide) ?_
  refine kw_callSr (pc := 8) dL_sends_8 lL_98 (V0.countE (j := 4) h.v (rfl : (4 : Int32) = nI 4) (by decide)) rfl rfl ⟨by decide, by decide, Nat.le_of_ble_eq_true rfl⟩ ?_
  refine kw_istore (pc := 11) dL_sends_11 (by decide) rfl ?_
  refine kW.locs (L' := [(0, _), (1, _), (2, _), (3, _), (4, _)]) ?_ ⟨rfl, rfl, rfl, rfl, rfl, trivial⟩
  refine kw_aload_n (pc := 13) dL_sends_13 rfl ?_
  refine kw_bipush (v := 7) (pc := 14) dL_sends_14 (by decide) ?_
  refine kw_callSr (pc := 16) dL_sends_16 lL_98 (V0.countE (j := 7) h.v (rfl : (7 : Int32) = nI 7) (by decide)) rfl rfl ⟨by decide, by decide, Nat.le_of_ble_eq_true rfl⟩ ?_
  refine kw_istore (pc := 19) dL_sends_19 (by decide) rfl ?_
  refine kW.locs (L' := [(0, _), (1, _), (2, _), (3, _), (4, _), (5, _)]) ?_ ⟨rfl, rfl, rfl, rfl, rfl, rfl, trivial⟩
  refine kw_aload_n (pc := 21) dL_sends_21 rfl ?_
  refine kw_iconst (v := 0) (pc := 22) dL_sends_22 (by decide) ?_
  refine kw_callSr (pc := 23) dL_sends_23 lL_98 (V0.countE (j := 0) h.v (rfl : (0 : Int32) = nI 0) (by decide)) rfl rfl ⟨by decide, by decide, Nat.le_of_ble_eq_true rfl⟩ ?_
  refine kw_istore (pc := 26) dL_sends_26 (by decide) rfl ?_
  refine kW.locs (L' := [(0, _), (1, _), (2, _), (3, _), (4, _), (5, _), (6, _)]) ?_ ⟨rfl, rfl, rfl, rfl, rfl, rfl, rfl, trivial⟩
  refine kw_aload_n (pc := 28) dL_sends_28 rfl ?_
  refine kw_callSr (pc := 29) dL_sends_29 lL_127 (V0.print h.v) rfl rfl ⟨by decide, by decide, Nat.le_of_ble_eq_true rfl⟩ ?_
  refine kw_lstore (pc := 32) dL_sends_32 (by decide) rfl ?_
  refine kW.locs (L' := [(0, _), (1, _), (2, _), (3, _), (4, _), (5, _), (6, _), (7, _)]) ?_ ⟨rfl, rfl, rfl, rfl, rfl, rfl, rfl, rfl, trivial⟩
  refine kw_iload_n (pc := 34) dL_sends_34 rfl ?_
  refine kw_iload (pc := 35) dL_sends_35 rfl ?_
  refine kw_icmp_lt (tgt := 87) (pc := 37) dL_sends_37 (by decide) (fun h37 => ?_) (fun h37 => ?_)
  · have h37 := (kLtI (a := p) (b := c) Lp Lc rfl N0.2.1).mp h37
    exfalso; omega
  · have h37 := mt (kLtI (a := p) (b := c) Lp Lc rfl N0.2.1).mpr h37
    refine kw_aload_n (pc := 40) dL_sends_40 rfl ?_
    refine kw_iload_n (pc := 41) dL_sends_41 rfl ?_
    refine kw_callSg (pc := 42) dL_sends_42 lL_84 (h.sendX hp hp2) rfl rfl ⟨by decide, by decide, Nat.le_of_ble_eq_true rfl, by decide, by decide⟩ (fun w1 n1 H1 => ?_)
    refine kw_ldc (pc := 45) dL_sends_45 gLc_18 ?_
    refine kw_icmp_ne (tgt := 85) (pc := 47) dL_sends_47 (by decide) (fun h47 => ?_) (fun h47 => ?_)
    · exact absurd (by decide) h47
    · refine kw_aload_n (pc := 50) dL_sends_50 rfl ?_
      refine kw_iload_n (pc := 51) dL_sends_51 rfl ?_
      refine kw_iconst (v := 1) (pc := 52) dL_sends_52 (by decide) ?_
      refine kw_callSg (pc := 53) dL_sends_53 lL_87 (H1.dispX hp hp2) rfl rfl ⟨by decide, by decide, Nat.le_of_ble_eq_true rfl, by decide, by decide⟩ (fun w2 n2 H2 => ?_)
      refine kw_ldc (pc := 56) dL_sends_56 gLc_18 ?_
      refine kw_icmp_ne (tgt := 85) (pc := 58) dL_sends_58 (by decide) (fun h58 => ?_) (fun h58 => ?_)
      · exact absurd (by decide) h58
      · refine kw_aload_n (pc := 61) dL_sends_61 rfl ?_
        refine kw_iload_n (pc := 62) dL_sends_62 rfl ?_
        refine kw_callSg (pc := 63) dL_sends_63 lL_90 (H2.backX hp hp2) rfl rfl ⟨by decide, by decide, Nat.le_of_ble_eq_true rfl, by decide, by decide⟩ (fun w3 n3 H3 => ?_)
        refine kw_ldc (pc := 66) dL_sends_66 gLc_18 ?_
        refine kw_icmp_ne (tgt := 85) (pc := 68) dL_sends_68 (by decide) (fun h68 => ?_) (fun h68 => ?_)
        · exact absurd (by decide) h68
        · refine kw_aload_n (pc := 71) dL_sends_71 rfl ?_
          refine kw_callSr (pc := 72) dL_sends_72 lL_127 (V0.print H3.v) rfl rfl ⟨by decide, by decide, Nat.le_of_ble_eq_true rfl⟩ ?_
          refine kw_lload (pc := 75) dL_sends_75 rfl ?_
          refine kw_lcmp (pc := 77) dL_sends_77 ?_
          refine kw_if_ne (tgt := 85) (pc := 78) dL_sends_78 (by decide) (fun h78 => ?_) (fun h78 => ?_)
          · exact absurd lgc0 h78
          · refine kw_iconst (v := 1) (pc := 81) dL_sends_81 (by decide) ?_
            refine kw_goto (tgt := 86) (pc := 82) dL_sends_82 (by decide) ?_
            exact kw_ireturn nlL_sends (pc := 86) dL_sends_86 rfl (by first | rfl | exact b2i_z _ | exact hbool) ⟨rfl, H3⟩
set_option maxRecDepth 100000 in
set_option maxHeartbeats 40000000 in
theorem K.sendsP (h : K m s0 c w) {p y : Nat} (hp : p < c) (hy : y ≤ 60) : kCtrG mL_sends 14 3 18 [.ref 0, .int (nI p), .int (nI y - 30)] w (.int 1) (K m s0 c) := by
  refine kCtrG.of plLw nlL_sends rfl (Nat.le_of_ble_eq_true rfl) (fun n => ?_)
  have N0 := h.ok.1
  have h7 := N0.1
  have Lc : c < 2147483648 := by omega
  have Lp : p < 2147483648 := by omega
  obtain ⟨a, b, d, wt, z, co, v, x0, x1, x2, gi, Z, R, W, B, r, -, -, -, -, ⟨hZ, hZ1, hZ2, -⟩, -, ⟨hW, hW1, -⟩, ⟨hr, hr1, -⟩⟩ := pview h.ok hp
  obtain ⟨x3, -, hx32, hx3⟩ := bI (lo := 0) (hi := 50) (by decide) (by decide) N0.2.2.1.2.2.2
  have LZ : Z < 2147483648 := by omega
  have LW : W < 2147483648 := by omega
  have Lr : r < 2147483648 := by omega
  have Lx3 : x3 < 2147483648 := by omega
  have hri : pR s0 (pa s0 (21 + 7 * p)) = 0 ↔ r = 0 := kEqI (a := r) (b := 0) (by omega) (by omega) hr rfl
  have hWZ : pW s0 (pa s0 (21 + 7 * p)) (nI Z) = nI W := by
    rw [← hZ]
    exact hW
  have t347 : ∀ (oz : Nat) (w4 : kM), 1 ≤ oz → oz ≤ 999 → K m s0 c w4 → kW (0, fun _ => 0) mL_sends 14 (fun o' w' _ => o' = .inl (some (.int 1)) ∧ (K m s0 c) w') 3 18 n w4 347 [(0, .ref 0), (1, .int (nI p)), (7, .long (PR s0 c)), (9, .int (nI W)), (10, .int (nI r)), (11, .int (nI Z)), (13, .int 1), (15, .int (nI oz))] [] := by
    intro oz w4 hz1 hz2 H4
    have Loz : oz < 2147483648 := by omega
    by_cases hr0 : pR s0 (pa s0 (21 + 7 * p)) = 0
    · have hq := hri.mp hr0
      obtain ⟨Wo, hWo, hWo2, hlt, hge⟩ : ∃ Wo, pW s0 (pa s0 (21 + 7 * p)) (nI oz) = nI Wo ∧ Wo ≤ 2000 ∧ (oz ≤ Z → Wo ≤ W) ∧ (Z ≤ oz → W ≤ Wo) := by
        rcases Nat.le_total oz Z with g | g
        · obtain ⟨W1, W2, e1, e2, e3, e4⟩ := pW_mono h.ok hp hz1 g hZ2
          have e5 : W2 = W := (nI_eq (by omega) (by omega)).mp (e2.symm.trans hWZ)
          exact ⟨W1, e1, by omega, fun _ => by omega, fun q => by
            obtain rfl : oz = Z := by omega
            have e6 : W1 = W := (nI_eq (by omega) (by omega)).mp (e1.symm.trans hWZ)
            omega⟩
        · obtain ⟨W1, W2, e1, e2, e3, e4⟩ := pW_mono h.ok hp hZ1 g hz2
          have e5 : W1 = W := (nI_eq (by omega) (by omega)).mp (e1.symm.trans hWZ)
          exact ⟨W2, e2, by omega, fun q => by
            obtain rfl : oz = Z := by omega
            have e6 : W2 = W := (nI_eq (by omega) (by omega)).mp (e2.symm.trans hWZ)
            omega, fun _ => by omega⟩
      by_cases hA : (if Z ≤ oz then oz - Z else Z - oz) ≤ x3
      · have hA2 : (Z ≤ oz → oz - Z ≤ x3) ∧ (¬ Z ≤ oz → Z - oz ≤ x3) := by split at hA <;> omega
        refine kw_iload (pc := 347) dL_sends_347 rfl ?_
        refine kw_iload (pc := 349) dL_sends_349 rfl ?_
        refine kw_icmp_le (tgt := 362) (pc := 351) dL_sends_351 (by decide) (fun h351 => ?_) (fun h351 => ?_)
        · have h351 := (kLeI (a := oz) (b := Z) Loz LZ rfl rfl).mp h351
          refine kw_iload (pc := 362) dL_sends_362 rfl ?_
          refine kw_iload (pc := 364) dL_sends_364 rfl ?_
          refine kw_isub (pc := 366) dL_sends_366 ?_
          refine kw_istore (pc := 367) dL_sends_367 (by decide) rfl ?_
          refine kW.locs (L' := [(0, _), (1, _), (7, _), (9, _), (10, _), (11, _), (13, _), (15, _), (16, _)]) ?_ ⟨rfl, rfl, rfl, rfl, rfl, rfl, rfl, rfl, rfl, trivial⟩
          refine kw_aload_n (pc := 369) dL_sends_369 rfl ?_
          refine kw_bipush (v := 6) (pc := 370) dL_sends_370 (by decide) ?_
          refine kw_callSr (pc := 372) dL_sends_372 lL_98 (V0.countE (j := 6) H4.v (rfl : (6 : Int32) = nI 6) (by decide)) rfl rfl ⟨by decide, by decide, Nat.le_of_ble_eq_true rfl⟩ ?_
          refine kw_istore (pc := 375) dL_sends_375 (by decide) rfl ?_
          refine kW.locs (L' := [(0, _), (1, _), (7, _), (9, _), (10, _), (11, _), (13, _), (15, _), (16, _), (17, _)]) ?_ ⟨rfl, rfl, rfl, rfl, rfl, rfl, rfl, rfl, rfl, rfl, trivial⟩
          refine kw_aload_n (pc := 377) dL_sends_377 rfl ?_
          refine kw_iload_n (pc := 378) dL_sends_378 rfl ?_
          refine kw_iload (pc := 379) dL_sends_379 rfl ?_
          refine kw_callSw1 (pc := 381) dL_sends_381 lL_87 (H4.dispT hp hr0 hZ ⟨hz1, hz2⟩ hZ2 hx3 hx32 hA) rfl rfl ⟨by decide, by decide, Nat.le_of_ble_eq_true rfl⟩ (fun w5 hw5 => ?_)
          obtain ⟨s5, H5, e3⟩ := hw5
          obtain ⟨u5, hu5, HU5⟩ := H5.undo
          refine kw_istore (pc := 384) dL_sends_384 (by decide) rfl ?_
          refine kW.locs (L' := [(0, _), (7, _), (9, _), (10, _), (11, _), (12, _), (13, _), (15, _), (16, _), (17, _)]) ?_ ⟨rfl, rfl, rfl, rfl, rfl, rfl, rfl, rfl, rfl, rfl, trivial⟩
          refine kw_iload (pc := 386) dL_sends_386 rfl ?_
          refine kw_if_eq (tgt := 479) (pc := 388) dL_sends_388 (by decide) (fun h388 => ?_) (fun h388 => ?_)
          · exact absurd h388 (by decide)
          · refine kw_iload (pc := 391) dL_sends_391 rfl ?_
            refine kw_if_le (tgt := 406) (pc := 393) dL_sends_393 (by decide) (fun h393 => ?_) (fun h393 => ?_)
            · have h393 := (kLeI (a := r) (b := 0) Lr (by decide) rfl (rfl : (0 : Int32) = nI 0)).mp h393
              refine kw_iload (pc := 406) dL_sends_406 rfl ?_
              refine kw_aload_n (pc := 408) dL_sends_408 rfl ?_
              refine kw_iconst (v := 3) (pc := 409) dL_sends_409 (by decide) ?_
              refine kw_callSr (pc := 410) dL_sends_410 lL_102 (V0.settingE (j := 3) H5.v (rfl : (3 : Int32) = nI 3) (by decide)) rfl rfl ⟨by decide, by decide, Nat.le_of_ble_eq_true rfl⟩ ?_
              refine kw_icmp_le (tgt := 438) (pc := 413) dL_sends_413 (by decide) (fun h413 => ?_) (fun h413 => ?_)
              · have h413 := (kLeI (a := (Z - oz)) (b := x3) (Nat.lt_of_le_of_lt (Nat.sub_le _ _) LZ) Lx3 (kS (a := Z) (b := oz) rfl rfl (by omega)) (e3.trans hx3)).mp h413
                refine kw_iload (pc := 438) dL_sends_438 rfl ?_
                refine kw_bipush (v := 9) (pc := 440) dL_sends_440 (by decide) ?_
                refine kw_icmp_le (tgt := 479) (pc := 442) dL_sends_442 (by decide) (fun h442 => ?_) (fun h442 => ?_)
                · have h442 := (kLeI (a := (10 + Wo)) (b := 9) (by omega) (by decide) (kA (a := 10) (b := Wo) rfl hWo) (rfl : (9 : Int32) = nI 9)).mp h442
                  exfalso; omega
                · have h442 := mt (kLeI (a := (10 + Wo)) (b := 9) (by omega) (by decide) (kA (a := 10) (b := Wo) rfl hWo) (rfl : (9 : Int32) = nI 9)).mpr h442
                  refine kw_iload (pc := 445) dL_sends_445 rfl ?_
                  refine kw_iload (pc := 447) dL_sends_447 rfl ?_
                  refine kw_icmp_ge (tgt := 465) (pc := 449) dL_sends_449 (by decide) (fun h449 => ?_) (fun h449 => ?_)
                  · have h449 := (kLeI (a := Z) (b := oz) LZ Loz rfl rfl).mp h449
                    refine kw_iload (pc := 465) dL_sends_465 rfl ?_
                    refine kw_bipush (v := 10) (pc := 467) dL_sends_467 (by decide) ?_
                    refine kw_iload (pc := 469) dL_sends_469 rfl ?_
                    refine kw_iadd (pc := 471) dL_sends_471 ?_
                    refine kw_icmp_lt (tgt := 479) (pc := 472) dL_sends_472 (by decide) (fun h472 => ?_) (fun h472 => ?_)
                    · have h472 := (kLtI (a := (10 + Wo)) (b := (10 + W)) (by omega) (by omega) (kA (a := 10) (b := Wo) rfl hWo) (kA (a := 10) (b := W) (rfl : (10 : Int32) = nI 10) rfl)).mp h472
                      exfalso; omega
                    · have h472 := mt (kLtI (a := (10 + Wo)) (b := (10 + W)) (by omega) (by omega) (kA (a := 10) (b := Wo) rfl hWo) (kA (a := 10) (b := W) (rfl : (10 : Int32) = nI 10) rfl)).mpr h472
                      refine kw_iconst (v := 1) (pc := 475) dL_sends_475 (by decide) ?_
                      refine kw_goto (tgt := 480) (pc := 476) dL_sends_476 (by decide) ?_
                      refine kw_istore (pc := 480) dL_sends_480 (by decide) rfl ?_
                      refine kW.locs (L' := [(0, _), (7, _), (13, _)]) ?_ ⟨rfl, rfl, rfl, trivial⟩
                      refine kw_iload (pc := 482) dL_sends_482 rfl ?_
                      refine kw_if_eq (tgt := 508) (pc := 484) dL_sends_484 (by decide) (fun h484 => ?_) (fun h484 => ?_)
                      · exact absurd h484 (by decide)
                      · refine kw_aload_n (pc := 487) dL_sends_487 rfl ?_
                        refine kw_callSw1 (pc := 488) dL_sends_488 lL_121 HU5 rfl rfl ⟨by decide, by decide, Nat.le_of_ble_eq_true rfl⟩ (fun w6 H6 => ?_)
                        refine kw_if_lt (tgt := 508) (pc := 491) dL_sends_491 (by decide) (fun h491 => ?_) (fun h491 => ?_)
                        · have h491 := (kLtI (a := u5) (b := 0) (by omega) (by decide) rfl (rfl : (0 : Int32) = nI 0)).mp h491
                          exfalso; omega
                        · have h491 := mt (kLtI (a := u5) (b := 0) (by omega) (by decide) rfl (rfl : (0 : Int32) = nI 0)).mpr h491
                          refine kw_aload_n (pc := 494) dL_sends_494 rfl ?_
                          refine kw_callSr (pc := 495) dL_sends_495 lL_127 (V0.print H6.v) rfl rfl ⟨by decide, by decide, Nat.le_of_ble_eq_true rfl⟩ ?_
                          refine kw_lload (pc := 498) dL_sends_498 rfl ?_
                          refine kw_lcmp (pc := 500) dL_sends_500 ?_
                          refine kw_if_ne (tgt := 508) (pc := 501) dL_sends_501 (by decide) (fun h501 => ?_) (fun h501 => ?_)
                          · exact absurd lgc0 h501
                          · refine kw_iconst (v := 1) (pc := 504) dL_sends_504 (by decide) ?_
                            refine kw_goto (tgt := 509) (pc := 505) dL_sends_505 (by decide) ?_
                            exact kw_ireturn nlL_sends (pc := 509) dL_sends_509 rfl (by first | rfl | exact b2i_z _ | exact hbool) ⟨rfl, H6⟩
                  · have h449 := mt (kLeI (a := Z) (b := oz) LZ Loz rfl rfl).mpr h449
                    refine kw_iload (pc := 452) dL_sends_452 rfl ?_
                    refine kw_bipush (v := 10) (pc := 454) dL_sends_454 (by decide) ?_
                    refine kw_iload (pc := 456) dL_sends_456 rfl ?_
                    refine kw_iadd (pc := 458) dL_sends_458 ?_
                    refine kw_icmp_gt (tgt := 479) (pc := 459) dL_sends_459 (by decide) (fun h459 => ?_) (fun h459 => ?_)
                    · have h459 := (kLtI (a := (10 + W)) (b := (10 + Wo)) (by omega) (by omega) (kA (a := 10) (b := W) (rfl : (10 : Int32) = nI 10) rfl) (kA (a := 10) (b := Wo) rfl hWo)).mp h459
                      exfalso; omega
                    · have h459 := mt (kLtI (a := (10 + W)) (b := (10 + Wo)) (by omega) (by omega) (kA (a := 10) (b := W) (rfl : (10 : Int32) = nI 10) rfl) (kA (a := 10) (b := Wo) rfl hWo)).mpr h459
                      refine kw_goto (tgt := 475) (pc := 462) dL_sends_462 (by decide) ?_
                      refine kw_iconst (v := 1) (pc := 475) dL_sends_475 (by decide) ?_
                      refine kw_goto (tgt := 480) (pc := 476) dL_sends_476 (by decide) ?_
                      refine kw_istore (pc := 480) dL_sends_480 (by decide) rfl ?_
                      refine kW.locs (L' := [(0, _), (7, _), (13, _)]) ?_ ⟨rfl, rfl, rfl, trivial⟩
                      refine kw_iload (pc := 482) dL_sends_482 rfl ?_
                      refine kw_if_eq (tgt := 508) (pc := 484) dL_sends_484 (by decide) (fun h484 => ?_) (fun h484 => ?_)
                      · exact absurd h484 (by decide)
                      · refine kw_aload_n (pc := 487) dL_sends_487 rfl ?_
                        refine kw_callSw1 (pc := 488) dL_sends_488 lL_121 HU5 rfl rfl ⟨by decide, by decide, Nat.le_of_ble_eq_true rfl⟩ (fun w6 H6 => ?_)
                        refine kw_if_lt (tgt := 508) (pc := 491) dL_sends_491 (by decide) (fun h491 => ?_) (fun h491 => ?_)
                        · have h491 := (kLtI (a := u5) (b := 0) (by omega) (by decide) rfl (rfl : (0 : Int32) = nI 0)).mp h491
                          exfalso; omega
                        · have h491 := mt (kLtI (a := u5) (b := 0) (by omega) (by decide) rfl (rfl : (0 : Int32) = nI 0)).mpr h491
                          refine kw_aload_n (pc := 494) dL_sends_494 rfl ?_
                          refine kw_callSr (pc := 495) dL_sends_495 lL_127 (V0.print H6.v) rfl rfl ⟨by decide, by decide, Nat.le_of_ble_eq_true rfl⟩ ?_
                          refine kw_lload (pc := 498) dL_sends_498 rfl ?_
                          refine kw_lcmp (pc := 500) dL_sends_500 ?_
                          refine kw_if_ne (tgt := 508) (pc := 501) dL_sends_501 (by decide) (fun h501 => ?_) (fun h501 => ?_)
                          · exact absurd lgc0 h501
                          · refine kw_iconst (v := 1) (pc := 504) dL_sends_504 (by decide) ?_
                            refine kw_goto (tgt := 509) (pc := 505) dL_sends_505 (by decide) ?_
                            exact kw_ireturn nlL_sends (pc := 509) dL_sends_509 rfl (by first | rfl | exact b2i_z _ | exact hbool) ⟨rfl, H6⟩
              · have h413 := mt (kLeI (a := (Z - oz)) (b := x3) (Nat.lt_of_le_of_lt (Nat.sub_le _ _) LZ) Lx3 (kS (a := Z) (b := oz) rfl rfl (by omega)) (e3.trans hx3)).mpr h413
                exfalso; omega
            · have h393 := mt (kLeI (a := r) (b := 0) Lr (by decide) rfl (rfl : (0 : Int32) = nI 0)).mpr h393
              exfalso; omega
        · have h351 := mt (kLeI (a := oz) (b := Z) Loz LZ rfl rfl).mpr h351
          refine kw_iload (pc := 354) dL_sends_354 rfl ?_
          refine kw_iload (pc := 356) dL_sends_356 rfl ?_
          refine kw_isub (pc := 358) dL_sends_358 ?_
          refine kw_goto (tgt := 367) (pc := 359) dL_sends_359 (by decide) ?_
          refine kw_istore (pc := 367) dL_sends_367 (by decide) rfl ?_
          refine kW.locs (L' := [(0, _), (1, _), (7, _), (9, _), (10, _), (11, _), (13, _), (15, _), (16, _)]) ?_ ⟨rfl, rfl, rfl, rfl, rfl, rfl, rfl, rfl, rfl, trivial⟩
          refine kw_aload_n (pc := 369) dL_sends_369 rfl ?_
          refine kw_bipush (v := 6) (pc := 370) dL_sends_370 (by decide) ?_
          refine kw_callSr (pc := 372) dL_sends_372 lL_98 (V0.countE (j := 6) H4.v (rfl : (6 : Int32) = nI 6) (by decide)) rfl rfl ⟨by decide, by decide, Nat.le_of_ble_eq_true rfl⟩ ?_
          refine kw_istore (pc := 375) dL_sends_375 (by decide) rfl ?_
          refine kW.locs (L' := [(0, _), (1, _), (7, _), (9, _), (10, _), (11, _), (13, _), (15, _), (16, _), (17, _)]) ?_ ⟨rfl, rfl, rfl, rfl, rfl, rfl, rfl, rfl, rfl, rfl, trivial⟩
          refine kw_aload_n (pc := 377) dL_sends_377 rfl ?_
          refine kw_iload_n (pc := 378) dL_sends_378 rfl ?_
          refine kw_iload (pc := 379) dL_sends_379 rfl ?_
          refine kw_callSw1 (pc := 381) dL_sends_381 lL_87 (H4.dispT hp hr0 hZ ⟨hz1, hz2⟩ hZ2 hx3 hx32 hA) rfl rfl ⟨by decide, by decide, Nat.le_of_ble_eq_true rfl⟩ (fun w5 hw5 => ?_)
          obtain ⟨s5, H5, e3⟩ := hw5
          obtain ⟨u5, hu5, HU5⟩ := H5.undo
          refine kw_istore (pc := 384) dL_sends_384 (by decide) rfl ?_
          refine kW.locs (L' := [(0, _), (7, _), (9, _), (10, _), (11, _), (12, _), (13, _), (15, _), (16, _), (17, _)]) ?_ ⟨rfl, rfl, rfl, rfl, rfl, rfl, rfl, rfl, rfl, rfl, trivial⟩
          refine kw_iload (pc := 386) dL_sends_386 rfl ?_
          refine kw_if_eq (tgt := 479) (pc := 388) dL_sends_388 (by decide) (fun h388 => ?_) (fun h388 => ?_)
          · exact absurd h388 (by decide)
          · refine kw_iload (pc := 391) dL_sends_391 rfl ?_
            refine kw_if_le (tgt := 406) (pc := 393) dL_sends_393 (by decide) (fun h393 => ?_) (fun h393 => ?_)
            · have h393 := (kLeI (a := r) (b := 0) Lr (by decide) rfl (rfl : (0 : Int32) = nI 0)).mp h393
              refine kw_iload (pc := 406) dL_sends_406 rfl ?_
              refine kw_aload_n (pc := 408) dL_sends_408 rfl ?_
              refine kw_iconst (v := 3) (pc := 409) dL_sends_409 (by decide) ?_
              refine kw_callSr (pc := 410) dL_sends_410 lL_102 (V0.settingE (j := 3) H5.v (rfl : (3 : Int32) = nI 3) (by decide)) rfl rfl ⟨by decide, by decide, Nat.le_of_ble_eq_true rfl⟩ ?_
              refine kw_icmp_le (tgt := 438) (pc := 413) dL_sends_413 (by decide) (fun h413 => ?_) (fun h413 => ?_)
              · have h413 := (kLeI (a := (oz - Z)) (b := x3) (Nat.lt_of_le_of_lt (Nat.sub_le _ _) Loz) Lx3 (kS (a := oz) (b := Z) rfl rfl (by omega)) (e3.trans hx3)).mp h413
                refine kw_iload (pc := 438) dL_sends_438 rfl ?_
                refine kw_bipush (v := 9) (pc := 440) dL_sends_440 (by decide) ?_
                refine kw_icmp_le (tgt := 479) (pc := 442) dL_sends_442 (by decide) (fun h442 => ?_) (fun h442 => ?_)
                · have h442 := (kLeI (a := (10 + Wo)) (b := 9) (by omega) (by decide) (kA (a := 10) (b := Wo) rfl hWo) (rfl : (9 : Int32) = nI 9)).mp h442
                  exfalso; omega
                · have h442 := mt (kLeI (a := (10 + Wo)) (b := 9) (by omega) (by decide) (kA (a := 10) (b := Wo) rfl hWo) (rfl : (9 : Int32) = nI 9)).mpr h442
                  refine kw_iload (pc := 445) dL_sends_445 rfl ?_
                  refine kw_iload (pc := 447) dL_sends_447 rfl ?_
                  refine kw_icmp_ge (tgt := 465) (pc := 449) dL_sends_449 (by decide) (fun h449 => ?_) (fun h449 => ?_)
                  · have h449 := (kLeI (a := Z) (b := oz) LZ Loz rfl rfl).mp h449
                    refine kw_iload (pc := 465) dL_sends_465 rfl ?_
                    refine kw_bipush (v := 10) (pc := 467) dL_sends_467 (by decide) ?_
                    refine kw_iload (pc := 469) dL_sends_469 rfl ?_
                    refine kw_iadd (pc := 471) dL_sends_471 ?_
                    refine kw_icmp_lt (tgt := 479) (pc := 472) dL_sends_472 (by decide) (fun h472 => ?_) (fun h472 => ?_)
                    · have h472 := (kLtI (a := (10 + Wo)) (b := (10 + W)) (by omega) (by omega) (kA (a := 10) (b := Wo) rfl hWo) (kA (a := 10) (b := W) (rfl : (10 : Int32) = nI 10) rfl)).mp h472
                      exfalso; omega
                    · have h472 := mt (kLtI (a := (10 + Wo)) (b := (10 + W)) (by omega) (by omega) (kA (a := 10) (b := Wo) rfl hWo) (kA (a := 10) (b := W) (rfl : (10 : Int32) = nI 10) rfl)).mpr h472
                      refine kw_iconst (v := 1) (pc := 475) dL_sends_475 (by decide) ?_
                      refine kw_goto (tgt := 480) (pc := 476) dL_sends_476 (by decide) ?_
                      refine kw_istore (pc := 480) dL_sends_480 (by decide) rfl ?_
                      refine kW.locs (L' := [(0, _), (7, _), (13, _)]) ?_ ⟨rfl, rfl, rfl, trivial⟩
                      refine kw_iload (pc := 482) dL_sends_482 rfl ?_
                      refine kw_if_eq (tgt := 508) (pc := 484) dL_sends_484 (by decide) (fun h484 => ?_) (fun h484 => ?_)
                      · exact absurd h484 (by decide)
                      · refine kw_aload_n (pc := 487) dL_sends_487 rfl ?_
                        refine kw_callSw1 (pc := 488) dL_sends_488 lL_121 HU5 rfl rfl ⟨by decide, by decide, Nat.le_of_ble_eq_true rfl⟩ (fun w6 H6 => ?_)
                        refine kw_if_lt (tgt := 508) (pc := 491) dL_sends_491 (by decide) (fun h491 => ?_) (fun h491 => ?_)
                        · have h491 := (kLtI (a := u5) (b := 0) (by omega) (by decide) rfl (rfl : (0 : Int32) = nI 0)).mp h491
                          exfalso; omega
                        · have h491 := mt (kLtI (a := u5) (b := 0) (by omega) (by decide) rfl (rfl : (0 : Int32) = nI 0)).mpr h491
                          refine kw_aload_n (pc := 494) dL_sends_494 rfl ?_
                          refine kw_callSr (pc := 495) dL_sends_495 lL_127 (V0.print H6.v) rfl rfl ⟨by decide, by decide, Nat.le_of_ble_eq_true rfl⟩ ?_
                          refine kw_lload (pc := 498) dL_sends_498 rfl ?_
                          refine kw_lcmp (pc := 500) dL_sends_500 ?_
                          refine kw_if_ne (tgt := 508) (pc := 501) dL_sends_501 (by decide) (fun h501 => ?_) (fun h501 => ?_)
                          · exact absurd lgc0 h501
                          · refine kw_iconst (v := 1) (pc := 504) dL_sends_504 (by decide) ?_
                            refine kw_goto (tgt := 509) (pc := 505) dL_sends_505 (by decide) ?_
                            exact kw_ireturn nlL_sends (pc := 509) dL_sends_509 rfl (by first | rfl | exact b2i_z _ | exact hbool) ⟨rfl, H6⟩
                  · have h449 := mt (kLeI (a := Z) (b := oz) LZ Loz rfl rfl).mpr h449
                    refine kw_iload (pc := 452) dL_sends_452 rfl ?_
                    refine kw_bipush (v := 10) (pc := 454) dL_sends_454 (by decide) ?_
                    refine kw_iload (pc := 456) dL_sends_456 rfl ?_
                    refine kw_iadd (pc := 458) dL_sends_458 ?_
                    refine kw_icmp_gt (tgt := 479) (pc := 459) dL_sends_459 (by decide) (fun h459 => ?_) (fun h459 => ?_)
                    · have h459 := (kLtI (a := (10 + W)) (b := (10 + Wo)) (by omega) (by omega) (kA (a := 10) (b := W) (rfl : (10 : Int32) = nI 10) rfl) (kA (a := 10) (b := Wo) rfl hWo)).mp h459
                      exfalso; omega
                    · have h459 := mt (kLtI (a := (10 + W)) (b := (10 + Wo)) (by omega) (by omega) (kA (a := 10) (b := W) (rfl : (10 : Int32) = nI 10) rfl) (kA (a := 10) (b := Wo) rfl hWo)).mpr h459
                      refine kw_goto (tgt := 475) (pc := 462) dL_sends_462 (by decide) ?_
                      refine kw_iconst (v := 1) (pc := 475) dL_sends_475 (by decide) ?_
                      refine kw_goto (tgt := 480) (pc := 476) dL_sends_476 (by decide) ?_
                      refine kw_istore (pc := 480) dL_sends_480 (by decide) rfl ?_
                      refine kW.locs (L' := [(0, _), (7, _), (13, _)]) ?_ ⟨rfl, rfl, rfl, trivial⟩
                      refine kw_iload (pc := 482) dL_sends_482 rfl ?_
                      refine kw_if_eq (tgt := 508) (pc := 484) dL_sends_484 (by decide) (fun h484 => ?_) (fun h484 => ?_)
                      · exact absurd h484 (by decide)
                      · refine kw_aload_n (pc := 487) dL_sends_487 rfl ?_
                        refine kw_callSw1 (pc := 488) dL_sends_488 lL_121 HU5 rfl rfl ⟨by decide, by decide, Nat.le_of_ble_eq_true rfl⟩ (fun w6 H6 => ?_)
                        refine kw_if_lt (tgt := 508) (pc := 491) dL_sends_491 (by decide) (fun h491 => ?_) (fun h491 => ?_)
                        · have h491 := (kLtI (a := u5) (b := 0) (by omega) (by decide) rfl (rfl : (0 : Int32) = nI 0)).mp h491
                          exfalso; omega
                        · have h491 := mt (kLtI (a := u5) (b := 0) (by omega) (by decide) rfl (rfl : (0 : Int32) = nI 0)).mpr h491
                          refine kw_aload_n (pc := 494) dL_sends_494 rfl ?_
                          refine kw_callSr (pc := 495) dL_sends_495 lL_127 (V0.print H6.v) rfl rfl ⟨by decide, by decide, Nat.le_of_ble_eq_true rfl⟩ ?_
                          refine kw_lload (pc := 498) dL_sends_498 rfl ?_
                          refine kw_lcmp (pc := 500) dL_sends_500 ?_
                          refine kw_if_ne (tgt := 508) (pc := 501) dL_sends_501 (by decide) (fun h501 => ?_) (fun h501 => ?_)
                          · exact absurd lgc0 h501
                          · refine kw_iconst (v := 1) (pc := 504) dL_sends_504 (by decide) ?_
                            refine kw_goto (tgt := 509) (pc := 505) dL_sends_505 (by decide) ?_
                            exact kw_ireturn nlL_sends (pc := 509) dL_sends_509 rfl (by first | rfl | exact b2i_z _ | exact hbool) ⟨rfl, H6⟩
              · have h413 := mt (kLeI (a := (oz - Z)) (b := x3) (Nat.lt_of_le_of_lt (Nat.sub_le _ _) Loz) Lx3 (kS (a := oz) (b := Z) rfl rfl (by omega)) (e3.trans hx3)).mpr h413
                exfalso; omega
            · have h393 := mt (kLeI (a := r) (b := 0) Lr (by decide) rfl (rfl : (0 : Int32) = nI 0)).mpr h393
              exfalso; omega
      · have hA2 : (Z ≤ oz → x3 < oz - Z) ∧ (¬ Z ≤ oz → x3 < Z - oz) := by split at hA <;> omega
        refine kw_iload (pc := 347) dL_sends_347 rfl ?_
        refine kw_iload (pc := 349) dL_sends_349 rfl ?_
        refine kw_icmp_le (tgt := 362) (pc := 351) dL_sends_351 (by decide) (fun h351 => ?_) (fun h351 => ?_)
        · have h351 := (kLeI (a := oz) (b := Z) Loz LZ rfl rfl).mp h351
          refine kw_iload (pc := 362) dL_sends_362 rfl ?_
          refine kw_iload (pc := 364) dL_sends_364 rfl ?_
          refine kw_isub (pc := 366) dL_sends_366 ?_
          refine kw_istore (pc := 367) dL_sends_367 (by decide) rfl ?_
          refine kW.locs (L' := [(0, _), (1, _), (7, _), (9, _), (10, _), (11, _), (13, _), (15, _), (16, _)]) ?_ ⟨rfl, rfl, rfl, rfl, rfl, rfl, rfl, rfl, rfl, trivial⟩
          refine kw_aload_n (pc := 369) dL_sends_369 rfl ?_
          refine kw_bipush (v := 6) (pc := 370) dL_sends_370 (by decide) ?_
          refine kw_callSr (pc := 372) dL_sends_372 lL_98 (V0.countE (j := 6) H4.v (rfl : (6 : Int32) = nI 6) (by decide)) rfl rfl ⟨by decide, by decide, Nat.le_of_ble_eq_true rfl⟩ ?_
          refine kw_istore (pc := 375) dL_sends_375 (by decide) rfl ?_
          refine kW.locs (L' := [(0, _), (1, _), (7, _), (9, _), (10, _), (11, _), (13, _), (15, _), (16, _), (17, _)]) ?_ ⟨rfl, rfl, rfl, rfl, rfl, rfl, rfl, rfl, rfl, rfl, trivial⟩
          refine kw_aload_n (pc := 377) dL_sends_377 rfl ?_
          refine kw_iload_n (pc := 378) dL_sends_378 rfl ?_
          refine kw_iload (pc := 379) dL_sends_379 rfl ?_
          refine kw_callSw1 (pc := 381) dL_sends_381 lL_87 (H4.dispL hp hr0 hZ ⟨hz1, hz2⟩ hZ2 hx3 hx32 hA) rfl rfl ⟨by decide, by decide, Nat.le_of_ble_eq_true rfl⟩ (fun w5 hw5 => ?_)
          obtain ⟨s5, H5, e73, e3⟩ := hw5
          obtain ⟨u5, hu5, HU5⟩ := H5.undo
          refine kw_istore (pc := 384) dL_sends_384 (by decide) rfl ?_
          refine kW.locs (L' := [(0, _), (7, _), (9, _), (10, _), (11, _), (12, _), (13, _), (15, _), (16, _), (17, _)]) ?_ ⟨rfl, rfl, rfl, rfl, rfl, rfl, rfl, rfl, rfl, rfl, trivial⟩
          refine kw_iload (pc := 386) dL_sends_386 rfl ?_
          refine kw_if_eq (tgt := 479) (pc := 388) dL_sends_388 (by decide) (fun h388 => ?_) (fun h388 => ?_)
          · exact absurd h388 (by decide)
          · refine kw_iload (pc := 391) dL_sends_391 rfl ?_
            refine kw_if_le (tgt := 406) (pc := 393) dL_sends_393 (by decide) (fun h393 => ?_) (fun h393 => ?_)
            · have h393 := (kLeI (a := r) (b := 0) Lr (by decide) rfl (rfl : (0 : Int32) = nI 0)).mp h393
              refine kw_iload (pc := 406) dL_sends_406 rfl ?_
              refine kw_aload_n (pc := 408) dL_sends_408 rfl ?_
              refine kw_iconst (v := 3) (pc := 409) dL_sends_409 (by decide) ?_
              refine kw_callSr (pc := 410) dL_sends_410 lL_102 (V0.settingE (j := 3) H5.v (rfl : (3 : Int32) = nI 3) (by decide)) rfl rfl ⟨by decide, by decide, Nat.le_of_ble_eq_true rfl⟩ ?_
              refine kw_icmp_le (tgt := 438) (pc := 413) dL_sends_413 (by decide) (fun h413 => ?_) (fun h413 => ?_)
              · have h413 := (kLeI (a := (Z - oz)) (b := x3) (Nat.lt_of_le_of_lt (Nat.sub_le _ _) LZ) Lx3 (kS (a := Z) (b := oz) rfl rfl (by omega)) (e3.trans hx3)).mp h413
                exfalso; omega
              · have h413 := mt (kLeI (a := (Z - oz)) (b := x3) (Nat.lt_of_le_of_lt (Nat.sub_le _ _) LZ) Lx3 (kS (a := Z) (b := oz) rfl rfl (by omega)) (e3.trans hx3)).mpr h413
                refine kw_iload (pc := 416) dL_sends_416 rfl ?_
                refine kw_iconst (v := 4) (pc := 418) dL_sends_418 (by decide) ?_
                refine kw_icmp_ne (tgt := 479) (pc := 419) dL_sends_419 (by decide) (fun h419 => ?_) (fun h419 => ?_)
                · exact absurd (by decide) h419
                · refine kw_aload_n (pc := 422) dL_sends_422 rfl ?_
                  refine kw_bipush (v := 6) (pc := 423) dL_sends_423 (by decide) ?_
                  refine kw_callSr (pc := 425) dL_sends_425 lL_98 (V0.countE (j := 6) H5.v (rfl : (6 : Int32) = nI 6) (by decide)) rfl rfl ⟨by decide, by decide, Nat.le_of_ble_eq_true rfl⟩ ?_
                  refine kw_iload (pc := 428) dL_sends_428 rfl ?_
                  refine kw_iconst (v := 1) (pc := 430) dL_sends_430 (by decide) ?_
                  refine kw_iadd (pc := 431) dL_sends_431 ?_
                  refine kw_icmp_ne (tgt := 479) (pc := 432) dL_sends_432 (by decide) (fun h432 => ?_) (fun h432 => ?_)
                  · exact (h432 e73).elim
                  · refine kw_goto (tgt := 475) (pc := 435) dL_sends_435 (by decide) ?_
                    refine kw_iconst (v := 1) (pc := 475) dL_sends_475 (by decide) ?_
                    refine kw_goto (tgt := 480) (pc := 476) dL_sends_476 (by decide) ?_
                    refine kw_istore (pc := 480) dL_sends_480 (by decide) rfl ?_
                    refine kW.locs (L' := [(0, _), (7, _), (13, _)]) ?_ ⟨rfl, rfl, rfl, trivial⟩
                    refine kw_iload (pc := 482) dL_sends_482 rfl ?_
                    refine kw_if_eq (tgt := 508) (pc := 484) dL_sends_484 (by decide) (fun h484 => ?_) (fun h484 => ?_)
                    · exact absurd h484 (by decide)
                    · refine kw_aload_n (pc := 487) dL_sends_487 rfl ?_
                      refine kw_callSw1 (pc := 488) dL_sends_488 lL_121 HU5 rfl rfl ⟨by decide, by decide, Nat.le_of_ble_eq_true rfl⟩ (fun w6 H6 => ?_)
                      refine kw_if_lt (tgt := 508) (pc := 491) dL_sends_491 (by decide) (fun h491 => ?_) (fun h491 => ?_)
                      · have h491 := (kLtI (a := u5) (b := 0) (by omega) (by decide) rfl (rfl : (0 : Int32) = nI 0)).mp h491
                        exfalso; omega
                      · have h491 := mt (kLtI (a := u5) (b := 0) (by omega) (by decide) rfl (rfl : (0 : Int32) = nI 0)).mpr h491
                        refine kw_aload_n (pc := 494) dL_sends_494 rfl ?_
                        refine kw_callSr (pc := 495) dL_sends_495 lL_127 (V0.print H6.v) rfl rfl ⟨by decide, by decide, Nat.le_of_ble_eq_true rfl⟩ ?_
                        refine kw_lload (pc := 498) dL_sends_498 rfl ?_
                        refine kw_lcmp (pc := 500) dL_sends_500 ?_
                        refine kw_if_ne (tgt := 508) (pc := 501) dL_sends_501 (by decide) (fun h501 => ?_) (fun h501 => ?_)
                        · exact absurd lgc0 h501
                        · refine kw_iconst (v := 1) (pc := 504) dL_sends_504 (by decide) ?_
                          refine kw_goto (tgt := 509) (pc := 505) dL_sends_505 (by decide) ?_
                          exact kw_ireturn nlL_sends (pc := 509) dL_sends_509 rfl (by first | rfl | exact b2i_z _ | exact hbool) ⟨rfl, H6⟩
            · have h393 := mt (kLeI (a := r) (b := 0) Lr (by decide) rfl (rfl : (0 : Int32) = nI 0)).mpr h393
              exfalso; omega
        · have h351 := mt (kLeI (a := oz) (b := Z) Loz LZ rfl rfl).mpr h351
          refine kw_iload (pc := 354) dL_sends_354 rfl ?_
          refine kw_iload (pc := 356) dL_sends_356 rfl ?_
          refine kw_isub (pc := 358) dL_sends_358 ?_
          refine kw_goto (tgt := 367) (pc := 359) dL_sends_359 (by decide) ?_
          refine kw_istore (pc := 367) dL_sends_367 (by decide) rfl ?_
          refine kW.locs (L' := [(0, _), (1, _), (7, _), (9, _), (10, _), (11, _), (13, _), (15, _), (16, _)]) ?_ ⟨rfl, rfl, rfl, rfl, rfl, rfl, rfl, rfl, rfl, trivial⟩
          refine kw_aload_n (pc := 369) dL_sends_369 rfl ?_
          refine kw_bipush (v := 6) (pc := 370) dL_sends_370 (by decide) ?_
          refine kw_callSr (pc := 372) dL_sends_372 lL_98 (V0.countE (j := 6) H4.v (rfl : (6 : Int32) = nI 6) (by decide)) rfl rfl ⟨by decide, by decide, Nat.le_of_ble_eq_true rfl⟩ ?_
          refine kw_istore (pc := 375) dL_sends_375 (by decide) rfl ?_
          refine kW.locs (L' := [(0, _), (1, _), (7, _), (9, _), (10, _), (11, _), (13, _), (15, _), (16, _), (17, _)]) ?_ ⟨rfl, rfl, rfl, rfl, rfl, rfl, rfl, rfl, rfl, rfl, trivial⟩
          refine kw_aload_n (pc := 377) dL_sends_377 rfl ?_
          refine kw_iload_n (pc := 378) dL_sends_378 rfl ?_
          refine kw_iload (pc := 379) dL_sends_379 rfl ?_
          refine kw_callSw1 (pc := 381) dL_sends_381 lL_87 (H4.dispL hp hr0 hZ ⟨hz1, hz2⟩ hZ2 hx3 hx32 hA) rfl rfl ⟨by decide, by decide, Nat.le_of_ble_eq_true rfl⟩ (fun w5 hw5 => ?_)
          obtain ⟨s5, H5, e73, e3⟩ := hw5
          obtain ⟨u5, hu5, HU5⟩ := H5.undo
          refine kw_istore (pc := 384) dL_sends_384 (by decide) rfl ?_
          refine kW.locs (L' := [(0, _), (7, _), (9, _), (10, _), (11, _), (12, _), (13, _), (15, _), (16, _), (17, _)]) ?_ ⟨rfl, rfl, rfl, rfl, rfl, rfl, rfl, rfl, rfl, rfl, trivial⟩
          refine kw_iload (pc := 386) dL_sends_386 rfl ?_
          refine kw_if_eq (tgt := 479) (pc := 388) dL_sends_388 (by decide) (fun h388 => ?_) (fun h388 => ?_)
          · exact absurd h388 (by decide)
          · refine kw_iload (pc := 391) dL_sends_391 rfl ?_
            refine kw_if_le (tgt := 406) (pc := 393) dL_sends_393 (by decide) (fun h393 => ?_) (fun h393 => ?_)
            · have h393 := (kLeI (a := r) (b := 0) Lr (by decide) rfl (rfl : (0 : Int32) = nI 0)).mp h393
              refine kw_iload (pc := 406) dL_sends_406 rfl ?_
              refine kw_aload_n (pc := 408) dL_sends_408 rfl ?_
              refine kw_iconst (v := 3) (pc := 409) dL_sends_409 (by decide) ?_
              refine kw_callSr (pc := 410) dL_sends_410 lL_102 (V0.settingE (j := 3) H5.v (rfl : (3 : Int32) = nI 3) (by decide)) rfl rfl ⟨by decide, by decide, Nat.le_of_ble_eq_true rfl⟩ ?_
              refine kw_icmp_le (tgt := 438) (pc := 413) dL_sends_413 (by decide) (fun h413 => ?_) (fun h413 => ?_)
              · have h413 := (kLeI (a := (oz - Z)) (b := x3) (Nat.lt_of_le_of_lt (Nat.sub_le _ _) Loz) Lx3 (kS (a := oz) (b := Z) rfl rfl (by omega)) (e3.trans hx3)).mp h413
                exfalso; omega
              · have h413 := mt (kLeI (a := (oz - Z)) (b := x3) (Nat.lt_of_le_of_lt (Nat.sub_le _ _) Loz) Lx3 (kS (a := oz) (b := Z) rfl rfl (by omega)) (e3.trans hx3)).mpr h413
                refine kw_iload (pc := 416) dL_sends_416 rfl ?_
                refine kw_iconst (v := 4) (pc := 418) dL_sends_418 (by decide) ?_
                refine kw_icmp_ne (tgt := 479) (pc := 419) dL_sends_419 (by decide) (fun h419 => ?_) (fun h419 => ?_)
                · exact absurd (by decide) h419
                · refine kw_aload_n (pc := 422) dL_sends_422 rfl ?_
                  refine kw_bipush (v := 6) (pc := 423) dL_sends_423 (by decide) ?_
                  refine kw_callSr (pc := 425) dL_sends_425 lL_98 (V0.countE (j := 6) H5.v (rfl : (6 : Int32) = nI 6) (by decide)) rfl rfl ⟨by decide, by decide, Nat.le_of_ble_eq_true rfl⟩ ?_
                  refine kw_iload (pc := 428) dL_sends_428 rfl ?_
                  refine kw_iconst (v := 1) (pc := 430) dL_sends_430 (by decide) ?_
                  refine kw_iadd (pc := 431) dL_sends_431 ?_
                  refine kw_icmp_ne (tgt := 479) (pc := 432) dL_sends_432 (by decide) (fun h432 => ?_) (fun h432 => ?_)
                  · exact (h432 e73).elim
                  · refine kw_goto (tgt := 475) (pc := 435) dL_sends_435 (by decide) ?_
                    refine kw_iconst (v := 1) (pc := 475) dL_sends_475 (by decide) ?_
                    refine kw_goto (tgt := 480) (pc := 476) dL_sends_476 (by decide) ?_
                    refine kw_istore (pc := 480) dL_sends_480 (by decide) rfl ?_
                    refine kW.locs (L' := [(0, _), (7, _), (13, _)]) ?_ ⟨rfl, rfl, rfl, trivial⟩
                    refine kw_iload (pc := 482) dL_sends_482 rfl ?_
                    refine kw_if_eq (tgt := 508) (pc := 484) dL_sends_484 (by decide) (fun h484 => ?_) (fun h484 => ?_)
                    · exact absurd h484 (by decide)
                    · refine kw_aload_n (pc := 487) dL_sends_487 rfl ?_
                      refine kw_callSw1 (pc := 488) dL_sends_488 lL_121 HU5 rfl rfl ⟨by decide, by decide, Nat.le_of_ble_eq_true rfl⟩ (fun w6 H6 => ?_)
                      refine kw_if_lt (tgt := 508) (pc := 491) dL_sends_491 (by decide) (fun h491 => ?_) (fun h491 => ?_)
                      · have h491 := (kLtI (a := u5) (b := 0) (by omega) (by decide) rfl (rfl : (0 : Int32) = nI 0)).mp h491
                        exfalso; omega
                      · have h491 := mt (kLtI (a := u5) (b := 0) (by omega) (by decide) rfl (rfl : (0 : Int32) = nI 0)).mpr h491
                        refine kw_aload_n (pc := 494) dL_sends_494 rfl ?_
                        refine kw_callSr (pc := 495) dL_sends_495 lL_127 (V0.print H6.v) rfl rfl ⟨by decide, by decide, Nat.le_of_ble_eq_true rfl⟩ ?_
                        refine kw_lload (pc := 498) dL_sends_498 rfl ?_
                        refine kw_lcmp (pc := 500) dL_sends_500 ?_
                        refine kw_if_ne (tgt := 508) (pc := 501) dL_sends_501 (by decide) (fun h501 => ?_) (fun h501 => ?_)
                        · exact absurd lgc0 h501
                        · refine kw_iconst (v := 1) (pc := 504) dL_sends_504 (by decide) ?_
                          refine kw_goto (tgt := 509) (pc := 505) dL_sends_505 (by decide) ?_
                          exact kw_ireturn nlL_sends (pc := 509) dL_sends_509 rfl (by first | rfl | exact b2i_z _ | exact hbool) ⟨rfl, H6⟩
            · have h393 := mt (kLeI (a := r) (b := 0) Lr (by decide) rfl (rfl : (0 : Int32) = nI 0)).mpr h393
              exfalso; omega
    · have hq := mt hri.mpr hr0
      refine kw_iload (pc := 347) dL_sends_347 rfl ?_
      refine kw_iload (pc := 349) dL_sends_349 rfl ?_
      refine kw_icmp_le (tgt := 362) (pc := 351) dL_sends_351 (by decide) (fun h351 => ?_) (fun h351 => ?_)
      · have h351 := (kLeI (a := oz) (b := Z) Loz LZ rfl rfl).mp h351
        refine kw_iload (pc := 362) dL_sends_362 rfl ?_
        refine kw_iload (pc := 364) dL_sends_364 rfl ?_
        refine kw_isub (pc := 366) dL_sends_366 ?_
        refine kw_istore (pc := 367) dL_sends_367 (by decide) rfl ?_
        refine kW.locs (L' := [(0, _), (1, _), (7, _), (9, _), (10, _), (11, _), (13, _), (15, _), (16, _)]) ?_ ⟨rfl, rfl, rfl, rfl, rfl, rfl, rfl, rfl, rfl, trivial⟩
        refine kw_aload_n (pc := 369) dL_sends_369 rfl ?_
        refine kw_bipush (v := 6) (pc := 370) dL_sends_370 (by decide) ?_
        refine kw_callSr (pc := 372) dL_sends_372 lL_98 (V0.countE (j := 6) H4.v (rfl : (6 : Int32) = nI 6) (by decide)) rfl rfl ⟨by decide, by decide, Nat.le_of_ble_eq_true rfl⟩ ?_
        refine kw_istore (pc := 375) dL_sends_375 (by decide) rfl ?_
        refine kW.locs (L' := [(0, _), (1, _), (7, _), (9, _), (10, _), (11, _), (13, _), (15, _), (16, _), (17, _)]) ?_ ⟨rfl, rfl, rfl, rfl, rfl, rfl, rfl, rfl, rfl, rfl, trivial⟩
        refine kw_aload_n (pc := 377) dL_sends_377 rfl ?_
        refine kw_iload_n (pc := 378) dL_sends_378 rfl ?_
        refine kw_iload (pc := 379) dL_sends_379 rfl ?_
        refine kw_callSw1 (pc := 381) dL_sends_381 lL_87 (H4.dispR hp hr0 ⟨hz1, hz2⟩) rfl rfl ⟨by decide, by decide, Nat.le_of_ble_eq_true rfl⟩ (fun w5 hw5 => ?_)
        obtain ⟨s5, H5⟩ := hw5
        obtain ⟨u5, hu5, HU5⟩ := H5.undo
        refine kw_istore (pc := 384) dL_sends_384 (by decide) rfl ?_
        refine kW.locs (L' := [(0, _), (7, _), (9, _), (10, _), (11, _), (12, _), (13, _), (15, _), (16, _), (17, _)]) ?_ ⟨rfl, rfl, rfl, rfl, rfl, rfl, rfl, rfl, rfl, rfl, trivial⟩
        refine kw_iload (pc := 386) dL_sends_386 rfl ?_
        refine kw_if_eq (tgt := 479) (pc := 388) dL_sends_388 (by decide) (fun h388 => ?_) (fun h388 => ?_)
        · exact absurd h388 (by decide)
        · refine kw_iload (pc := 391) dL_sends_391 rfl ?_
          refine kw_if_le (tgt := 406) (pc := 393) dL_sends_393 (by decide) (fun h393 => ?_) (fun h393 => ?_)
          · have h393 := (kLeI (a := r) (b := 0) Lr (by decide) rfl (rfl : (0 : Int32) = nI 0)).mp h393
            exfalso; omega
          · have h393 := mt (kLeI (a := r) (b := 0) Lr (by decide) rfl (rfl : (0 : Int32) = nI 0)).mpr h393
            refine kw_iload (pc := 396) dL_sends_396 rfl ?_
            refine kw_iload (pc := 398) dL_sends_398 rfl ?_
            refine kw_icmp_ne (tgt := 479) (pc := 400) dL_sends_400 (by decide) (fun h400 => ?_) (fun h400 => ?_)
            · have h400 := mt (kEqI (a := r) (b := r) Lr Lr hr rfl).mpr h400
              exfalso; omega
            · have h400 := (kEqI (a := r) (b := r) Lr Lr hr rfl).mp h400
              refine kw_goto (tgt := 475) (pc := 403) dL_sends_403 (by decide) ?_
              refine kw_iconst (v := 1) (pc := 475) dL_sends_475 (by decide) ?_
              refine kw_goto (tgt := 480) (pc := 476) dL_sends_476 (by decide) ?_
              refine kw_istore (pc := 480) dL_sends_480 (by decide) rfl ?_
              refine kW.locs (L' := [(0, _), (7, _), (13, _)]) ?_ ⟨rfl, rfl, rfl, trivial⟩
              refine kw_iload (pc := 482) dL_sends_482 rfl ?_
              refine kw_if_eq (tgt := 508) (pc := 484) dL_sends_484 (by decide) (fun h484 => ?_) (fun h484 => ?_)
              · exact absurd h484 (by decide)
              · refine kw_aload_n (pc := 487) dL_sends_487 rfl ?_
                refine kw_callSw1 (pc := 488) dL_sends_488 lL_121 HU5 rfl rfl ⟨by decide, by decide, Nat.le_of_ble_eq_true rfl⟩ (fun w6 H6 => ?_)
                refine kw_if_lt (tgt := 508) (pc := 491) dL_sends_491 (by decide) (fun h491 => ?_) (fun h491 => ?_)
                · have h491 := (kLtI (a := u5) (b := 0) (by omega) (by decide) rfl (rfl : (0 : Int32) = nI 0)).mp h491
                  exfalso; omega
                · have h491 := mt (kLtI (a := u5) (b := 0) (by omega) (by decide) rfl (rfl : (0 : Int32) = nI 0)).mpr h491
                  refine kw_aload_n (pc := 494) dL_sends_494 rfl ?_
                  refine kw_callSr (pc := 495) dL_sends_495 lL_127 (V0.print H6.v) rfl rfl ⟨by decide, by decide, Nat.le_of_ble_eq_true rfl⟩ ?_
                  refine kw_lload (pc := 498) dL_sends_498 rfl ?_
                  refine kw_lcmp (pc := 500) dL_sends_500 ?_
                  refine kw_if_ne (tgt := 508) (pc := 501) dL_sends_501 (by decide) (fun h501 => ?_) (fun h501 => ?_)
                  · exact absurd lgc0 h501
                  · refine kw_iconst (v := 1) (pc := 504) dL_sends_504 (by decide) ?_
                    refine kw_goto (tgt := 509) (pc := 505) dL_sends_505 (by decide) ?_
                    exact kw_ireturn nlL_sends (pc := 509) dL_sends_509 rfl (by first | rfl | exact b2i_z _ | exact hbool) ⟨rfl, H6⟩
      · have h351 := mt (kLeI (a := oz) (b := Z) Loz LZ rfl rfl).mpr h351
        refine kw_iload (pc := 354) dL_sends_354 rfl ?_
        refine kw_iload (pc := 356) dL_sends_356 rfl ?_
        refine kw_isub (pc := 358) dL_sends_358 ?_
        refine kw_goto (tgt := 367) (pc := 359) dL_sends_359 (by decide) ?_
        refine kw_istore (pc := 367) dL_sends_367 (by decide) rfl ?_
        refine kW.locs (L' := [(0, _), (1, _), (7, _), (9, _), (10, _), (11, _), (13, _), (15, _), (16, _)]) ?_ ⟨rfl, rfl, rfl, rfl, rfl, rfl, rfl, rfl, rfl, trivial⟩
        refine kw_aload_n (pc := 369) dL_sends_369 rfl ?_
        refine kw_bipush (v := 6) (pc := 370) dL_sends_370 (by decide) ?_
        refine kw_callSr (pc := 372) dL_sends_372 lL_98 (V0.countE (j := 6) H4.v (rfl : (6 : Int32) = nI 6) (by decide)) rfl rfl ⟨by decide, by decide, Nat.le_of_ble_eq_true rfl⟩ ?_
        refine kw_istore (pc := 375) dL_sends_375 (by decide) rfl ?_
        refine kW.locs (L' := [(0, _), (1, _), (7, _), (9, _), (10, _), (11, _), (13, _), (15, _), (16, _), (17, _)]) ?_ ⟨rfl, rfl, rfl, rfl, rfl, rfl, rfl, rfl, rfl, rfl, trivial⟩
        refine kw_aload_n (pc := 377) dL_sends_377 rfl ?_
        refine kw_iload_n (pc := 378) dL_sends_378 rfl ?_
        refine kw_iload (pc := 379) dL_sends_379 rfl ?_
        refine kw_callSw1 (pc := 381) dL_sends_381 lL_87 (H4.dispR hp hr0 ⟨hz1, hz2⟩) rfl rfl ⟨by decide, by decide, Nat.le_of_ble_eq_true rfl⟩ (fun w5 hw5 => ?_)
        obtain ⟨s5, H5⟩ := hw5
        obtain ⟨u5, hu5, HU5⟩ := H5.undo
        refine kw_istore (pc := 384) dL_sends_384 (by decide) rfl ?_
        refine kW.locs (L' := [(0, _), (7, _), (9, _), (10, _), (11, _), (12, _), (13, _), (15, _), (16, _), (17, _)]) ?_ ⟨rfl, rfl, rfl, rfl, rfl, rfl, rfl, rfl, rfl, rfl, trivial⟩
        refine kw_iload (pc := 386) dL_sends_386 rfl ?_
        refine kw_if_eq (tgt := 479) (pc := 388) dL_sends_388 (by decide) (fun h388 => ?_) (fun h388 => ?_)
        · exact absurd h388 (by decide)
        · refine kw_iload (pc := 391) dL_sends_391 rfl ?_
          refine kw_if_le (tgt := 406) (pc := 393) dL_sends_393 (by decide) (fun h393 => ?_) (fun h393 => ?_)
          · have h393 := (kLeI (a := r) (b := 0) Lr (by decide) rfl (rfl : (0 : Int32) = nI 0)).mp h393
            exfalso; omega
          · have h393 := mt (kLeI (a := r) (b := 0) Lr (by decide) rfl (rfl : (0 : Int32) = nI 0)).mpr h393
            refine kw_iload (pc := 396) dL_sends_396 rfl ?_
            refine kw_iload (pc := 398) dL_sends_398 rfl ?_
            refine kw_icmp_ne (tgt := 479) (pc := 400) dL_sends_400 (by decide) (fun h400 => ?_) (fun h400 => ?_)
            · have h400 := mt (kEqI (a := r) (b := r) Lr Lr hr rfl).mpr h400
              exfalso; omega
            · have h400 := (kEqI (a := r) (b := r) Lr Lr hr rfl).mp h400
              refine kw_goto (tgt := 475) (pc := 403) dL_sends_403 (by decide) ?_
              refine kw_iconst (v := 1) (pc := 475) dL_sends_475 (by decide) ?_
              refine kw_goto (tgt := 480) (pc := 476) dL_sends_476 (by decide) ?_
              refine kw_istore (pc := 480) dL_sends_480 (by decide) rfl ?_
              refine kW.locs (L' := [(0, _), (7, _), (13, _)]) ?_ ⟨rfl, rfl, rfl, trivial⟩
              refine kw_iload (pc := 482) dL_sends_482 rfl ?_
              refine kw_if_eq (tgt := 508) (pc := 484) dL_sends_484 (by decide) (fun h484 => ?_) (fun h484 => ?_)
              · exact absurd h484 (by decide)
              · refine kw_aload_n (pc := 487) dL_sends_487 rfl ?_
                refine kw_callSw1 (pc := 488) dL_sends_488 lL_121 HU5 rfl rfl ⟨by decide, by decide, Nat.le_of_ble_eq_true rfl⟩ (fun w6 H6 => ?_)
                refine kw_if_lt (tgt := 508) (pc := 491) dL_sends_491 (by decide) (fun h491 => ?_) (fun h491 => ?_)
                · have h491 := (kLtI (a := u5) (b := 0) (by omega) (by decide) rfl (rfl : (0 : Int32) = nI 0)).mp h491
                  exfalso; omega
                · have h491 := mt (kLtI (a := u5) (b := 0) (by omega) (by decide) rfl (rfl : (0 : Int32) = nI 0)).mpr h491
                  refine kw_aload_n (pc := 494) dL_sends_494 rfl ?_
                  refine kw_callSr (pc := 495) dL_sends_495 lL_127 (V0.print H6.v) rfl rfl ⟨by decide, by decide, Nat.le_of_ble_eq_true rfl⟩ ?_
                  refine kw_lload (pc := 498) dL_sends_498 rfl ?_
                  refine kw_lcmp (pc := 500) dL_sends_500 ?_
                  refine kw_if_ne (tgt := 508) (pc := 501) dL_sends_501 (by decide) (fun h501 => ?_) (fun h501 => ?_)
                  · exact absurd lgc0 h501
                  · refine kw_iconst (v := 1) (pc := 504) dL_sends_504 (by decide) ?_
                    refine kw_goto (tgt := 509) (pc := 505) dL_sends_505 (by decide) ?_
                    exact kw_ireturn nlL_sends (pc := 509) dL_sends_509 rfl (by first | rfl | exact b2i_z _ | exact hbool) ⟨rfl, H6⟩
  have t313 : ∀ w4 : kM, K m s0 c w4 → kW (0, fun _ => 0) mL_sends 14 (fun o' w' _ => o' = .inl (some (.int 1)) ∧ (K m s0 c) w') 3 18 n w4 313 [(0, .ref 0), (1, .int (nI p)), (2, .int (nI y - 30)), (7, .long (PR s0 c)), (9, .int (nI W)), (10, .int (nI r)), (11, .int (nI Z)), (13, .int 1)] [] := by
    intro w4 H4
    obtain ⟨s1, s2⟩ := sum_by hZ2 hy
    by_cases hzy : 31 ≤ Z + y
    · obtain ⟨t, ht⟩ : ∃ t, t = Z + y - 30 := ⟨_, rfl⟩
      have hsum := s1 hzy
      rw [← ht] at hsum
      refine kw_iload (pc := 313) dL_sends_313 rfl ?_
      refine kw_iload_n (pc := 315) dL_sends_315 rfl ?_
      refine kw_iadd (pc := 316) dL_sends_316 ?_
      refine kw_iconst (v := 1) (pc := 317) dL_sends_317 (by decide) ?_
      refine kw_icmp_ge (tgt := 325) (pc := 318) dL_sends_318 (by decide) (fun h318 => ?_) (fun h318 => ?_)
      · have h318 := (kLeI (a := 1) (b := t) (by decide) (by omega) (rfl : (1 : Int32) = nI 1) hsum).mp h318
        refine kw_iload (pc := 325) dL_sends_325 rfl ?_
        refine kw_iload_n (pc := 327) dL_sends_327 rfl ?_
        refine kw_iadd (pc := 328) dL_sends_328 ?_
        refine kw_sipush (v := 999) (pc := 329) dL_sends_329 (by decide) ?_
        refine kw_icmp_le (tgt := 341) (pc := 332) dL_sends_332 (by decide) (fun h332 => ?_) (fun h332 => ?_)
        · have h332 := (kLeI (a := t) (b := 999) (by omega) (by decide) hsum (rfl : (999 : Int32) = nI 999)).mp h332
          refine kw_iload (pc := 341) dL_sends_341 rfl ?_
          refine kw_iload_n (pc := 343) dL_sends_343 rfl ?_
          refine kw_iadd (pc := 344) dL_sends_344 ?_
          refine kw_istore (pc := 345) dL_sends_345 (by decide) rfl ?_
          exact kW.locs (t347 t w4 (by omega) (by omega) H4) ⟨rfl, rfl, rfl, rfl, rfl, rfl, rfl, kgE rfl hsum, trivial⟩
        · have h332 := mt (kLeI (a := t) (b := 999) (by omega) (by decide) hsum (rfl : (999 : Int32) = nI 999)).mpr h332
          refine kw_sipush (v := 999) (pc := 335) dL_sends_335 (by decide) ?_
          refine kw_goto (tgt := 345) (pc := 338) dL_sends_338 (by decide) ?_
          refine kw_istore (pc := 345) dL_sends_345 (by decide) rfl ?_
          exact kW.locs (t347 999 w4 (by omega) (by omega) H4) ⟨rfl, rfl, rfl, rfl, rfl, rfl, rfl, kgE rfl (rfl : (999 : Int32) = nI 999), trivial⟩
      · have h318 := mt (kLeI (a := 1) (b := t) (by decide) (by omega) (rfl : (1 : Int32) = nI 1) hsum).mpr h318
        exfalso; omega
    · have hneg := s2 hzy
      refine kw_iload (pc := 313) dL_sends_313 rfl ?_
      refine kw_iload_n (pc := 315) dL_sends_315 rfl ?_
      refine kw_iadd (pc := 316) dL_sends_316 ?_
      refine kw_iconst (v := 1) (pc := 317) dL_sends_317 (by decide) ?_
      refine kw_icmp_ge (tgt := 325) (pc := 318) dL_sends_318 (by decide) (fun h318 => ?_) (fun h318 => ?_)
      · exact absurd h318 hneg
      · refine kw_iconst (v := 1) (pc := 321) dL_sends_321 (by decide) ?_
        refine kw_goto (tgt := 345) (pc := 322) dL_sends_322 (by decide) ?_
        refine kw_istore (pc := 345) dL_sends_345 (by decide) rfl ?_
        exact kW.locs (t347 1 w4 (by omega) (by omega) H4) ⟨rfl, rfl, rfl, rfl, rfl, rfl, rfl, kgE rfl (rfl : (1 : Int32) = nI 1), trivial⟩
  by_cases hr0 : pR s0 (pa s0 (21 + 7 * p)) = 0
  · have hq := hri.mp hr0
    refine kw_aload_n (pc := 0) dL_sends_0 rfl ?_
    refine kw_iconst (v := 3) (pc := 1) dL_sends_1 (by decide) ?_
    refine kw_callSr (pc := 2) dL_sends_2 lL_98 (V0.countE (j := 3) h.v (rfl : (3 : Int32) = nI 3) (by decide)) rfl rfl ⟨by decide, by decide, Nat.le_of_ble_eq_true rfl⟩ ?_
    refine kw_istore_n (pc := 5) dL_sends_5 (by decide) rfl ?_
    refine kW.locs (L' := [(0, _), (1, _), (2, _), (3, _)]) ?_ ⟨rfl, rfl, rfl, rfl, trivial⟩
    refine kw_aload_n (pc := 6) dL_sends_6 rfl ?_
    refine kw_iconst (v := 4) (pc := 7) dL_sends_7 (by decide) ?_
    refine kw_callSr (pc := 8) dL_sends_8 lL_98 (V0.countE (j := 4) h.v (rfl : (4 : Int32) = nI 4) (by decide)) rfl rfl ⟨by decide, by decide, Nat.le_of_ble_eq_true rfl⟩ ?_
    refine kw_istore (pc := 11) dL_sends_11 (by decide) rfl ?_
    refine kW.locs (L' := [(0, _), (1, _), (2, _), (3, _), (4, _)]) ?_ ⟨rfl, rfl, rfl, rfl, rfl, trivial⟩
    refine kw_aload_n (pc := 13) dL_sends_13 rfl ?_
    refine kw_bipush (v := 7) (pc := 14) dL_sends_14 (by decide) ?_
    refine kw_callSr (pc := 16) dL_sends_16 lL_98 (V0.countE (j := 7) h.v (rfl : (7 : Int32) = nI 7) (by decide)) rfl rfl ⟨by decide, by decide, Nat.le_of_ble_eq_true rfl⟩ ?_
    refine kw_istore (pc := 19) dL_sends_19 (by decide) rfl ?_
    refine kW.locs (L' := [(0, _), (1, _), (2, _), (3, _), (4, _), (5, _)]) ?_ ⟨rfl, rfl, rfl, rfl, rfl, rfl, trivial⟩
    refine kw_aload_n (pc := 21) dL_sends_21 rfl ?_
    refine kw_iconst (v := 0) (pc := 22) dL_sends_22 (by decide) ?_
    refine kw_callSr (pc := 23) dL_sends_23 lL_98 (V0.countE (j := 0) h.v (rfl : (0 : Int32) = nI 0) (by decide)) rfl rfl ⟨by decide, by decide, Nat.le_of_ble_eq_true rfl⟩ ?_
    refine kw_istore (pc := 26) dL_sends_26 (by decide) rfl ?_
    refine kW.locs (L' := [(0, _), (1, _), (2, _), (3, _), (4, _), (5, _), (6, _)]) ?_ ⟨rfl, rfl, rfl, rfl, rfl, rfl, rfl, trivial⟩
    refine kw_aload_n (pc := 28) dL_sends_28 rfl ?_
    refine kw_callSr (pc := 29) dL_sends_29 lL_127 (V0.print h.v) rfl rfl ⟨by decide, by decide, Nat.le_of_ble_eq_true rfl⟩ ?_
    refine kw_lstore (pc := 32) dL_sends_32 (by decide) rfl ?_
    refine kW.locs (L' := [(0, _), (1, _), (2, _), (3, _), (4, _), (5, _), (6, _), (7, _)]) ?_ ⟨rfl, rfl, rfl, rfl, rfl, rfl, rfl, rfl, trivial⟩
    refine kw_iload_n (pc := 34) dL_sends_34 rfl ?_
    refine kw_iload (pc := 35) dL_sends_35 rfl ?_
    refine kw_icmp_lt (tgt := 87) (pc := 37) dL_sends_37 (by decide) (fun h37 => ?_) (fun h37 => ?_)
    · have h37 := (kLtI (a := p) (b := c) Lp Lc rfl N0.2.1).mp h37
      refine kw_aload_n (pc := 87) dL_sends_87 rfl ?_
      refine kw_iload_n (pc := 88) dL_sends_88 rfl ?_
      refine kw_bipush (v := 9) (pc := 89) dL_sends_89 (by decide) ?_
      refine kw_callSr (pc := 91) dL_sends_91 lL_100 (V0.parcelE (k := p) (j := 9) h.v rfl (rfl : (9 : Int32) = nI 9) hp (by decide)) rfl rfl ⟨by decide, by decide, Nat.le_of_ble_eq_true rfl⟩ ?_
      refine kw_istore (pc := 94) dL_sends_94 (by decide) rfl ?_
      refine kW.locs (L' := [(0, _), (1, _), (2, _), (3, _), (4, _), (5, _), (6, _), (7, _), (9, _)]) ?_ ⟨rfl, rfl, rfl, rfl, rfl, rfl, rfl, rfl, rfl, trivial⟩
      refine kw_aload_n (pc := 96) dL_sends_96 rfl ?_
      refine kw_iload_n (pc := 97) dL_sends_97 rfl ?_
      refine kw_bipush (v := 10) (pc := 98) dL_sends_98 (by decide) ?_
      refine kw_callSr (pc := 100) dL_sends_100 lL_100 (V0.parcelE (k := p) (j := 10) h.v rfl (rfl : (10 : Int32) = nI 10) hp (by decide)) rfl rfl ⟨by decide, by decide, Nat.le_of_ble_eq_true rfl⟩ ?_
      refine kw_istore (pc := 103) dL_sends_103 (by decide) rfl ?_
      refine kW.locs (L' := [(0, _), (1, _), (2, _), (3, _), (4, _), (5, _), (6, _), (7, _), (9, _), (10, _)]) ?_ ⟨rfl, rfl, rfl, rfl, rfl, rfl, rfl, rfl, rfl, rfl, trivial⟩
      refine kw_aload_n (pc := 105) dL_sends_105 rfl ?_
      refine kw_iload_n (pc := 106) dL_sends_106 rfl ?_
      refine kw_bipush (v := 8) (pc := 107) dL_sends_107 (by decide) ?_
      refine kw_callSr (pc := 109) dL_sends_109 lL_100 (V0.parcelE (k := p) (j := 8) h.v rfl (rfl : (8 : Int32) = nI 8) hp (by decide)) rfl rfl ⟨by decide, by decide, Nat.le_of_ble_eq_true rfl⟩ ?_
      refine kw_istore (pc := 112) dL_sends_112 (by decide) rfl ?_
      refine kW.locs (L' := [(0, _), (1, _), (2, _), (3, _), (4, _), (5, _), (6, _), (7, _), (9, _), (10, _), (11, _)]) ?_ ⟨rfl, rfl, rfl, rfl, rfl, rfl, rfl, rfl, rfl, rfl, rfl, trivial⟩
      refine kw_aload_n (pc := 114) dL_sends_114 rfl ?_
      refine kw_iload_n (pc := 115) dL_sends_115 rfl ?_
      refine kw_callSw1 (pc := 116) dL_sends_116 lL_84 (h.sendT hp hr0) rfl rfl ⟨by decide, by decide, Nat.le_of_ble_eq_true rfl⟩ (fun w1 hw1 => ?_)
      obtain ⟨s1, H1, e70, e71⟩ := hw1
      have e20 := H1.v.ok.2.1
      obtain ⟨u1, hu1, HU1⟩ := H1.undo
      refine kw_istore (pc := 119) dL_sends_119 (by decide) rfl ?_
      refine kW.locs (L' := [(0, _), (1, _), (2, _), (3, _), (4, _), (5, _), (6, _), (7, _), (9, _), (10, _), (11, _), (12, _)]) ?_ ⟨rfl, rfl, rfl, rfl, rfl, rfl, rfl, rfl, rfl, rfl, rfl, rfl, trivial⟩
      refine kw_iload (pc := 121) dL_sends_121 rfl ?_
      refine kw_if_ne (tgt := 180) (pc := 123) dL_sends_123 (by decide) (fun h123 => ?_) (fun h123 => ?_)
      · have h123 := mt (kEqI (a := r) (b := 0) Lr (by decide) hr (rfl : (0 : Int32) = nI 0)).mpr h123
        exfalso; omega
      · have h123 := (kEqI (a := r) (b := 0) Lr (by decide) hr (rfl : (0 : Int32) = nI 0)).mp h123
        refine kw_iload (pc := 126) dL_sends_126 rfl ?_
        refine kw_bipush (v := 10) (pc := 128) dL_sends_128 (by decide) ?_
        refine kw_iload (pc := 130) dL_sends_130 rfl ?_
        refine kw_iadd (pc := 132) dL_sends_132 ?_
        refine kw_icmp_ne (tgt := 176) (pc := 133) dL_sends_133 (by decide) (fun h133 => ?_) (fun h133 => ?_)
        · have h133 := mt (kEqI (a := (10 + W)) (b := (10 + W)) (by omega) (by omega) (kA (a := 10) (b := W) rfl hW) (kA (a := 10) (b := W) (rfl : (10 : Int32) = nI 10) hW)).mpr h133
          exfalso; omega
        · have h133 := (kEqI (a := (10 + W)) (b := (10 + W)) (by omega) (by omega) (kA (a := 10) (b := W) rfl hW) (kA (a := 10) (b := W) (rfl : (10 : Int32) = nI 10) hW)).mp h133
          refine kw_aload_n (pc := 136) dL_sends_136 rfl ?_
          refine kw_iconst (v := 3) (pc := 137) dL_sends_137 (by decide) ?_
          refine kw_callSr (pc := 138) dL_sends_138 lL_98 (V0.countE (j := 3) H1.v (rfl : (3 : Int32) = nI 3) (by decide)) rfl rfl ⟨by decide, by decide, Nat.le_of_ble_eq_true rfl⟩ ?_
          refine kw_iload_n (pc := 141) dL_sends_141 rfl ?_
          refine kw_iload (pc := 142) dL_sends_142 rfl ?_
          refine kw_iadd (pc := 144) dL_sends_144 ?_
          refine kw_icmp_ne (tgt := 176) (pc := 145) dL_sends_145 (by decide) (fun h145 => ?_) (fun h145 => ?_)
          · exact (h145 e70).elim
          · refine kw_aload_n (pc := 148) dL_sends_148 rfl ?_
            refine kw_iconst (v := 4) (pc := 149) dL_sends_149 (by decide) ?_
            refine kw_callSr (pc := 150) dL_sends_150 lL_98 (V0.countE (j := 4) H1.v (rfl : (4 : Int32) = nI 4) (by decide)) rfl rfl ⟨by decide, by decide, Nat.le_of_ble_eq_true rfl⟩ ?_
            refine kw_iload (pc := 153) dL_sends_153 rfl ?_
            refine kw_iconst (v := 1) (pc := 155) dL_sends_155 (by decide) ?_
            refine kw_iadd (pc := 156) dL_sends_156 ?_
            refine kw_icmp_ne (tgt := 176) (pc := 157) dL_sends_157 (by decide) (fun h157 => ?_) (fun h157 => ?_)
            · exact (h157 e71).elim
            · refine kw_aload_n (pc := 160) dL_sends_160 rfl ?_
              refine kw_iconst (v := 0) (pc := 161) dL_sends_161 (by decide) ?_
              refine kw_callSr (pc := 162) dL_sends_162 lL_98 (V0.countE (j := 0) H1.v (rfl : (0 : Int32) = nI 0) (by decide)) rfl rfl ⟨by decide, by decide, Nat.le_of_ble_eq_true rfl⟩ ?_
              refine kw_iload (pc := 165) dL_sends_165 rfl ?_
              refine kw_iconst (v := 1) (pc := 167) dL_sends_167 (by decide) ?_
              refine kw_isub (pc := 168) dL_sends_168 ?_
              refine kw_icmp_ne (tgt := 176) (pc := 169) dL_sends_169 (by decide) (fun h169 => ?_) (fun h169 => ?_)
              · have h169 := mt (kEqI (a := (c - 1)) (b := (c - 1)) (by omega) (Nat.lt_of_le_of_lt (Nat.sub_le _ _) Lc) e20 (kS (a := c) (b := 1) N0.2.1 (rfl : (1 : Int32) = nI 1) (by omega))).mpr h169
                exfalso; omega
              · have h169 := (kEqI (a := (c - 1)) (b := (c - 1)) (by omega) (Nat.lt_of_le_of_lt (Nat.sub_le _ _) Lc) e20 (kS (a := c) (b := 1) N0.2.1 (rfl : (1 : Int32) = nI 1) (by omega))).mp h169
                refine kw_iconst (v := 1) (pc := 172) dL_sends_172 (by decide) ?_
                refine kw_goto (tgt := 224) (pc := 173) dL_sends_173 (by decide) ?_
                refine kw_istore (pc := 224) dL_sends_224 (by decide) rfl ?_
                refine kW.locs (L' := [(0, _), (1, _), (2, _), (7, _), (9, _), (10, _), (11, _), (13, _)]) ?_ ⟨rfl, rfl, rfl, rfl, rfl, rfl, rfl, rfl, trivial⟩
                refine kw_iload (pc := 226) dL_sends_226 rfl ?_
                refine kw_if_eq (tgt := 252) (pc := 228) dL_sends_228 (by decide) (fun h228 => ?_) (fun h228 => ?_)
                · exact absurd h228 (by decide)
                · refine kw_aload_n (pc := 231) dL_sends_231 rfl ?_
                  refine kw_callSw1 (pc := 232) dL_sends_232 lL_121 HU1 rfl rfl ⟨by decide, by decide, Nat.le_of_ble_eq_true rfl⟩ (fun w2 H2 => ?_)
                  refine kw_if_lt (tgt := 252) (pc := 235) dL_sends_235 (by decide) (fun h235 => ?_) (fun h235 => ?_)
                  · have h235 := (kLtI (a := u1) (b := 0) (by omega) (by decide) rfl (rfl : (0 : Int32) = nI 0)).mp h235
                    exfalso; omega
                  · have h235 := mt (kLtI (a := u1) (b := 0) (by omega) (by decide) rfl (rfl : (0 : Int32) = nI 0)).mpr h235
                    refine kw_aload_n (pc := 238) dL_sends_238 rfl ?_
                    refine kw_callSr (pc := 239) dL_sends_239 lL_127 (V0.print H2.v) rfl rfl ⟨by decide, by decide, Nat.le_of_ble_eq_true rfl⟩ ?_
                    refine kw_lload (pc := 242) dL_sends_242 rfl ?_
                    refine kw_lcmp (pc := 244) dL_sends_244 ?_
                    refine kw_if_ne (tgt := 252) (pc := 245) dL_sends_245 (by decide) (fun h245 => ?_) (fun h245 => ?_)
                    · exact absurd lgc0 h245
                    · refine kw_iconst (v := 1) (pc := 248) dL_sends_248 (by decide) ?_
                      refine kw_goto (tgt := 253) (pc := 249) dL_sends_249 (by decide) ?_
                      refine kw_istore (pc := 253) dL_sends_253 (by decide) rfl ?_
                      refine kW.locs (L' := [(0, _), (1, _), (2, _), (7, _), (9, _), (10, _), (11, _), (13, _)]) ?_ ⟨rfl, rfl, rfl, rfl, rfl, rfl, rfl, rfl, trivial⟩
                      refine kw_aload_n (pc := 255) dL_sends_255 rfl ?_
                      refine kw_iload_n (pc := 256) dL_sends_256 rfl ?_
                      refine kw_iload (pc := 257) dL_sends_257 rfl ?_
                      refine kw_callSw1 (pc := 259) dL_sends_259 lL_87 (H2.dispTE hZ hp hr0 hZ ⟨hZ1, hZ2⟩ hZ2 hx3 hx32 (by rw [if_pos (Nat.le_refl _)]; omega)) rfl rfl ⟨by decide, by decide, Nat.le_of_ble_eq_true rfl⟩ (fun w3 hw3 => ?_)
                      obtain ⟨s3, H3, -⟩ := hw3
                      obtain ⟨u3, hu3, HU3⟩ := H3.undo
                      refine kw_istore (pc := 262) dL_sends_262 (by decide) rfl ?_
                      refine kW.locs (L' := [(0, _), (1, _), (2, _), (7, _), (9, _), (10, _), (11, _), (13, _), (14, _)]) ?_ ⟨rfl, rfl, rfl, rfl, rfl, rfl, rfl, rfl, rfl, trivial⟩
                      refine kw_iload (pc := 264) dL_sends_264 rfl ?_
                      refine kw_if_eq (tgt := 310) (pc := 266) dL_sends_266 (by decide) (fun h266 => ?_) (fun h266 => ?_)
                      · exact absurd h266 (by decide)
                      · refine kw_iload (pc := 269) dL_sends_269 rfl ?_
                        refine kw_iload (pc := 271) dL_sends_271 rfl ?_
                        refine kw_if_ne (tgt := 284) (pc := 273) dL_sends_273 (by decide) (fun h273 => ?_) (fun h273 => ?_)
                        · have h273 := mt (kEqI (a := r) (b := 0) Lr (by decide) hr (rfl : (0 : Int32) = nI 0)).mpr h273
                          exfalso; omega
                        · have h273 := (kEqI (a := r) (b := 0) Lr (by decide) hr (rfl : (0 : Int32) = nI 0)).mp h273
                          refine kw_bipush (v := 10) (pc := 276) dL_sends_276 (by decide) ?_
                          refine kw_iload (pc := 278) dL_sends_278 rfl ?_
                          refine kw_iadd (pc := 280) dL_sends_280 ?_
                          refine kw_goto (tgt := 286) (pc := 281) dL_sends_281 (by decide) ?_
                          refine kw_icmp_ne (tgt := 310) (pc := 286) dL_sends_286 (by decide) (fun h286 => ?_) (fun h286 => ?_)
                          · have h286 := mt (kEqI (a := (10 + W)) (b := (10 + W)) (by omega) (by omega) (kA (a := 10) (b := W) rfl hWZ) (kA (a := 10) (b := W) (rfl : (10 : Int32) = nI 10) hW)).mpr h286
                            exfalso; omega
                          · have h286 := (kEqI (a := (10 + W)) (b := (10 + W)) (by omega) (by omega) (kA (a := 10) (b := W) rfl hWZ) (kA (a := 10) (b := W) (rfl : (10 : Int32) = nI 10) hW)).mp h286
                            refine kw_aload_n (pc := 289) dL_sends_289 rfl ?_
                            refine kw_callSw1 (pc := 290) dL_sends_290 lL_121 HU3 rfl rfl ⟨by decide, by decide, Nat.le_of_ble_eq_true rfl⟩ (fun w4 H4 => ?_)
                            refine kw_if_lt (tgt := 310) (pc := 293) dL_sends_293 (by decide) (fun h293 => ?_) (fun h293 => ?_)
                            · have h293 := (kLtI (a := u3) (b := 0) (by omega) (by decide) rfl (rfl : (0 : Int32) = nI 0)).mp h293
                              exfalso; omega
                            · have h293 := mt (kLtI (a := u3) (b := 0) (by omega) (by decide) rfl (rfl : (0 : Int32) = nI 0)).mpr h293
                              refine kw_aload_n (pc := 296) dL_sends_296 rfl ?_
                              refine kw_callSr (pc := 297) dL_sends_297 lL_127 (V0.print H4.v) rfl rfl ⟨by decide, by decide, Nat.le_of_ble_eq_true rfl⟩ ?_
                              refine kw_lload (pc := 300) dL_sends_300 rfl ?_
                              refine kw_lcmp (pc := 302) dL_sends_302 ?_
                              refine kw_if_ne (tgt := 310) (pc := 303) dL_sends_303 (by decide) (fun h303 => ?_) (fun h303 => ?_)
                              · exact absurd lgc0 h303
                              · refine kw_iconst (v := 1) (pc := 306) dL_sends_306 (by decide) ?_
                                refine kw_goto (tgt := 311) (pc := 307) dL_sends_307 (by decide) ?_
                                refine kw_istore (pc := 311) dL_sends_311 (by decide) rfl ?_
                                exact kW.locs (t313 w4 H4) ⟨rfl, rfl, rfl, rfl, kgE rfl hW, kgE rfl hr, kgE rfl hZ, rfl, trivial⟩
    · have h37 := mt (kLtI (a := p) (b := c) Lp Lc rfl N0.2.1).mpr h37
      exfalso; omega
  · have hq := mt hri.mpr hr0
    refine kw_aload_n (pc := 0) dL_sends_0 rfl ?_
    refine kw_iconst (v := 3) (pc := 1) dL_sends_1 (by decide) ?_
    refine kw_callSr (pc := 2) dL_sends_2 lL_98 (V0.countE (j := 3) h.v (rfl : (3 : Int32) = nI 3) (by decide)) rfl rfl ⟨by decide, by decide, Nat.le_of_ble_eq_true rfl⟩ ?_
    refine kw_istore_n (pc := 5) dL_sends_5 (by decide) rfl ?_
    refine kW.locs (L' := [(0, _), (1, _), (2, _), (3, _)]) ?_ ⟨rfl, rfl, rfl, rfl, trivial⟩
    refine kw_aload_n (pc := 6) dL_sends_6 rfl ?_
    refine kw_iconst (v := 4) (pc := 7) dL_sends_7 (by decide) ?_
    refine kw_callSr (pc := 8) dL_sends_8 lL_98 (V0.countE (j := 4) h.v (rfl : (4 : Int32) = nI 4) (by decide)) rfl rfl ⟨by decide, by decide, Nat.le_of_ble_eq_true rfl⟩ ?_
    refine kw_istore (pc := 11) dL_sends_11 (by decide) rfl ?_
    refine kW.locs (L' := [(0, _), (1, _), (2, _), (3, _), (4, _)]) ?_ ⟨rfl, rfl, rfl, rfl, rfl, trivial⟩
    refine kw_aload_n (pc := 13) dL_sends_13 rfl ?_
    refine kw_bipush (v := 7) (pc := 14) dL_sends_14 (by decide) ?_
    refine kw_callSr (pc := 16) dL_sends_16 lL_98 (V0.countE (j := 7) h.v (rfl : (7 : Int32) = nI 7) (by decide)) rfl rfl ⟨by decide, by decide, Nat.le_of_ble_eq_true rfl⟩ ?_
    refine kw_istore (pc := 19) dL_sends_19 (by decide) rfl ?_
    refine kW.locs (L' := [(0, _), (1, _), (2, _), (3, _), (4, _), (5, _)]) ?_ ⟨rfl, rfl, rfl, rfl, rfl, rfl, trivial⟩
    refine kw_aload_n (pc := 21) dL_sends_21 rfl ?_
    refine kw_iconst (v := 0) (pc := 22) dL_sends_22 (by decide) ?_
    refine kw_callSr (pc := 23) dL_sends_23 lL_98 (V0.countE (j := 0) h.v (rfl : (0 : Int32) = nI 0) (by decide)) rfl rfl ⟨by decide, by decide, Nat.le_of_ble_eq_true rfl⟩ ?_
    refine kw_istore (pc := 26) dL_sends_26 (by decide) rfl ?_
    refine kW.locs (L' := [(0, _), (1, _), (2, _), (3, _), (4, _), (5, _), (6, _)]) ?_ ⟨rfl, rfl, rfl, rfl, rfl, rfl, rfl, trivial⟩
    refine kw_aload_n (pc := 28) dL_sends_28 rfl ?_
    refine kw_callSr (pc := 29) dL_sends_29 lL_127 (V0.print h.v) rfl rfl ⟨by decide, by decide, Nat.le_of_ble_eq_true rfl⟩ ?_
    refine kw_lstore (pc := 32) dL_sends_32 (by decide) rfl ?_
    refine kW.locs (L' := [(0, _), (1, _), (2, _), (3, _), (4, _), (5, _), (6, _), (7, _)]) ?_ ⟨rfl, rfl, rfl, rfl, rfl, rfl, rfl, rfl, trivial⟩
    refine kw_iload_n (pc := 34) dL_sends_34 rfl ?_
    refine kw_iload (pc := 35) dL_sends_35 rfl ?_
    refine kw_icmp_lt (tgt := 87) (pc := 37) dL_sends_37 (by decide) (fun h37 => ?_) (fun h37 => ?_)
    · have h37 := (kLtI (a := p) (b := c) Lp Lc rfl N0.2.1).mp h37
      refine kw_aload_n (pc := 87) dL_sends_87 rfl ?_
      refine kw_iload_n (pc := 88) dL_sends_88 rfl ?_
      refine kw_bipush (v := 9) (pc := 89) dL_sends_89 (by decide) ?_
      refine kw_callSr (pc := 91) dL_sends_91 lL_100 (V0.parcelE (k := p) (j := 9) h.v rfl (rfl : (9 : Int32) = nI 9) hp (by decide)) rfl rfl ⟨by decide, by decide, Nat.le_of_ble_eq_true rfl⟩ ?_
      refine kw_istore (pc := 94) dL_sends_94 (by decide) rfl ?_
      refine kW.locs (L' := [(0, _), (1, _), (2, _), (3, _), (4, _), (5, _), (6, _), (7, _), (9, _)]) ?_ ⟨rfl, rfl, rfl, rfl, rfl, rfl, rfl, rfl, rfl, trivial⟩
      refine kw_aload_n (pc := 96) dL_sends_96 rfl ?_
      refine kw_iload_n (pc := 97) dL_sends_97 rfl ?_
      refine kw_bipush (v := 10) (pc := 98) dL_sends_98 (by decide) ?_
      refine kw_callSr (pc := 100) dL_sends_100 lL_100 (V0.parcelE (k := p) (j := 10) h.v rfl (rfl : (10 : Int32) = nI 10) hp (by decide)) rfl rfl ⟨by decide, by decide, Nat.le_of_ble_eq_true rfl⟩ ?_
      refine kw_istore (pc := 103) dL_sends_103 (by decide) rfl ?_
      refine kW.locs (L' := [(0, _), (1, _), (2, _), (3, _), (4, _), (5, _), (6, _), (7, _), (9, _), (10, _)]) ?_ ⟨rfl, rfl, rfl, rfl, rfl, rfl, rfl, rfl, rfl, rfl, trivial⟩
      refine kw_aload_n (pc := 105) dL_sends_105 rfl ?_
      refine kw_iload_n (pc := 106) dL_sends_106 rfl ?_
      refine kw_bipush (v := 8) (pc := 107) dL_sends_107 (by decide) ?_
      refine kw_callSr (pc := 109) dL_sends_109 lL_100 (V0.parcelE (k := p) (j := 8) h.v rfl (rfl : (8 : Int32) = nI 8) hp (by decide)) rfl rfl ⟨by decide, by decide, Nat.le_of_ble_eq_true rfl⟩ ?_
      refine kw_istore (pc := 112) dL_sends_112 (by decide) rfl ?_
      refine kW.locs (L' := [(0, _), (1, _), (2, _), (3, _), (4, _), (5, _), (6, _), (7, _), (9, _), (10, _), (11, _)]) ?_ ⟨rfl, rfl, rfl, rfl, rfl, rfl, rfl, rfl, rfl, rfl, rfl, trivial⟩
      refine kw_aload_n (pc := 114) dL_sends_114 rfl ?_
      refine kw_iload_n (pc := 115) dL_sends_115 rfl ?_
      refine kw_callSw1 (pc := 116) dL_sends_116 lL_84 (h.sendR hp hr0) rfl rfl ⟨by decide, by decide, Nat.le_of_ble_eq_true rfl⟩ (fun w1 hw1 => ?_)
      obtain ⟨s1, H1, e70, e74⟩ := hw1
      have e20 := H1.v.ok.2.1
      obtain ⟨u1, hu1, HU1⟩ := H1.undo
      refine kw_istore (pc := 119) dL_sends_119 (by decide) rfl ?_
      refine kW.locs (L' := [(0, _), (1, _), (2, _), (3, _), (4, _), (5, _), (6, _), (7, _), (9, _), (10, _), (11, _), (12, _)]) ?_ ⟨rfl, rfl, rfl, rfl, rfl, rfl, rfl, rfl, rfl, rfl, rfl, rfl, trivial⟩
      refine kw_iload (pc := 121) dL_sends_121 rfl ?_
      refine kw_if_ne (tgt := 180) (pc := 123) dL_sends_123 (by decide) (fun h123 => ?_) (fun h123 => ?_)
      · have h123 := mt (kEqI (a := r) (b := 0) Lr (by decide) hr (rfl : (0 : Int32) = nI 0)).mpr h123
        refine kw_iload (pc := 180) dL_sends_180 rfl ?_
        refine kw_iload (pc := 182) dL_sends_182 rfl ?_
        refine kw_icmp_ne (tgt := 223) (pc := 184) dL_sends_184 (by decide) (fun h184 => ?_) (fun h184 => ?_)
        · have h184 := mt (kEqI (a := r) (b := r) Lr Lr hr hr).mpr h184
          exfalso; omega
        · have h184 := (kEqI (a := r) (b := r) Lr Lr hr hr).mp h184
          refine kw_aload_n (pc := 187) dL_sends_187 rfl ?_
          refine kw_iconst (v := 3) (pc := 188) dL_sends_188 (by decide) ?_
          refine kw_callSr (pc := 189) dL_sends_189 lL_98 (V0.countE (j := 3) H1.v (rfl : (3 : Int32) = nI 3) (by decide)) rfl rfl ⟨by decide, by decide, Nat.le_of_ble_eq_true rfl⟩ ?_
          refine kw_iload_n (pc := 192) dL_sends_192 rfl ?_
          refine kw_icmp_ne (tgt := 223) (pc := 193) dL_sends_193 (by decide) (fun h193 => ?_) (fun h193 => ?_)
          · exact (h193 e70).elim
          · refine kw_aload_n (pc := 196) dL_sends_196 rfl ?_
            refine kw_bipush (v := 7) (pc := 197) dL_sends_197 (by decide) ?_
            refine kw_callSr (pc := 199) dL_sends_199 lL_98 (V0.countE (j := 7) H1.v (rfl : (7 : Int32) = nI 7) (by decide)) rfl rfl ⟨by decide, by decide, Nat.le_of_ble_eq_true rfl⟩ ?_
            refine kw_iload (pc := 202) dL_sends_202 rfl ?_
            refine kw_iconst (v := 1) (pc := 204) dL_sends_204 (by decide) ?_
            refine kw_iadd (pc := 205) dL_sends_205 ?_
            refine kw_icmp_ne (tgt := 223) (pc := 206) dL_sends_206 (by decide) (fun h206 => ?_) (fun h206 => ?_)
            · exact (h206 e74).elim
            · refine kw_aload_n (pc := 209) dL_sends_209 rfl ?_
              refine kw_iconst (v := 0) (pc := 210) dL_sends_210 (by decide) ?_
              refine kw_callSr (pc := 211) dL_sends_211 lL_98 (V0.countE (j := 0) H1.v (rfl : (0 : Int32) = nI 0) (by decide)) rfl rfl ⟨by decide, by decide, Nat.le_of_ble_eq_true rfl⟩ ?_
              refine kw_iload (pc := 214) dL_sends_214 rfl ?_
              refine kw_icmp_ne (tgt := 223) (pc := 216) dL_sends_216 (by decide) (fun h216 => ?_) (fun h216 => ?_)
              · have h216 := mt (kEqI (a := c) (b := c) Lc Lc e20 N0.2.1).mpr h216
                exfalso; omega
              · have h216 := (kEqI (a := c) (b := c) Lc Lc e20 N0.2.1).mp h216
                refine kw_iconst (v := 1) (pc := 219) dL_sends_219 (by decide) ?_
                refine kw_goto (tgt := 224) (pc := 220) dL_sends_220 (by decide) ?_
                refine kw_istore (pc := 224) dL_sends_224 (by decide) rfl ?_
                refine kW.locs (L' := [(0, _), (1, _), (2, _), (7, _), (9, _), (10, _), (11, _), (13, _)]) ?_ ⟨rfl, rfl, rfl, rfl, rfl, rfl, rfl, rfl, trivial⟩
                refine kw_iload (pc := 226) dL_sends_226 rfl ?_
                refine kw_if_eq (tgt := 252) (pc := 228) dL_sends_228 (by decide) (fun h228 => ?_) (fun h228 => ?_)
                · exact absurd h228 (by decide)
                · refine kw_aload_n (pc := 231) dL_sends_231 rfl ?_
                  refine kw_callSw1 (pc := 232) dL_sends_232 lL_121 HU1 rfl rfl ⟨by decide, by decide, Nat.le_of_ble_eq_true rfl⟩ (fun w2 H2 => ?_)
                  refine kw_if_lt (tgt := 252) (pc := 235) dL_sends_235 (by decide) (fun h235 => ?_) (fun h235 => ?_)
                  · have h235 := (kLtI (a := u1) (b := 0) (by omega) (by decide) rfl (rfl : (0 : Int32) = nI 0)).mp h235
                    exfalso; omega
                  · have h235 := mt (kLtI (a := u1) (b := 0) (by omega) (by decide) rfl (rfl : (0 : Int32) = nI 0)).mpr h235
                    refine kw_aload_n (pc := 238) dL_sends_238 rfl ?_
                    refine kw_callSr (pc := 239) dL_sends_239 lL_127 (V0.print H2.v) rfl rfl ⟨by decide, by decide, Nat.le_of_ble_eq_true rfl⟩ ?_
                    refine kw_lload (pc := 242) dL_sends_242 rfl ?_
                    refine kw_lcmp (pc := 244) dL_sends_244 ?_
                    refine kw_if_ne (tgt := 252) (pc := 245) dL_sends_245 (by decide) (fun h245 => ?_) (fun h245 => ?_)
                    · exact absurd lgc0 h245
                    · refine kw_iconst (v := 1) (pc := 248) dL_sends_248 (by decide) ?_
                      refine kw_goto (tgt := 253) (pc := 249) dL_sends_249 (by decide) ?_
                      refine kw_istore (pc := 253) dL_sends_253 (by decide) rfl ?_
                      refine kW.locs (L' := [(0, _), (1, _), (2, _), (7, _), (9, _), (10, _), (11, _), (13, _)]) ?_ ⟨rfl, rfl, rfl, rfl, rfl, rfl, rfl, rfl, trivial⟩
                      refine kw_aload_n (pc := 255) dL_sends_255 rfl ?_
                      refine kw_iload_n (pc := 256) dL_sends_256 rfl ?_
                      refine kw_iload (pc := 257) dL_sends_257 rfl ?_
                      refine kw_callSw1 (pc := 259) dL_sends_259 lL_87 (H2.dispRE hZ hp hr0 ⟨hZ1, hZ2⟩) rfl rfl ⟨by decide, by decide, Nat.le_of_ble_eq_true rfl⟩ (fun w3 hw3 => ?_)
                      obtain ⟨s3, H3⟩ := hw3
                      obtain ⟨u3, hu3, HU3⟩ := H3.undo
                      refine kw_istore (pc := 262) dL_sends_262 (by decide) rfl ?_
                      refine kW.locs (L' := [(0, _), (1, _), (2, _), (7, _), (9, _), (10, _), (11, _), (13, _), (14, _)]) ?_ ⟨rfl, rfl, rfl, rfl, rfl, rfl, rfl, rfl, rfl, trivial⟩
                      refine kw_iload (pc := 264) dL_sends_264 rfl ?_
                      refine kw_if_eq (tgt := 310) (pc := 266) dL_sends_266 (by decide) (fun h266 => ?_) (fun h266 => ?_)
                      · exact absurd h266 (by decide)
                      · refine kw_iload (pc := 269) dL_sends_269 rfl ?_
                        refine kw_iload (pc := 271) dL_sends_271 rfl ?_
                        refine kw_if_ne (tgt := 284) (pc := 273) dL_sends_273 (by decide) (fun h273 => ?_) (fun h273 => ?_)
                        · have h273 := mt (kEqI (a := r) (b := 0) Lr (by decide) hr (rfl : (0 : Int32) = nI 0)).mpr h273
                          refine kw_iload (pc := 284) dL_sends_284 rfl ?_
                          refine kw_icmp_ne (tgt := 310) (pc := 286) dL_sends_286 (by decide) (fun h286 => ?_) (fun h286 => ?_)
                          · have h286 := mt (kEqI (a := r) (b := r) Lr Lr hr hr).mpr h286
                            exfalso; omega
                          · have h286 := (kEqI (a := r) (b := r) Lr Lr hr hr).mp h286
                            refine kw_aload_n (pc := 289) dL_sends_289 rfl ?_
                            refine kw_callSw1 (pc := 290) dL_sends_290 lL_121 HU3 rfl rfl ⟨by decide, by decide, Nat.le_of_ble_eq_true rfl⟩ (fun w4 H4 => ?_)
                            refine kw_if_lt (tgt := 310) (pc := 293) dL_sends_293 (by decide) (fun h293 => ?_) (fun h293 => ?_)
                            · have h293 := (kLtI (a := u3) (b := 0) (by omega) (by decide) rfl (rfl : (0 : Int32) = nI 0)).mp h293
                              exfalso; omega
                            · have h293 := mt (kLtI (a := u3) (b := 0) (by omega) (by decide) rfl (rfl : (0 : Int32) = nI 0)).mpr h293
                              refine kw_aload_n (pc := 296) dL_sends_296 rfl ?_
                              refine kw_callSr (pc := 297) dL_sends_297 lL_127 (V0.print H4.v) rfl rfl ⟨by decide, by decide, Nat.le_of_ble_eq_true rfl⟩ ?_
                              refine kw_lload (pc := 300) dL_sends_300 rfl ?_
                              refine kw_lcmp (pc := 302) dL_sends_302 ?_
                              refine kw_if_ne (tgt := 310) (pc := 303) dL_sends_303 (by decide) (fun h303 => ?_) (fun h303 => ?_)
                              · exact absurd lgc0 h303
                              · refine kw_iconst (v := 1) (pc := 306) dL_sends_306 (by decide) ?_
                                refine kw_goto (tgt := 311) (pc := 307) dL_sends_307 (by decide) ?_
                                refine kw_istore (pc := 311) dL_sends_311 (by decide) rfl ?_
                                exact kW.locs (t313 w4 H4) ⟨rfl, rfl, rfl, rfl, kgE rfl hW, kgE rfl hr, kgE rfl hZ, rfl, trivial⟩
                        · have h273 := (kEqI (a := r) (b := 0) Lr (by decide) hr (rfl : (0 : Int32) = nI 0)).mp h273
                          exfalso; omega
      · have h123 := (kEqI (a := r) (b := 0) Lr (by decide) hr (rfl : (0 : Int32) = nI 0)).mp h123
        exfalso; omega
    · have h37 := mt (kLtI (a := p) (b := c) Lp Lc rfl N0.2.1).mpr h37
      exfalso; omega
theorem K.sends (h : K m s0 c w) {p y : Nat} (hp : p < 100) (hy : y ≤ 60) : kCtrG mL_sends 14 3 18 [.ref 0, .int (nI p), .int (nI y - 30)] w (.int 1) (K m s0 c) := by
  by_cases e : p < c
  · exact h.sendsP e hy
  · exact h.sendsX (by omega) hp
end SD
