section HG
variable {m c : Nat} {s0 : Nat → Int32} {w : kM}
set_option maxRecDepth 100000 in
set_option maxHeartbeats 40000000 in
theorem K.hangs (h : K m s0 c w) : kCtrW mL_hangs 13 [.ref 0] w (some (.int 1)) (K m s0 c) := by
  refine kCtrW.of plLw nlL_hangs rfl (Nat.le_of_ble_eq_true rfl) (fun n => ?_)
  have N0 := h.ok.1
  have h7 := N0.1
  have Lc : c < 2147483648 := by omega
  have loop : ∀ (mm : Nat) (k : Nat), mm = c - k → k ≤ c → kW (0, fun _ => 0) mL_hangs 13 (fun o' w' n' => o' = .inl (some (.int 1)) ∧ (K m s0 c) w' ∧ n' = n) 0 0 n w 12 [(0, .ref 0), (1, .int (cntN 0 s0 k)), (2, .int (cntN 1 s0 k)), (3, .int (sumF (alS s0) k)), (4, .int (moN s0 k)), (5, .int (nI k))] [] := by
    intro mm
    induction mm using Nat.strongRecOn with
    | _ mm ih =>
      intro k hm hk0
      have Lk : k < 2147483648 := by omega
      refine kw_iload (pc := 12) dL_hangs_12 rfl ?_
      refine kw_aload_n (pc := 14) dL_hangs_14 rfl ?_
      refine kw_iconst (v := 0) (pc := 15) dL_hangs_15 (by decide) ?_
      refine kw_callSr (pc := 16) dL_hangs_16 lL_98 (V0.countE (j := 0) h.v (rfl : (0 : Int32) = nI 0) (by decide)) rfl rfl ⟨by decide, by decide, Nat.le_of_ble_eq_true rfl⟩ ?_
      refine kw_icmp_ge (tgt := 388) (pc := 19) dL_hangs_19 (by decide) (fun h19 => ?_) (fun h19 => ?_)
      · have h19 := (kLeI (a := c) (b := k) Lc Lk N0.2.1 rfl).mp h19
        obtain rfl : k = c := by omega
        obtain ⟨na, nb, ha1, hb1, hnb, hna, hm9⟩ := h.ok.2.2
        have Lna : na < 2147483648 := by omega
        have Lnb : nb < 2147483648 := by omega
        obtain ⟨V, S, hV, -, -, hVS, hS, hS2⟩ := both_min N0
        have LS : S < 2147483648 := by omega
        have hshA : S = 0 → shS s0 k = FP.dconst0 := fun q => if_pos (hS.trans (congrArg nI q))
        have hshB : ¬ S = 0 → shS s0 k = FP.ddiv (FP.i2d (sumF (alS s0) k - nI V)) (FP.i2d (sumF (alS s0) k)) := fun q => by
          show shV _ _ = _
          unfold shV
          have q3 : ¬ sumF (alS s0) k = 0 := fun q2 => q ((kEqI (a := S) (b := 0) LS (by decide) hS rfl).mp q2)
          rw [if_neg q3, hV]
        have LV : V < 2147483648 := by omega
        rcases dp_ok h.ok k (Nat.le_refl _) with ⟨hdp, ht, hmo⟩ | ⟨f, t, Wm, hf, hdp, ht, ht1, ht2, hmo, hmW, hmW2⟩
        · refine kw_aload_n (pc := 388) dL_hangs_388 rfl ?_
          refine kw_iconst (v := 0) (pc := 389) dL_hangs_389 (by decide) ?_
          refine kw_callSw1 (pc := 390) dL_hangs_390 lL_108 (K.cheapest (u := 0) h hV (by omega)) rfl rfl ⟨by decide, by decide, Nat.le_of_ble_eq_true rfl⟩ (fun w1 H1 => ?_)
          refine kw_istore (pc := 393) dL_hangs_393 (by decide) rfl ?_
          refine kW.locs (L' := [(0, _), (1, _), (2, _), (3, _), (4, _), (5, _)]) ?_ ⟨rfl, rfl, rfl, rfl, rfl, rfl, trivial⟩
          refine kw_aload_n (pc := 395) dL_hangs_395 rfl ?_
          refine kw_callVr (pc := 396) dL_hangs_396 lL_110 (H1.v.dearN hdp) H1.ob rfl rfl rfl ⟨by decide, by decide, Nat.le_of_ble_eq_true rfl⟩ ?_
          refine kw_istore (pc := 399) dL_hangs_399 (by decide) rfl ?_
          refine kW.locs (L' := [(0, _), (1, _), (2, _), (3, _), (4, _), (5, _), (6, _)]) ?_ ⟨rfl, rfl, rfl, rfl, rfl, rfl, rfl, trivial⟩
          refine kw_aload_n (pc := 401) dL_hangs_401 rfl ?_
          refine kw_iconst (v := 1) (pc := 402) dL_hangs_402 (by decide) ?_
          refine kw_callSr (pc := 403) dL_hangs_403 lL_98 (V0.countE (j := 1) H1.v (rfl : (1 : Int32) = nI 1) (by decide)) rfl rfl ⟨by decide, by decide, Nat.le_of_ble_eq_true rfl⟩ ?_
          refine kw_iload_n (pc := 406) dL_hangs_406 rfl ?_
          refine kw_icmp_ne (tgt := 498) (pc := 407) dL_hangs_407 (by decide) (fun h407 => ?_) (fun h407 => ?_)
          · exact absurd rfl h407
          · refine kw_aload_n (pc := 410) dL_hangs_410 rfl ?_
            refine kw_iconst (v := 2) (pc := 411) dL_hangs_411 (by decide) ?_
            refine kw_callSr (pc := 412) dL_hangs_412 lL_98 (V0.countE (j := 2) H1.v (rfl : (2 : Int32) = nI 2) (by decide)) rfl rfl ⟨by decide, by decide, Nat.le_of_ble_eq_true rfl⟩ ?_
            refine kw_iload_n (pc := 415) dL_hangs_415 rfl ?_
            refine kw_icmp_ne (tgt := 498) (pc := 416) dL_hangs_416 (by decide) (fun h416 => ?_) (fun h416 => ?_)
            · exact absurd rfl h416
            · refine kw_iload (pc := 419) dL_hangs_419 rfl ?_
              refine kw_aload_n (pc := 421) dL_hangs_421 rfl ?_
              refine kw_iconst (v := 1) (pc := 422) dL_hangs_422 (by decide) ?_
              refine kw_callSw1 (pc := 423) dL_hangs_423 lL_108 (K.cheapest (u := 1) H1 hV (by omega)) rfl rfl ⟨by decide, by decide, Nat.le_of_ble_eq_true rfl⟩ (fun w2 H2 => ?_)
              refine kw_icmp_ne (tgt := 498) (pc := 426) dL_hangs_426 (by decide) (fun h426 => ?_) (fun h426 => ?_)
              · have h426 := mt (kEqI (a := V) (b := V) LV LV rfl rfl).mpr h426
                exfalso; omega
              · have h426 := (kEqI (a := V) (b := V) LV LV rfl rfl).mp h426
                refine kw_iload (pc := 429) dL_hangs_429 rfl ?_
                refine kw_iload_n (pc := 431) dL_hangs_431 rfl ?_
                refine kw_icmp_gt (tgt := 498) (pc := 432) dL_hangs_432 (by decide) (fun h432 => ?_) (fun h432 => ?_)
                · have h432 := (kLtI (a := S) (b := V) LS LV hS rfl).mp h432
                  exfalso; omega
                · have h432 := mt (kLtI (a := S) (b := V) LS LV hS rfl).mpr h432
                  refine kw_iload (pc := 435) dL_hangs_435 rfl ?_
                  refine kw_if_lt (tgt := 498) (pc := 437) dL_hangs_437 (by decide) (fun h437 => ?_) (fun h437 => ?_)
                  · have h437 := (kLtI (a := V) (b := 0) LV (by decide) rfl (rfl : (0 : Int32) = nI 0)).mp h437
                    exfalso; omega
                  · have h437 := mt (kLtI (a := V) (b := 0) LV (by decide) rfl (rfl : (0 : Int32) = nI 0)).mpr h437
                    refine kw_iload (pc := 440) dL_hangs_440 rfl ?_
                    refine kw_iconst (v := -1) (pc := 442) dL_hangs_442 (by decide) ?_
                    refine kw_icmp_ne (tgt := 450) (pc := 443) dL_hangs_443 (by decide) (fun h443 => ?_) (fun h443 => ?_)
                    · exact absurd (by decide) h443
                    · refine kw_iconst (v := 1) (pc := 446) dL_hangs_446 (by decide) ?_
                      refine kw_goto (tgt := 451) (pc := 447) dL_hangs_447 (by decide) ?_
                      refine kw_iload_n (pc := 451) dL_hangs_451 rfl ?_
                      refine kw_if_ne (tgt := 459) (pc := 452) dL_hangs_452 (by decide) (fun h452 => ?_) (fun h452 => ?_)
                      · have h452 := mt (kEqI (a := 0) (b := 0) (by decide) (by decide) ht (rfl : (0 : Int32) = nI 0)).mpr h452
                        exfalso; omega
                      · have h452 := (kEqI (a := 0) (b := 0) (by decide) (by decide) ht (rfl : (0 : Int32) = nI 0)).mp h452
                        refine kw_iconst (v := 1) (pc := 455) dL_hangs_455 (by decide) ?_
                        refine kw_goto (tgt := 460) (pc := 456) dL_hangs_456 (by decide) ?_
                        refine kw_icmp_ne (tgt := 498) (pc := 460) dL_hangs_460 (by decide) (fun h460 => ?_) (fun h460 => ?_)
                        · exact absurd (by decide) h460
                        · refine kw_iload (pc := 463) dL_hangs_463 rfl ?_
                          refine kw_if_lt (tgt := 481) (pc := 465) dL_hangs_465 (by decide) (fun h465 => ?_) (fun h465 => ?_)
                          · refine kw_aload_n (pc := 481) dL_hangs_481 rfl ?_
                            refine kw_iconst (v := 5) (pc := 482) dL_hangs_482 (by decide) ?_
                            refine kw_callSr (pc := 483) dL_hangs_483 lL_98 (V0.countE (j := 5) H2.v (rfl : (5 : Int32) = nI 5) (by decide)) rfl rfl ⟨by decide, by decide, Nat.le_of_ble_eq_true rfl⟩ ?_
                            refine kw_aload_n (pc := 486) dL_hangs_486 rfl ?_
                            refine kw_iconst (v := 4) (pc := 487) dL_hangs_487 (by decide) ?_
                            refine kw_callSr (pc := 488) dL_hangs_488 lL_98 (V0.countE (j := 4) H2.v (rfl : (4 : Int32) = nI 4) (by decide)) rfl rfl ⟨by decide, by decide, Nat.le_of_ble_eq_true rfl⟩ ?_
                            refine kw_icmp_gt (tgt := 498) (pc := 491) dL_hangs_491 (by decide) (fun h491 => ?_) (fun h491 => ?_)
                            · have h491 := (kLtI (a := na) (b := nb) Lna Lnb ha1 hb1).mp h491
                              exfalso; omega
                            · have h491 := mt (kLtI (a := na) (b := nb) Lna Lnb ha1 hb1).mpr h491
                              refine kw_iconst (v := 1) (pc := 494) dL_hangs_494 (by decide) ?_
                              refine kw_goto (tgt := 499) (pc := 495) dL_hangs_495 (by decide) ?_
                              refine kw_istore (pc := 499) dL_hangs_499 (by decide) rfl ?_
                              refine kW.locs (L' := [(0, _), (3, _), (5, _), (7, _)]) ?_ ⟨rfl, rfl, rfl, rfl, trivial⟩
                              refine kw_iload (pc := 501) dL_hangs_501 rfl ?_
                              refine kw_if_eq (tgt := 534) (pc := 503) dL_hangs_503 (by decide) (fun h503 => ?_) (fun h503 => ?_)
                              · exact absurd h503 (by decide)
                              · refine kw_aload_n (pc := 506) dL_hangs_506 rfl ?_
                                refine kw_callVw1 (pc := 507) dL_hangs_507 lL_113 H2.share H2.ob rfl rfl rfl ⟨by decide, by decide, Nat.le_of_ble_eq_true rfl⟩ (fun w3 H3 => ?_)
                                refine kw_iload_n (pc := 510) dL_hangs_510 rfl ?_
                                refine kw_if_ne (tgt := 518) (pc := 511) dL_hangs_511 (by decide) (fun h511 => ?_) (fun h511 => ?_)
                                · have h511 := mt (kEqI (a := S) (b := 0) LS (by decide) hS (rfl : (0 : Int32) = nI 0)).mpr h511
                                  refine kw_iload_n (pc := 518) dL_hangs_518 rfl ?_
                                  refine kw_iload (pc := 519) dL_hangs_519 rfl ?_
                                  refine kw_isub (pc := 521) dL_hangs_521 ?_
                                  refine kw_i2d (pc := 522) dL_hangs_522 ?_
                                  refine kw_iload_n (pc := 523) dL_hangs_523 rfl ?_
                                  refine kw_i2d (pc := 524) dL_hangs_524 ?_
                                  refine kw_ddiv (pc := 525) dL_hangs_525 (n64_of (ddiv_ok (fun q2 => h511 ((kEqI (a := S) (b := 0) LS (by decide) hS rfl).mp q2)))) ?_
                                  refine kw_dcmp (pc := 526) dL_hangs_526 ?_
                                  refine kw_if_ne (tgt := 534) (pc := 527) dL_hangs_527 (by decide) (fun h527 => ?_) (fun h527 => ?_)
                                  · exact (h527 (by (first | rw [← hshA h511] | rw [← hshB h511]); exact cmp_self (shV_ok _ _))).elim
                                  · refine kw_iconst (v := 1) (pc := 530) dL_hangs_530 (by decide) ?_
                                    refine kw_goto (tgt := 535) (pc := 531) dL_hangs_531 (by decide) ?_
                                    exact kw_ireturn nlL_hangs (pc := 535) dL_hangs_535 rfl (by first | rfl | exact b2i_z _ | exact hbool) ⟨rfl, H3, rfl⟩
                                · have h511 := (kEqI (a := S) (b := 0) LS (by decide) hS (rfl : (0 : Int32) = nI 0)).mp h511
                                  refine kw_dconst0 (pc := 514) dL_hangs_514 ?_
                                  refine kw_goto (tgt := 526) (pc := 515) dL_hangs_515 (by decide) ?_
                                  refine kw_dcmp (pc := 526) dL_hangs_526 ?_
                                  refine kw_if_ne (tgt := 534) (pc := 527) dL_hangs_527 (by decide) (fun h527 => ?_) (fun h527 => ?_)
                                  · exact (h527 (by (first | rw [← hshA h511] | rw [← hshB h511]); exact cmp_self (shV_ok _ _))).elim
                                  · refine kw_iconst (v := 1) (pc := 530) dL_hangs_530 (by decide) ?_
                                    refine kw_goto (tgt := 535) (pc := 531) dL_hangs_531 (by decide) ?_
                                    exact kw_ireturn nlL_hangs (pc := 535) dL_hangs_535 rfl (by first | rfl | exact b2i_z _ | exact hbool) ⟨rfl, H3, rfl⟩
                          · exact absurd (by decide) h465
        · refine kw_aload_n (pc := 388) dL_hangs_388 rfl ?_
          refine kw_iconst (v := 0) (pc := 389) dL_hangs_389 (by decide) ?_
          refine kw_callSw1 (pc := 390) dL_hangs_390 lL_108 (K.cheapest (u := 0) h hV (by omega)) rfl rfl ⟨by decide, by decide, Nat.le_of_ble_eq_true rfl⟩ (fun w1 H1 => ?_)
          refine kw_istore (pc := 393) dL_hangs_393 (by decide) rfl ?_
          refine kW.locs (L' := [(0, _), (1, _), (2, _), (3, _), (4, _), (5, _)]) ?_ ⟨rfl, rfl, rfl, rfl, rfl, rfl, trivial⟩
          refine kw_aload_n (pc := 395) dL_hangs_395 rfl ?_
          refine kw_callVr (pc := 396) dL_hangs_396 lL_110 (H1.v.dearS hdp) H1.ob rfl rfl rfl ⟨by decide, by decide, Nat.le_of_ble_eq_true rfl⟩ ?_
          refine kw_istore (pc := 399) dL_hangs_399 (by decide) rfl ?_
          refine kW.locs (L' := [(0, _), (1, _), (2, _), (3, _), (4, _), (5, _), (6, _)]) ?_ ⟨rfl, rfl, rfl, rfl, rfl, rfl, rfl, trivial⟩
          refine kw_aload_n (pc := 401) dL_hangs_401 rfl ?_
          refine kw_iconst (v := 1) (pc := 402) dL_hangs_402 (by decide) ?_
          refine kw_callSr (pc := 403) dL_hangs_403 lL_98 (V0.countE (j := 1) H1.v (rfl : (1 : Int32) = nI 1) (by decide)) rfl rfl ⟨by decide, by decide, Nat.le_of_ble_eq_true rfl⟩ ?_
          refine kw_iload_n (pc := 406) dL_hangs_406 rfl ?_
          refine kw_icmp_ne (tgt := 498) (pc := 407) dL_hangs_407 (by decide) (fun h407 => ?_) (fun h407 => ?_)
          · exact absurd rfl h407
          · refine kw_aload_n (pc := 410) dL_hangs_410 rfl ?_
            refine kw_iconst (v := 2) (pc := 411) dL_hangs_411 (by decide) ?_
            refine kw_callSr (pc := 412) dL_hangs_412 lL_98 (V0.countE (j := 2) H1.v (rfl : (2 : Int32) = nI 2) (by decide)) rfl rfl ⟨by decide, by decide, Nat.le_of_ble_eq_true rfl⟩ ?_
            refine kw_iload_n (pc := 415) dL_hangs_415 rfl ?_
            refine kw_icmp_ne (tgt := 498) (pc := 416) dL_hangs_416 (by decide) (fun h416 => ?_) (fun h416 => ?_)
            · exact absurd rfl h416
            · refine kw_iload (pc := 419) dL_hangs_419 rfl ?_
              refine kw_aload_n (pc := 421) dL_hangs_421 rfl ?_
              refine kw_iconst (v := 1) (pc := 422) dL_hangs_422 (by decide) ?_
              refine kw_callSw1 (pc := 423) dL_hangs_423 lL_108 (K.cheapest (u := 1) H1 hV (by omega)) rfl rfl ⟨by decide, by decide, Nat.le_of_ble_eq_true rfl⟩ (fun w2 H2 => ?_)
              refine kw_icmp_ne (tgt := 498) (pc := 426) dL_hangs_426 (by decide) (fun h426 => ?_) (fun h426 => ?_)
              · have h426 := mt (kEqI (a := V) (b := V) LV LV rfl rfl).mpr h426
                exfalso; omega
              · have h426 := (kEqI (a := V) (b := V) LV LV rfl rfl).mp h426
                refine kw_iload (pc := 429) dL_hangs_429 rfl ?_
                refine kw_iload_n (pc := 431) dL_hangs_431 rfl ?_
                refine kw_icmp_gt (tgt := 498) (pc := 432) dL_hangs_432 (by decide) (fun h432 => ?_) (fun h432 => ?_)
                · have h432 := (kLtI (a := S) (b := V) LS LV hS rfl).mp h432
                  exfalso; omega
                · have h432 := mt (kLtI (a := S) (b := V) LS LV hS rfl).mpr h432
                  refine kw_iload (pc := 435) dL_hangs_435 rfl ?_
                  refine kw_if_lt (tgt := 498) (pc := 437) dL_hangs_437 (by decide) (fun h437 => ?_) (fun h437 => ?_)
                  · have h437 := (kLtI (a := V) (b := 0) LV (by decide) rfl (rfl : (0 : Int32) = nI 0)).mp h437
                    exfalso; omega
                  · have h437 := mt (kLtI (a := V) (b := 0) LV (by decide) rfl (rfl : (0 : Int32) = nI 0)).mpr h437
                    refine kw_iload (pc := 440) dL_hangs_440 rfl ?_
                    refine kw_iconst (v := -1) (pc := 442) dL_hangs_442 (by decide) ?_
                    refine kw_icmp_ne (tgt := 450) (pc := 443) dL_hangs_443 (by decide) (fun h443 => ?_) (fun h443 => ?_)
                    · refine kw_iconst (v := 0) (pc := 450) dL_hangs_450 (by decide) ?_
                      refine kw_iload_n (pc := 451) dL_hangs_451 rfl ?_
                      refine kw_if_ne (tgt := 459) (pc := 452) dL_hangs_452 (by decide) (fun h452 => ?_) (fun h452 => ?_)
                      · have h452 := mt (kEqI (a := t) (b := 0) (by omega) (by decide) ht (rfl : (0 : Int32) = nI 0)).mpr h452
                        refine kw_iconst (v := 0) (pc := 459) dL_hangs_459 (by decide) ?_
                        refine kw_icmp_ne (tgt := 498) (pc := 460) dL_hangs_460 (by decide) (fun h460 => ?_) (fun h460 => ?_)
                        · exact absurd (by decide) h460
                        · refine kw_iload (pc := 463) dL_hangs_463 rfl ?_
                          refine kw_if_lt (tgt := 481) (pc := 465) dL_hangs_465 (by decide) (fun h465 => ?_) (fun h465 => ?_)
                          · have h465 := (kLtI (a := f) (b := 0) (by omega) (by decide) rfl (rfl : (0 : Int32) = nI 0)).mp h465
                            exfalso; omega
                          · have h465 := mt (kLtI (a := f) (b := 0) (by omega) (by decide) rfl (rfl : (0 : Int32) = nI 0)).mpr h465
                            refine kw_aload_n (pc := 468) dL_hangs_468 rfl ?_
                            refine kw_iload (pc := 469) dL_hangs_469 rfl ?_
                            refine kw_bipush (v := 9) (pc := 471) dL_hangs_471 (by decide) ?_
                            refine kw_callSr (pc := 473) dL_hangs_473 lL_100 (V0.parcelE (k := f) (j := 9) H2.v rfl (rfl : (9 : Int32) = nI 9) hf (by decide)) rfl rfl ⟨by decide, by decide, Nat.le_of_ble_eq_true rfl⟩ ?_
                            refine kw_iload (pc := 476) dL_hangs_476 rfl ?_
                            refine kw_icmp_ne (tgt := 498) (pc := 478) dL_hangs_478 (by decide) (fun h478 => ?_) (fun h478 => ?_)
                            · exact absurd hmo.symm h478
                            · refine kw_aload_n (pc := 481) dL_hangs_481 rfl ?_
                              refine kw_iconst (v := 5) (pc := 482) dL_hangs_482 (by decide) ?_
                              refine kw_callSr (pc := 483) dL_hangs_483 lL_98 (V0.countE (j := 5) H2.v (rfl : (5 : Int32) = nI 5) (by decide)) rfl rfl ⟨by decide, by decide, Nat.le_of_ble_eq_true rfl⟩ ?_
                              refine kw_aload_n (pc := 486) dL_hangs_486 rfl ?_
                              refine kw_iconst (v := 4) (pc := 487) dL_hangs_487 (by decide) ?_
                              refine kw_callSr (pc := 488) dL_hangs_488 lL_98 (V0.countE (j := 4) H2.v (rfl : (4 : Int32) = nI 4) (by decide)) rfl rfl ⟨by decide, by decide, Nat.le_of_ble_eq_true rfl⟩ ?_
                              refine kw_icmp_gt (tgt := 498) (pc := 491) dL_hangs_491 (by decide) (fun h491 => ?_) (fun h491 => ?_)
                              · have h491 := (kLtI (a := na) (b := nb) Lna Lnb ha1 hb1).mp h491
                                exfalso; omega
                              · have h491 := mt (kLtI (a := na) (b := nb) Lna Lnb ha1 hb1).mpr h491
                                refine kw_iconst (v := 1) (pc := 494) dL_hangs_494 (by decide) ?_
                                refine kw_goto (tgt := 499) (pc := 495) dL_hangs_495 (by decide) ?_
                                refine kw_istore (pc := 499) dL_hangs_499 (by decide) rfl ?_
                                refine kW.locs (L' := [(0, _), (3, _), (5, _), (7, _)]) ?_ ⟨rfl, rfl, rfl, rfl, trivial⟩
                                refine kw_iload (pc := 501) dL_hangs_501 rfl ?_
                                refine kw_if_eq (tgt := 534) (pc := 503) dL_hangs_503 (by decide) (fun h503 => ?_) (fun h503 => ?_)
                                · exact absurd h503 (by decide)
                                · refine kw_aload_n (pc := 506) dL_hangs_506 rfl ?_
                                  refine kw_callVw1 (pc := 507) dL_hangs_507 lL_113 H2.share H2.ob rfl rfl rfl ⟨by decide, by decide, Nat.le_of_ble_eq_true rfl⟩ (fun w3 H3 => ?_)
                                  refine kw_iload_n (pc := 510) dL_hangs_510 rfl ?_
                                  refine kw_if_ne (tgt := 518) (pc := 511) dL_hangs_511 (by decide) (fun h511 => ?_) (fun h511 => ?_)
                                  · have h511 := mt (kEqI (a := S) (b := 0) LS (by decide) hS (rfl : (0 : Int32) = nI 0)).mpr h511
                                    refine kw_iload_n (pc := 518) dL_hangs_518 rfl ?_
                                    refine kw_iload (pc := 519) dL_hangs_519 rfl ?_
                                    refine kw_isub (pc := 521) dL_hangs_521 ?_
                                    refine kw_i2d (pc := 522) dL_hangs_522 ?_
                                    refine kw_iload_n (pc := 523) dL_hangs_523 rfl ?_
                                    refine kw_i2d (pc := 524) dL_hangs_524 ?_
                                    refine kw_ddiv (pc := 525) dL_hangs_525 (n64_of (ddiv_ok (fun q2 => h511 ((kEqI (a := S) (b := 0) LS (by decide) hS rfl).mp q2)))) ?_
                                    refine kw_dcmp (pc := 526) dL_hangs_526 ?_
                                    refine kw_if_ne (tgt := 534) (pc := 527) dL_hangs_527 (by decide) (fun h527 => ?_) (fun h527 => ?_)
                                    · exact (h527 (by (first | rw [← hshA h511] | rw [← hshB h511]); exact cmp_self (shV_ok _ _))).elim
                                    · refine kw_iconst (v := 1) (pc := 530) dL_hangs_530 (by decide) ?_
                                      refine kw_goto (tgt := 535) (pc := 531) dL_hangs_531 (by decide) ?_
                                      exact kw_ireturn nlL_hangs (pc := 535) dL_hangs_535 rfl (by first | rfl | exact b2i_z _ | exact hbool) ⟨rfl, H3, rfl⟩
                                  · have h511 := (kEqI (a := S) (b := 0) LS (by decide) hS (rfl : (0 : Int32) = nI 0)).mp h511
                                    refine kw_dconst0 (pc := 514) dL_hangs_514 ?_
                                    refine kw_goto (tgt := 526) (pc := 515) dL_hangs_515 (by decide) ?_
                                    refine kw_dcmp (pc := 526) dL_hangs_526 ?_
                                    refine kw_if_ne (tgt := 534) (pc := 527) dL_hangs_527 (by decide) (fun h527 => ?_) (fun h527 => ?_)
                                    · exact (h527 (by (first | rw [← hshA h511] | rw [← hshB h511]); exact cmp_self (shV_ok _ _))).elim
                                    · refine kw_iconst (v := 1) (pc := 530) dL_hangs_530 (by decide) ?_
                                      refine kw_goto (tgt := 535) (pc := 531) dL_hangs_531 (by decide) ?_
                                      exact kw_ireturn nlL_hangs (pc := 535) dL_hangs_535 rfl (by first | rfl | exact b2i_z _ | exact hbool) ⟨rfl, H3, rfl⟩
                      · have h452 := (kEqI (a := t) (b := 0) (by omega) (by decide) ht (rfl : (0 : Int32) = nI 0)).mp h452
                        exfalso; omega
                    · exact absurd h443 (nI_nm1 (by omega))
      · have h19 := mt (kLeI (a := c) (b := k) Lc Lk N0.2.1 rfl).mpr h19
        have hk : k < c := by omega
        obtain ⟨a, b, d, wt, z, co, v, x0, x1, x2, gi, Z, R, W, B, r, ⟨ha, hb, hd, hwt, hz, hco, hv⟩, ⟨hx0, hx1, hx2⟩, hbnd, ⟨hG, hgi⟩, ⟨hZ, hZ1, hZ2, hZ3⟩, ⟨hB, hB2, hR, hR2⟩, ⟨hW, hW1, hW2, hW3, hW4⟩, ⟨hr, hr1, hr2⟩⟩ := pview h.ok hk
        have hcx : co * x2 ≤ 2000 := by omega
        have La : a < 2147483648 := by omega
        have Lb : b < 2147483648 := by omega
        have Ld : d < 2147483648 := by omega
        have Lwt : wt < 2147483648 := by omega
        have Lz : z < 2147483648 := by omega
        have Lco : co < 2147483648 := by omega
        have Lv : v < 2147483648 := by omega
        have Lgi : gi < 2147483648 := by omega
        have LZ : Z < 2147483648 := by omega
        have LW : W < 2147483648 := by omega
        have Lr : r < 2147483648 := by omega
        have Lx0 : x0 < 2147483648 := by omega
        have Lx1 : x1 < 2147483648 := by omega
        have Lx2 : x2 < 2147483648 := by omega
        have LR : R < 2147483648 := by omega
        have Lk : k < 2147483648 := by omega
        have hz9 : 1 ≤ pS s0 (pa s0 (21 + 7 * k)) ∧ pS s0 (pa s0 (21 + 7 * k)) ≤ 999 := by
          rw [hZ]
          exact ⟨nI_le (a := 1) (by omega) (by omega), nI_le (b := 999) (by omega) (by decide)⟩
        have hri : pR s0 (pa s0 (21 + 7 * k)) = 0 ↔ r = 0 := kEqI (a := r) (b := 0) (by omega) (by omega) hr rfl
        have hoi : s0 1 < pG (pa s0 (21 + 7 * k)) ↔ x1 < gi := kLtI (a := x1) (b := gi) (by omega) (by omega) hx1 hG
        by_cases hr0 : pR s0 (pa s0 (21 + 7 * k)) = 0
        · have hq := hri.mp hr0
          have t352 : kW (0, fun _ => 0) mL_hangs 13 (fun o' w' n' => o' = .inl (some (.int 1)) ∧ (K m s0 c) w' ∧ n' = n) 0 0 n w 352 [(0, .ref 0), (1, .int (cntN 0 s0 (k + 1))), (2, .int (cntN 1 s0 (k + 1))), (3, .int (sumF (alS s0) (k + 1))), (4, .int (moN s0 (k + 1))), (5, .int (nI k)), (9, .int (nI co)), (11, .int 1)] [] := by
            refine kw_aload_n (pc := 352) dL_hangs_352 rfl ?_
            refine kw_iload (pc := 353) dL_hangs_353 rfl ?_
            refine kw_callSr (pc := 355) dL_hangs_355 lL_106 (V0.wayE (k := k) h.v rfl hk) rfl rfl ⟨by decide, by decide, Nat.le_of_ble_eq_true rfl⟩ ?_
            refine kw_istore (pc := 358) dL_hangs_358 (by decide) rfl ?_
            refine kW.locs (L' := [(0, _), (1, _), (2, _), (3, _), (4, _), (5, _), (9, _), (11, _), (15, _)]) ?_ ⟨rfl, rfl, rfl, rfl, rfl, rfl, rfl, rfl, rfl, trivial⟩
            refine kw_iload (pc := 360) dL_hangs_360 rfl ?_
            refine kw_if_eq (tgt := 370) (pc := 362) dL_hangs_362 (by decide) (fun h362 => ?_) (fun h362 => ?_)
            · exact absurd h362 (by decide)
            · refine kw_iload (pc := 365) dL_hangs_365 rfl ?_
              refine kw_if_lt (tgt := 380) (pc := 367) dL_hangs_367 (by decide) (fun h367 => ?_) (fun h367 => ?_)
              · exact absurd h367 (wy_taken hv (by omega) hr0)
              · refine kw_iload (pc := 370) dL_hangs_370 rfl ?_
                refine kw_if_ne (tgt := 382) (pc := 372) dL_hangs_372 (by decide) (fun h372 => ?_) (fun h372 => ?_)
                · refine kw_iinc (pc := 382) dL_hangs_382 (by decide) rfl rfl rfl ?_
                  refine kw_goto (tgt := 12) (pc := 385) dL_hangs_385 (by decide) ?_
                  exact kW.locs (ih (c - (k + 1)) (by omega) (k + 1) rfl (by omega)) ⟨rfl, rfl, rfl, rfl, rfl, kgE rfl (kA (a := k) (b := 1) rfl (rfl : (Int32.ofInt 1) = nI 1)), trivial⟩
                · refine kw_iload (pc := 375) dL_hangs_375 rfl ?_
                  refine kw_if_le (tgt := 382) (pc := 377) dL_hangs_377 (by decide) (fun h377 => ?_) (fun h377 => ?_)
                  · have h377 := (kLeI (a := co) (b := 0) Lco (by decide) rfl (rfl : (0 : Int32) = nI 0)).mp h377
                    refine kw_iinc (pc := 382) dL_hangs_382 (by decide) rfl rfl rfl ?_
                    refine kw_goto (tgt := 12) (pc := 385) dL_hangs_385 (by decide) ?_
                    exact kW.locs (ih (c - (k + 1)) (by omega) (k + 1) rfl (by omega)) ⟨rfl, rfl, rfl, rfl, rfl, kgE rfl (kA (a := k) (b := 1) rfl (rfl : (Int32.ofInt 1) = nI 1)), trivial⟩
                  · have h377 := mt (kLeI (a := co) (b := 0) Lco (by decide) rfl (rfl : (0 : Int32) = nI 0)).mpr h377
                    exfalso; have := wy_zero hco (by omega) h372; omega
          have t301 : kW (0, fun _ => 0) mL_hangs 13 (fun o' w' n' => o' = .inl (some (.int 1)) ∧ (K m s0 c) w' ∧ n' = n) 0 0 n w 301 [(0, .ref 0), (1, .int (cntN 0 s0 (k + 1))), (2, .int (cntN 1 s0 (k + 1))), (3, .int (sumF (alS s0) (k + 1))), (4, .int (moN s0 (k + 1))), (5, .int (nI k)), (9, .int (nI co)), (11, .int 1)] [] := by
            refine kw_iload (pc := 301) dL_hangs_301 rfl ?_
            refine kw_if_le (tgt := 322) (pc := 303) dL_hangs_303 (by decide) (fun h303 => ?_) (fun h303 => ?_)
            · have h303 := (kLeI (a := co) (b := 0) Lco (by decide) rfl (rfl : (0 : Int32) = nI 0)).mp h303
              refine kw_aload_n (pc := 322) dL_hangs_322 rfl ?_
              refine kw_iload (pc := 323) dL_hangs_323 rfl ?_
              refine kw_bipush (v := 6) (pc := 325) dL_hangs_325 (by decide) ?_
              refine kw_callSr (pc := 327) dL_hangs_327 lL_100 (V0.parcelE (k := k) (j := 6) h.v rfl (rfl : (6 : Int32) = nI 6) hk (by decide)) rfl rfl ⟨by decide, by decide, Nat.le_of_ble_eq_true rfl⟩ ?_
              refine kw_if_ne (tgt := 352) (pc := 330) dL_hangs_330 (by decide) (fun h330 => ?_) (fun h330 => ?_)
              · have h330 := mt (kEqI (a := v) (b := 0) Lv (by decide) hv (rfl : (0 : Int32) = nI 0)).mpr h330
                exact kW.locs t352 ⟨rfl, rfl, rfl, rfl, rfl, rfl, rfl, rfl, trivial⟩
              · have h330 := (kEqI (a := v) (b := 0) Lv (by decide) hv (rfl : (0 : Int32) = nI 0)).mp h330
                refine kw_aload_n (pc := 333) dL_hangs_333 rfl ?_
                refine kw_iload (pc := 334) dL_hangs_334 rfl ?_
                refine kw_iconst (v := 3) (pc := 336) dL_hangs_336 (by decide) ?_
                refine kw_callSr (pc := 337) dL_hangs_337 lL_100 (V0.parcelE (k := k) (j := 3) h.v rfl (rfl : (3 : Int32) = nI 3) hk (by decide)) rfl rfl ⟨by decide, by decide, Nat.le_of_ble_eq_true rfl⟩ ?_
                refine kw_bipush (v := 30) (pc := 340) dL_hangs_340 (by decide) ?_
                refine kw_icmp_le (tgt := 352) (pc := 342) dL_hangs_342 (by decide) (fun h342 => ?_) (fun h342 => ?_)
                · have h342 := (kLeI (a := wt) (b := 30) Lwt (by decide) hwt (rfl : (30 : Int32) = nI 30)).mp h342
                  exact kW.locs t352 ⟨rfl, rfl, rfl, rfl, rfl, rfl, rfl, rfl, trivial⟩
                · have h342 := mt (kLeI (a := wt) (b := 30) Lwt (by decide) hwt (rfl : (30 : Int32) = nI 30)).mpr h342
                  refine kw_iload (pc := 345) dL_hangs_345 rfl ?_
                  refine kw_if_eq (tgt := 352) (pc := 347) dL_hangs_347 (by decide) (fun h347 => ?_) (fun h347 => ?_)
                  · exact absurd h347 (by decide)
                  · exfalso; omega
            · have h303 := mt (kLeI (a := co) (b := 0) Lco (by decide) rfl (rfl : (0 : Int32) = nI 0)).mpr h303
              refine kw_aload_n (pc := 306) dL_hangs_306 rfl ?_
              refine kw_iload (pc := 307) dL_hangs_307 rfl ?_
              refine kw_bipush (v := 6) (pc := 309) dL_hangs_309 (by decide) ?_
              refine kw_callSr (pc := 311) dL_hangs_311 lL_100 (V0.parcelE (k := k) (j := 6) h.v rfl (rfl : (6 : Int32) = nI 6) hk (by decide)) rfl rfl ⟨by decide, by decide, Nat.le_of_ble_eq_true rfl⟩ ?_
              refine kw_if_ne (tgt := 322) (pc := 314) dL_hangs_314 (by decide) (fun h314 => ?_) (fun h314 => ?_)
              · have h314 := mt (kEqI (a := v) (b := 0) Lv (by decide) hv (rfl : (0 : Int32) = nI 0)).mpr h314
                refine kw_aload_n (pc := 322) dL_hangs_322 rfl ?_
                refine kw_iload (pc := 323) dL_hangs_323 rfl ?_
                refine kw_bipush (v := 6) (pc := 325) dL_hangs_325 (by decide) ?_
                refine kw_callSr (pc := 327) dL_hangs_327 lL_100 (V0.parcelE (k := k) (j := 6) h.v rfl (rfl : (6 : Int32) = nI 6) hk (by decide)) rfl rfl ⟨by decide, by decide, Nat.le_of_ble_eq_true rfl⟩ ?_
                refine kw_if_ne (tgt := 352) (pc := 330) dL_hangs_330 (by decide) (fun h330 => ?_) (fun h330 => ?_)
                · have h330 := mt (kEqI (a := v) (b := 0) Lv (by decide) hv (rfl : (0 : Int32) = nI 0)).mpr h330
                  exact kW.locs t352 ⟨rfl, rfl, rfl, rfl, rfl, rfl, rfl, rfl, trivial⟩
                · have h330 := (kEqI (a := v) (b := 0) Lv (by decide) hv (rfl : (0 : Int32) = nI 0)).mp h330
                  refine kw_aload_n (pc := 333) dL_hangs_333 rfl ?_
                  refine kw_iload (pc := 334) dL_hangs_334 rfl ?_
                  refine kw_iconst (v := 3) (pc := 336) dL_hangs_336 (by decide) ?_
                  refine kw_callSr (pc := 337) dL_hangs_337 lL_100 (V0.parcelE (k := k) (j := 3) h.v rfl (rfl : (3 : Int32) = nI 3) hk (by decide)) rfl rfl ⟨by decide, by decide, Nat.le_of_ble_eq_true rfl⟩ ?_
                  refine kw_bipush (v := 30) (pc := 340) dL_hangs_340 (by decide) ?_
                  refine kw_icmp_le (tgt := 352) (pc := 342) dL_hangs_342 (by decide) (fun h342 => ?_) (fun h342 => ?_)
                  · have h342 := (kLeI (a := wt) (b := 30) Lwt (by decide) hwt (rfl : (30 : Int32) = nI 30)).mp h342
                    exact kW.locs t352 ⟨rfl, rfl, rfl, rfl, rfl, rfl, rfl, rfl, trivial⟩
                  · have h342 := mt (kLeI (a := wt) (b := 30) Lwt (by decide) hwt (rfl : (30 : Int32) = nI 30)).mpr h342
                    refine kw_iload (pc := 345) dL_hangs_345 rfl ?_
                    refine kw_if_eq (tgt := 352) (pc := 347) dL_hangs_347 (by decide) (fun h347 => ?_) (fun h347 => ?_)
                    · exact absurd h347 (by decide)
                    · exfalso; omega
              · have h314 := (kEqI (a := v) (b := 0) Lv (by decide) hv (rfl : (0 : Int32) = nI 0)).mp h314
                refine kw_iload (pc := 317) dL_hangs_317 rfl ?_
                refine kw_if_ne (tgt := 350) (pc := 319) dL_hangs_319 (by decide) (fun h319 => ?_) (fun h319 => ?_)
                · exfalso; omega
                · exact absurd h319 (by decide)
          by_cases ho : s0 1 < pG (pa s0 (21 + 7 * k))
          · have hq2 := hoi.mp ho
            refine kw_aload_n (pc := 22) dL_hangs_22 rfl ?_
            refine kw_iload (pc := 23) dL_hangs_23 rfl ?_
            refine kw_iconst (v := 0) (pc := 25) dL_hangs_25 (by decide) ?_
            refine kw_callSr (pc := 26) dL_hangs_26 lL_100 (V0.parcelE (k := k) (j := 0) h.v rfl (rfl : (0 : Int32) = nI 0) hk (by decide)) rfl rfl ⟨by decide, by decide, Nat.le_of_ble_eq_true rfl⟩ ?_
            refine kw_istore (pc := 29) dL_hangs_29 (by decide) rfl ?_
            refine kW.locs (L' := [(0, _), (1, _), (2, _), (3, _), (4, _), (5, _), (6, _)]) ?_ ⟨rfl, rfl, rfl, rfl, rfl, rfl, rfl, trivial⟩
            refine kw_aload_n (pc := 31) dL_hangs_31 rfl ?_
            refine kw_iload (pc := 32) dL_hangs_32 rfl ?_
            refine kw_iconst (v := 1) (pc := 34) dL_hangs_34 (by decide) ?_
            refine kw_callSr (pc := 35) dL_hangs_35 lL_100 (V0.parcelE (k := k) (j := 1) h.v rfl (rfl : (1 : Int32) = nI 1) hk (by decide)) rfl rfl ⟨by decide, by decide, Nat.le_of_ble_eq_true rfl⟩ ?_
            refine kw_istore (pc := 38) dL_hangs_38 (by decide) rfl ?_
            refine kW.locs (L' := [(0, _), (1, _), (2, _), (3, _), (4, _), (5, _), (6, _), (7, _)]) ?_ ⟨rfl, rfl, rfl, rfl, rfl, rfl, rfl, rfl, trivial⟩
            refine kw_aload_n (pc := 40) dL_hangs_40 rfl ?_
            refine kw_iload (pc := 41) dL_hangs_41 rfl ?_
            refine kw_iconst (v := 2) (pc := 43) dL_hangs_43 (by decide) ?_
            refine kw_callSr (pc := 44) dL_hangs_44 lL_100 (V0.parcelE (k := k) (j := 2) h.v rfl (rfl : (2 : Int32) = nI 2) hk (by decide)) rfl rfl ⟨by decide, by decide, Nat.le_of_ble_eq_true rfl⟩ ?_
            refine kw_istore (pc := 47) dL_hangs_47 (by decide) rfl ?_
            refine kW.locs (L' := [(0, _), (1, _), (2, _), (3, _), (4, _), (5, _), (6, _), (7, _), (8, _)]) ?_ ⟨rfl, rfl, rfl, rfl, rfl, rfl, rfl, rfl, rfl, trivial⟩
            refine kw_aload_n (pc := 49) dL_hangs_49 rfl ?_
            refine kw_iload (pc := 50) dL_hangs_50 rfl ?_
            refine kw_iconst (v := 5) (pc := 52) dL_hangs_52 (by decide) ?_
            refine kw_callSr (pc := 53) dL_hangs_53 lL_100 (V0.parcelE (k := k) (j := 5) h.v rfl (rfl : (5 : Int32) = nI 5) hk (by decide)) rfl rfl ⟨by decide, by decide, Nat.le_of_ble_eq_true rfl⟩ ?_
            refine kw_istore (pc := 56) dL_hangs_56 (by decide) rfl ?_
            refine kW.locs (L' := [(0, _), (1, _), (2, _), (3, _), (4, _), (5, _), (6, _), (7, _), (8, _), (9, _)]) ?_ ⟨rfl, rfl, rfl, rfl, rfl, rfl, rfl, rfl, rfl, rfl, trivial⟩
            refine kw_aload_n (pc := 58) dL_hangs_58 rfl ?_
            refine kw_iload (pc := 59) dL_hangs_59 rfl ?_
            refine kw_bipush (v := 9) (pc := 61) dL_hangs_61 (by decide) ?_
            refine kw_callSr (pc := 63) dL_hangs_63 lL_100 (V0.parcelE (k := k) (j := 9) h.v rfl (rfl : (9 : Int32) = nI 9) hk (by decide)) rfl rfl ⟨by decide, by decide, Nat.le_of_ble_eq_true rfl⟩ ?_
            refine kw_istore (pc := 66) dL_hangs_66 (by decide) rfl ?_
            refine kW.locs (L' := [(0, _), (1, _), (2, _), (3, _), (4, _), (5, _), (6, _), (7, _), (8, _), (9, _), (10, _)]) ?_ ⟨rfl, rfl, rfl, rfl, rfl, rfl, rfl, rfl, rfl, rfl, rfl, trivial⟩
            refine kw_aload_n (pc := 68) dL_hangs_68 rfl ?_
            refine kw_iload (pc := 69) dL_hangs_69 rfl ?_
            refine kw_bipush (v := 10) (pc := 71) dL_hangs_71 (by decide) ?_
            refine kw_callSr (pc := 73) dL_hangs_73 lL_100 (V0.parcelE (k := k) (j := 10) h.v rfl (rfl : (10 : Int32) = nI 10) hk (by decide)) rfl rfl ⟨by decide, by decide, Nat.le_of_ble_eq_true rfl⟩ ?_
            refine kw_if_ne (tgt := 83) (pc := 76) dL_hangs_76 (by decide) (fun h76 => ?_) (fun h76 => ?_)
            · have h76 := mt (kEqI (a := r) (b := 0) Lr (by decide) hr (rfl : (0 : Int32) = nI 0)).mpr h76
              exfalso; omega
            · have h76 := (kEqI (a := r) (b := 0) Lr (by decide) hr (rfl : (0 : Int32) = nI 0)).mp h76
              refine kw_iconst (v := 1) (pc := 79) dL_hangs_79 (by decide) ?_
              refine kw_goto (tgt := 84) (pc := 80) dL_hangs_80 (by decide) ?_
              refine kw_istore (pc := 84) dL_hangs_84 (by decide) rfl ?_
              refine kW.locs (L' := [(0, _), (1, _), (2, _), (3, _), (4, _), (5, _), (6, _), (7, _), (8, _), (9, _), (10, _), (11, _)]) ?_ ⟨rfl, rfl, rfl, rfl, rfl, rfl, rfl, rfl, rfl, rfl, rfl, rfl, trivial⟩
              refine kw_iload (pc := 86) dL_hangs_86 rfl ?_
              refine kw_iload (pc := 88) dL_hangs_88 rfl ?_
              refine kw_aload_n (pc := 90) dL_hangs_90 rfl ?_
              refine kw_iconst (v := 2) (pc := 91) dL_hangs_91 (by decide) ?_
              refine kw_callSr (pc := 92) dL_hangs_92 lL_102 (V0.settingE (j := 2) h.v (rfl : (2 : Int32) = nI 2) (by decide)) rfl rfl ⟨by decide, by decide, Nat.le_of_ble_eq_true rfl⟩ ?_
              refine kw_imul (pc := 95) dL_hangs_95 ?_
              refine kw_isub (pc := 96) dL_hangs_96 ?_
              refine kw_istore (pc := 97) dL_hangs_97 (by decide) rfl ?_
              refine kW.locs (L' := [(0, _), (1, _), (2, _), (3, _), (4, _), (5, _), (6, _), (7, _), (8, _), (9, _), (10, _), (11, _), (12, _)]) ?_ ⟨rfl, rfl, rfl, rfl, rfl, rfl, rfl, rfl, rfl, rfl, rfl, rfl, rfl, trivial⟩
              refine kw_aload_n (pc := 99) dL_hangs_99 rfl ?_
              refine kw_iload (pc := 100) dL_hangs_100 rfl ?_
              refine kw_bipush (v := 7) (pc := 102) dL_hangs_102 (by decide) ?_
              refine kw_callSr (pc := 104) dL_hangs_104 lL_100 (V0.parcelE (k := k) (j := 7) h.v rfl (rfl : (7 : Int32) = nI 7) hk (by decide)) rfl rfl ⟨by decide, by decide, Nat.le_of_ble_eq_true rfl⟩ ?_
              refine kw_aload_n (pc := 107) dL_hangs_107 rfl ?_
              refine kw_iconst (v := 1) (pc := 108) dL_hangs_108 (by decide) ?_
              refine kw_callSr (pc := 109) dL_hangs_109 lL_102 (V0.settingE (j := 1) h.v (rfl : (1 : Int32) = nI 1) (by decide)) rfl rfl ⟨by decide, by decide, Nat.le_of_ble_eq_true rfl⟩ ?_
              refine kw_icmp_le (tgt := 119) (pc := 112) dL_hangs_112 (by decide) (fun h112 => ?_) (fun h112 => ?_)
              · have h112 := (kLeI (a := gi) (b := x1) Lgi Lx1 hG hx1).mp h112
                exfalso; omega
              · have h112 := mt (kLeI (a := gi) (b := x1) Lgi Lx1 hG hx1).mpr h112
                refine kw_iconst (v := 1) (pc := 115) dL_hangs_115 (by decide) ?_
                refine kw_goto (tgt := 120) (pc := 116) dL_hangs_116 (by decide) ?_
                refine kw_istore (pc := 120) dL_hangs_120 (by decide) rfl ?_
                refine kW.locs (L' := [(0, _), (1, _), (2, _), (3, _), (4, _), (5, _), (6, _), (7, _), (8, _), (9, _), (10, _), (11, _), (12, _), (13, _)]) ?_ ⟨rfl, rfl, rfl, rfl, rfl, rfl, rfl, rfl, rfl, rfl, rfl, rfl, rfl, rfl, trivial⟩
                refine kw_iload_n (pc := 122) dL_hangs_122 rfl ?_
                refine kw_iload (pc := 123) dL_hangs_123 rfl ?_
                refine kw_if_eq (tgt := 132) (pc := 125) dL_hangs_125 (by decide) (fun h125 => ?_) (fun h125 => ?_)
                · exact absurd h125 (by decide)
                · refine kw_iconst (v := 1) (pc := 128) dL_hangs_128 (by decide) ?_
                  refine kw_goto (tgt := 133) (pc := 129) dL_hangs_129 (by decide) ?_
                  refine kw_iadd (pc := 133) dL_hangs_133 ?_
                  refine kw_istore_n (pc := 134) dL_hangs_134 (by decide) rfl ?_
                  refine kW.locs (L' := [(0, _), (1, _), (2, _), (3, _), (4, _), (5, _), (6, _), (7, _), (8, _), (9, _), (10, _), (11, _), (12, _), (13, _)]) ?_ ⟨rfl, rfl, rfl, rfl, rfl, rfl, rfl, rfl, rfl, rfl, rfl, rfl, rfl, rfl, trivial⟩
                  refine kw_iload_n (pc := 135) dL_hangs_135 rfl ?_
                  refine kw_iload (pc := 136) dL_hangs_136 rfl ?_
                  refine kw_if_eq (tgt := 145) (pc := 138) dL_hangs_138 (by decide) (fun h138 => ?_) (fun h138 => ?_)
                  · exact absurd h138 (by decide)
                  · refine kw_iconst (v := 1) (pc := 141) dL_hangs_141 (by decide) ?_
                    refine kw_goto (tgt := 146) (pc := 142) dL_hangs_142 (by decide) ?_
                    refine kw_iadd (pc := 146) dL_hangs_146 ?_
                    refine kw_istore_n (pc := 147) dL_hangs_147 (by decide) rfl ?_
                    refine kW.locs (L' := [(0, _), (1, _), (2, _), (3, _), (4, _), (5, _), (6, _), (7, _), (8, _), (9, _), (10, _), (11, _), (12, _), (13, _)]) ?_ ⟨rfl, rfl, rfl, rfl, rfl, rfl, rfl, rfl, rfl, rfl, rfl, rfl, rfl, rfl, trivial⟩
                    refine kw_iload_n (pc := 148) dL_hangs_148 rfl ?_
                    refine kw_iload (pc := 149) dL_hangs_149 rfl ?_
                    refine kw_if_eq (tgt := 159) (pc := 151) dL_hangs_151 (by decide) (fun h151 => ?_) (fun h151 => ?_)
                    · exact absurd h151 (by decide)
                    · refine kw_iload (pc := 154) dL_hangs_154 rfl ?_
                      refine kw_goto (tgt := 160) (pc := 156) dL_hangs_156 (by decide) ?_
                      refine kw_iadd (pc := 160) dL_hangs_160 ?_
                      refine kw_istore_n (pc := 161) dL_hangs_161 (by decide) rfl ?_
                      refine kW.locs (L' := [(0, _), (1, _), (2, _), (3, _), (4, _), (5, _), (6, _), (7, _), (8, _), (9, _), (10, _), (11, _), (12, _), (13, _)]) ?_ ⟨rfl, rfl, rfl, rfl, rfl, rfl, rfl, rfl, rfl, rfl, rfl, rfl, rfl, rfl, trivial⟩
                      refine kw_iload (pc := 162) dL_hangs_162 rfl ?_
                      refine kw_if_eq (tgt := 179) (pc := 164) dL_hangs_164 (by decide) (fun h164 => ?_) (fun h164 => ?_)
                      · exact absurd h164 (by decide)
                      · refine kw_iload (pc := 167) dL_hangs_167 rfl ?_
                        refine kw_iload (pc := 169) dL_hangs_169 rfl ?_
                        refine kw_icmp_le (tgt := 179) (pc := 171) dL_hangs_171 (by decide) (fun h171 => ?_) (fun h171 => ?_)
                        · refine kw_iload (pc := 179) dL_hangs_179 rfl ?_
                          refine kw_istore (pc := 181) dL_hangs_181 (by decide) rfl ?_
                          refine kW.locs (L' := [(0, _), (1, _), (2, _), (3, _), (4, _), (5, _), (6, _), (7, _), (8, _), (9, _), (11, _), (12, _), (13, _)]) ?_ ⟨rfl, rfl, rfl, rfl, rfl, rfl, rfl, rfl, rfl, rfl, rfl, rfl, rfl, trivial⟩
                          refine kw_aload_n (pc := 183) dL_hangs_183 rfl ?_
                          refine kw_aload_n (pc := 184) dL_hangs_184 rfl ?_
                          refine kw_iload (pc := 185) dL_hangs_185 rfl ?_
                          refine kw_bipush (v := 8) (pc := 187) dL_hangs_187 (by decide) ?_
                          refine kw_callSr (pc := 189) dL_hangs_189 lL_100 (V0.parcelE (k := k) (j := 8) h.v rfl (rfl : (8 : Int32) = nI 8) hk (by decide)) rfl rfl ⟨by decide, by decide, Nat.le_of_ble_eq_true rfl⟩ ?_
                          refine kw_iconst (v := 0) (pc := 192) dL_hangs_192 (by decide) ?_
                          refine kw_callSr (pc := 193) dL_hangs_193 lL_104 (h.v.rate0 hz9 hB hB2) rfl rfl ⟨by decide, by decide, Nat.le_of_ble_eq_true rfl⟩ ?_
                          refine kw_istore (pc := 196) dL_hangs_196 (by decide) rfl ?_
                          refine kW.locs (L' := [(0, _), (1, _), (2, _), (3, _), (4, _), (5, _), (6, _), (7, _), (8, _), (9, _), (11, _), (12, _), (13, _), (14, _)]) ?_ ⟨rfl, rfl, rfl, rfl, rfl, rfl, rfl, rfl, rfl, rfl, rfl, rfl, rfl, rfl, trivial⟩
                          refine kw_iload (pc := 198) dL_hangs_198 rfl ?_
                          refine kw_iload (pc := 200) dL_hangs_200 rfl ?_
                          refine kw_icmp_lt (tgt := 350) (pc := 202) dL_hangs_202 (by decide) (fun h202 => ?_) (fun h202 => ?_)
                          · have h202 := (kLtI (a := a) (b := b) La Lb ha hb).mp h202
                            exfalso; omega
                          · have h202 := mt (kLtI (a := a) (b := b) La Lb ha hb).mpr h202
                            refine kw_iload (pc := 205) dL_hangs_205 rfl ?_
                            refine kw_iload (pc := 207) dL_hangs_207 rfl ?_
                            refine kw_icmp_lt (tgt := 350) (pc := 209) dL_hangs_209 (by decide) (fun h209 => ?_) (fun h209 => ?_)
                            · have h209 := (kLtI (a := b) (b := d) Lb Ld hb hd).mp h209
                              exfalso; omega
                            · have h209 := mt (kLtI (a := b) (b := d) Lb Ld hb hd).mpr h209
                              refine kw_iload (pc := 212) dL_hangs_212 rfl ?_
                              refine kw_iconst (v := 1) (pc := 214) dL_hangs_214 (by decide) ?_
                              refine kw_icmp_lt (tgt := 350) (pc := 215) dL_hangs_215 (by decide) (fun h215 => ?_) (fun h215 => ?_)
                              · have h215 := (kLtI (a := d) (b := 1) Ld (by decide) hd (rfl : (1 : Int32) = nI 1)).mp h215
                                exfalso; omega
                              · have h215 := mt (kLtI (a := d) (b := 1) Ld (by decide) hd (rfl : (1 : Int32) = nI 1)).mpr h215
                                refine kw_iload (pc := 218) dL_hangs_218 rfl ?_
                                refine kw_bipush (v := 60) (pc := 220) dL_hangs_220 (by decide) ?_
                                refine kw_icmp_gt (tgt := 350) (pc := 222) dL_hangs_222 (by decide) (fun h222 => ?_) (fun h222 => ?_)
                                · have h222 := (kLtI (a := 60) (b := a) (by decide) La (rfl : (60 : Int32) = nI 60) ha).mp h222
                                  exfalso; omega
                                · have h222 := mt (kLtI (a := 60) (b := a) (by decide) La (rfl : (60 : Int32) = nI 60) ha).mpr h222
                                  refine kw_aload_n (pc := 225) dL_hangs_225 rfl ?_
                                  refine kw_iload (pc := 226) dL_hangs_226 rfl ?_
                                  refine kw_bipush (v := 7) (pc := 228) dL_hangs_228 (by decide) ?_
                                  refine kw_callSr (pc := 230) dL_hangs_230 lL_100 (V0.parcelE (k := k) (j := 7) h.v rfl (rfl : (7 : Int32) = nI 7) hk (by decide)) rfl rfl ⟨by decide, by decide, Nat.le_of_ble_eq_true rfl⟩ ?_
                                  refine kw_iload (pc := 233) dL_hangs_233 rfl ?_
                                  refine kw_iconst (v := 2) (pc := 235) dL_hangs_235 (by decide) ?_
                                  refine kw_iload (pc := 236) dL_hangs_236 rfl ?_
                                  refine kw_iload (pc := 238) dL_hangs_238 rfl ?_
                                  refine kw_iadd (pc := 240) dL_hangs_240 ?_
                                  refine kw_imul (pc := 241) dL_hangs_241 ?_
                                  refine kw_iadd (pc := 242) dL_hangs_242 ?_
                                  refine kw_icmp_ne (tgt := 350) (pc := 243) dL_hangs_243 (by decide) (fun h243 => ?_) (fun h243 => ?_)
                                  · have h243 := mt (kEqI (a := gi) (b := (a + (2 * (b + d)))) Lgi (by omega) hG (kA (a := a) (b := (2 * (b + d))) ha (kMu (a := 2) (b := (b + d)) (rfl : (2 : Int32) = nI 2) (kA (a := b) (b := d) hb hd)))).mpr h243
                                    exfalso; omega
                                  · have h243 := (kEqI (a := gi) (b := (a + (2 * (b + d)))) Lgi (by omega) hG (kA (a := a) (b := (2 * (b + d))) ha (kMu (a := 2) (b := (b + d)) (rfl : (2 : Int32) = nI 2) (kA (a := b) (b := d) hb hd)))).mp h243
                                    refine kw_aload_n (pc := 246) dL_hangs_246 rfl ?_
                                    refine kw_iload (pc := 247) dL_hangs_247 rfl ?_
                                    refine kw_bipush (v := 8) (pc := 249) dL_hangs_249 (by decide) ?_
                                    refine kw_callSr (pc := 251) dL_hangs_251 lL_100 (V0.parcelE (k := k) (j := 8) h.v rfl (rfl : (8 : Int32) = nI 8) hk (by decide)) rfl rfl ⟨by decide, by decide, Nat.le_of_ble_eq_true rfl⟩ ?_
                                    refine kw_iconst (v := 2) (pc := 254) dL_hangs_254 (by decide) ?_
                                    refine kw_iload (pc := 255) dL_hangs_255 rfl ?_
                                    refine kw_iload (pc := 257) dL_hangs_257 rfl ?_
                                    refine kw_iadd (pc := 259) dL_hangs_259 ?_
                                    refine kw_imul (pc := 260) dL_hangs_260 ?_
                                    refine kw_icmp_gt (tgt := 272) (pc := 261) dL_hangs_261 (by decide) (fun h261 => ?_) (fun h261 => ?_)
                                    · have h261 := (kLtI (a := (2 * (b + d))) (b := Z) (by omega) LZ (kMu (a := 2) (b := (b + d)) (rfl : (2 : Int32) = nI 2) (kA (a := b) (b := d) hb hd)) hZ).mp h261
                                      refine kw_iload (pc := 272) dL_hangs_272 rfl ?_
                                      refine kw_if_ne (tgt := 294) (pc := 274) dL_hangs_274 (by decide) (fun h274 => ?_) (fun h274 => ?_)
                                      · refine kw_iload (pc := 294) dL_hangs_294 rfl ?_
                                        refine kw_iload (pc := 296) dL_hangs_296 rfl ?_
                                        refine kw_icmp_lt (tgt := 350) (pc := 298) dL_hangs_298 (by decide) (fun h298 => ?_) (fun h298 => ?_)
                                        · have h298 := (kLtI (a := (W - (co * x2))) (b := R) (Nat.lt_of_le_of_lt (Nat.sub_le _ _) LW) LR (kS (a := W) (b := (co * x2)) hW (kMu (a := co) (b := x2) hco hx2) hW2) hR).mp h298
                                          exfalso; omega
                                        · have h298 := mt (kLtI (a := (W - (co * x2))) (b := R) (Nat.lt_of_le_of_lt (Nat.sub_le _ _) LW) LR (kS (a := W) (b := (co * x2)) hW (kMu (a := co) (b := x2) hco hx2) hW2) hR).mpr h298
                                          have e4 : moN s0 (k + 1) = moN s0 k := if_neg (fun q => absurd h171 (Int32.not_le.mpr q.2))
                                          exact kW.locs t301 ⟨rfl, kgE rfl (cnt_t hr0).symm, kgE rfl (odd_t ho).symm, kgE rfl (sum_t hr0).symm, kgE rfl e4.symm, rfl, kgE rfl hco, rfl, trivial⟩
                                      · exact absurd h274 (by decide)
                                    · have h261 := mt (kLtI (a := (2 * (b + d))) (b := Z) (by omega) LZ (kMu (a := 2) (b := (b + d)) (rfl : (2 : Int32) = nI 2) (kA (a := b) (b := d) hb hd)) hZ).mpr h261
                                      refine kw_aload_n (pc := 264) dL_hangs_264 rfl ?_
                                      refine kw_iconst (v := 0) (pc := 265) dL_hangs_265 (by decide) ?_
                                      refine kw_callSr (pc := 266) dL_hangs_266 lL_102 (V0.settingE (j := 0) h.v (rfl : (0 : Int32) = nI 0) (by decide)) rfl rfl ⟨by decide, by decide, Nat.le_of_ble_eq_true rfl⟩ ?_
                                      refine kw_if_gt (tgt := 350) (pc := 269) dL_hangs_269 (by decide) (fun h269 => ?_) (fun h269 => ?_)
                                      · have h269 := (kLtI (a := 0) (b := x0) (by decide) Lx0 (rfl : (0 : Int32) = nI 0) hx0).mp h269
                                        exfalso; omega
                                      · have h269 := mt (kLtI (a := 0) (b := x0) (by decide) Lx0 (rfl : (0 : Int32) = nI 0) hx0).mpr h269
                                        refine kw_iload (pc := 272) dL_hangs_272 rfl ?_
                                        refine kw_if_ne (tgt := 294) (pc := 274) dL_hangs_274 (by decide) (fun h274 => ?_) (fun h274 => ?_)
                                        · refine kw_iload (pc := 294) dL_hangs_294 rfl ?_
                                          refine kw_iload (pc := 296) dL_hangs_296 rfl ?_
                                          refine kw_icmp_lt (tgt := 350) (pc := 298) dL_hangs_298 (by decide) (fun h298 => ?_) (fun h298 => ?_)
                                          · have h298 := (kLtI (a := (W - (co * x2))) (b := R) (Nat.lt_of_le_of_lt (Nat.sub_le _ _) LW) LR (kS (a := W) (b := (co * x2)) hW (kMu (a := co) (b := x2) hco hx2) hW2) hR).mp h298
                                            exfalso; omega
                                          · have h298 := mt (kLtI (a := (W - (co * x2))) (b := R) (Nat.lt_of_le_of_lt (Nat.sub_le _ _) LW) LR (kS (a := W) (b := (co * x2)) hW (kMu (a := co) (b := x2) hco hx2) hW2) hR).mpr h298
                                            have e4 : moN s0 (k + 1) = moN s0 k := if_neg (fun q => absurd h171 (Int32.not_le.mpr q.2))
                                            exact kW.locs t301 ⟨rfl, kgE rfl (cnt_t hr0).symm, kgE rfl (odd_t ho).symm, kgE rfl (sum_t hr0).symm, kgE rfl e4.symm, rfl, kgE rfl hco, rfl, trivial⟩
                                        · exact absurd h274 (by decide)
                        · refine kw_iload (pc := 174) dL_hangs_174 rfl ?_
                          refine kw_goto (tgt := 181) (pc := 176) dL_hangs_176 (by decide) ?_
                          refine kw_istore (pc := 181) dL_hangs_181 (by decide) rfl ?_
                          refine kW.locs (L' := [(0, _), (1, _), (2, _), (3, _), (4, _), (5, _), (6, _), (7, _), (8, _), (9, _), (11, _), (12, _), (13, _)]) ?_ ⟨rfl, rfl, rfl, rfl, rfl, rfl, rfl, rfl, rfl, rfl, rfl, rfl, rfl, trivial⟩
                          refine kw_aload_n (pc := 183) dL_hangs_183 rfl ?_
                          refine kw_aload_n (pc := 184) dL_hangs_184 rfl ?_
                          refine kw_iload (pc := 185) dL_hangs_185 rfl ?_
                          refine kw_bipush (v := 8) (pc := 187) dL_hangs_187 (by decide) ?_
                          refine kw_callSr (pc := 189) dL_hangs_189 lL_100 (V0.parcelE (k := k) (j := 8) h.v rfl (rfl : (8 : Int32) = nI 8) hk (by decide)) rfl rfl ⟨by decide, by decide, Nat.le_of_ble_eq_true rfl⟩ ?_
                          refine kw_iconst (v := 0) (pc := 192) dL_hangs_192 (by decide) ?_
                          refine kw_callSr (pc := 193) dL_hangs_193 lL_104 (h.v.rate0 hz9 hB hB2) rfl rfl ⟨by decide, by decide, Nat.le_of_ble_eq_true rfl⟩ ?_
                          refine kw_istore (pc := 196) dL_hangs_196 (by decide) rfl ?_
                          refine kW.locs (L' := [(0, _), (1, _), (2, _), (3, _), (4, _), (5, _), (6, _), (7, _), (8, _), (9, _), (11, _), (12, _), (13, _), (14, _)]) ?_ ⟨rfl, rfl, rfl, rfl, rfl, rfl, rfl, rfl, rfl, rfl, rfl, rfl, rfl, rfl, trivial⟩
                          refine kw_iload (pc := 198) dL_hangs_198 rfl ?_
                          refine kw_iload (pc := 200) dL_hangs_200 rfl ?_
                          refine kw_icmp_lt (tgt := 350) (pc := 202) dL_hangs_202 (by decide) (fun h202 => ?_) (fun h202 => ?_)
                          · have h202 := (kLtI (a := a) (b := b) La Lb ha hb).mp h202
                            exfalso; omega
                          · have h202 := mt (kLtI (a := a) (b := b) La Lb ha hb).mpr h202
                            refine kw_iload (pc := 205) dL_hangs_205 rfl ?_
                            refine kw_iload (pc := 207) dL_hangs_207 rfl ?_
                            refine kw_icmp_lt (tgt := 350) (pc := 209) dL_hangs_209 (by decide) (fun h209 => ?_) (fun h209 => ?_)
                            · have h209 := (kLtI (a := b) (b := d) Lb Ld hb hd).mp h209
                              exfalso; omega
                            · have h209 := mt (kLtI (a := b) (b := d) Lb Ld hb hd).mpr h209
                              refine kw_iload (pc := 212) dL_hangs_212 rfl ?_
                              refine kw_iconst (v := 1) (pc := 214) dL_hangs_214 (by decide) ?_
                              refine kw_icmp_lt (tgt := 350) (pc := 215) dL_hangs_215 (by decide) (fun h215 => ?_) (fun h215 => ?_)
                              · have h215 := (kLtI (a := d) (b := 1) Ld (by decide) hd (rfl : (1 : Int32) = nI 1)).mp h215
                                exfalso; omega
                              · have h215 := mt (kLtI (a := d) (b := 1) Ld (by decide) hd (rfl : (1 : Int32) = nI 1)).mpr h215
                                refine kw_iload (pc := 218) dL_hangs_218 rfl ?_
                                refine kw_bipush (v := 60) (pc := 220) dL_hangs_220 (by decide) ?_
                                refine kw_icmp_gt (tgt := 350) (pc := 222) dL_hangs_222 (by decide) (fun h222 => ?_) (fun h222 => ?_)
                                · have h222 := (kLtI (a := 60) (b := a) (by decide) La (rfl : (60 : Int32) = nI 60) ha).mp h222
                                  exfalso; omega
                                · have h222 := mt (kLtI (a := 60) (b := a) (by decide) La (rfl : (60 : Int32) = nI 60) ha).mpr h222
                                  refine kw_aload_n (pc := 225) dL_hangs_225 rfl ?_
                                  refine kw_iload (pc := 226) dL_hangs_226 rfl ?_
                                  refine kw_bipush (v := 7) (pc := 228) dL_hangs_228 (by decide) ?_
                                  refine kw_callSr (pc := 230) dL_hangs_230 lL_100 (V0.parcelE (k := k) (j := 7) h.v rfl (rfl : (7 : Int32) = nI 7) hk (by decide)) rfl rfl ⟨by decide, by decide, Nat.le_of_ble_eq_true rfl⟩ ?_
                                  refine kw_iload (pc := 233) dL_hangs_233 rfl ?_
                                  refine kw_iconst (v := 2) (pc := 235) dL_hangs_235 (by decide) ?_
                                  refine kw_iload (pc := 236) dL_hangs_236 rfl ?_
                                  refine kw_iload (pc := 238) dL_hangs_238 rfl ?_
                                  refine kw_iadd (pc := 240) dL_hangs_240 ?_
                                  refine kw_imul (pc := 241) dL_hangs_241 ?_
                                  refine kw_iadd (pc := 242) dL_hangs_242 ?_
                                  refine kw_icmp_ne (tgt := 350) (pc := 243) dL_hangs_243 (by decide) (fun h243 => ?_) (fun h243 => ?_)
                                  · have h243 := mt (kEqI (a := gi) (b := (a + (2 * (b + d)))) Lgi (by omega) hG (kA (a := a) (b := (2 * (b + d))) ha (kMu (a := 2) (b := (b + d)) (rfl : (2 : Int32) = nI 2) (kA (a := b) (b := d) hb hd)))).mpr h243
                                    exfalso; omega
                                  · have h243 := (kEqI (a := gi) (b := (a + (2 * (b + d)))) Lgi (by omega) hG (kA (a := a) (b := (2 * (b + d))) ha (kMu (a := 2) (b := (b + d)) (rfl : (2 : Int32) = nI 2) (kA (a := b) (b := d) hb hd)))).mp h243
                                    refine kw_aload_n (pc := 246) dL_hangs_246 rfl ?_
                                    refine kw_iload (pc := 247) dL_hangs_247 rfl ?_
                                    refine kw_bipush (v := 8) (pc := 249) dL_hangs_249 (by decide) ?_
                                    refine kw_callSr (pc := 251) dL_hangs_251 lL_100 (V0.parcelE (k := k) (j := 8) h.v rfl (rfl : (8 : Int32) = nI 8) hk (by decide)) rfl rfl ⟨by decide, by decide, Nat.le_of_ble_eq_true rfl⟩ ?_
                                    refine kw_iconst (v := 2) (pc := 254) dL_hangs_254 (by decide) ?_
                                    refine kw_iload (pc := 255) dL_hangs_255 rfl ?_
                                    refine kw_iload (pc := 257) dL_hangs_257 rfl ?_
                                    refine kw_iadd (pc := 259) dL_hangs_259 ?_
                                    refine kw_imul (pc := 260) dL_hangs_260 ?_
                                    refine kw_icmp_gt (tgt := 272) (pc := 261) dL_hangs_261 (by decide) (fun h261 => ?_) (fun h261 => ?_)
                                    · have h261 := (kLtI (a := (2 * (b + d))) (b := Z) (by omega) LZ (kMu (a := 2) (b := (b + d)) (rfl : (2 : Int32) = nI 2) (kA (a := b) (b := d) hb hd)) hZ).mp h261
                                      refine kw_iload (pc := 272) dL_hangs_272 rfl ?_
                                      refine kw_if_ne (tgt := 294) (pc := 274) dL_hangs_274 (by decide) (fun h274 => ?_) (fun h274 => ?_)
                                      · refine kw_iload (pc := 294) dL_hangs_294 rfl ?_
                                        refine kw_iload (pc := 296) dL_hangs_296 rfl ?_
                                        refine kw_icmp_lt (tgt := 350) (pc := 298) dL_hangs_298 (by decide) (fun h298 => ?_) (fun h298 => ?_)
                                        · have h298 := (kLtI (a := (W - (co * x2))) (b := R) (Nat.lt_of_le_of_lt (Nat.sub_le _ _) LW) LR (kS (a := W) (b := (co * x2)) hW (kMu (a := co) (b := x2) hco hx2) hW2) hR).mp h298
                                          exfalso; omega
                                        · have h298 := mt (kLtI (a := (W - (co * x2))) (b := R) (Nat.lt_of_le_of_lt (Nat.sub_le _ _) LW) LR (kS (a := W) (b := (co * x2)) hW (kMu (a := co) (b := x2) hco hx2) hW2) hR).mpr h298
                                          have e4 : moN s0 (k + 1) = pP s0 (pa s0 (21 + 7 * k)) := if_pos ⟨hr0, Int32.not_le.mp h171⟩
                                          exact kW.locs t301 ⟨rfl, kgE rfl (cnt_t hr0).symm, kgE rfl (odd_t ho).symm, kgE rfl (sum_t hr0).symm, kgE rfl e4.symm, rfl, kgE rfl hco, rfl, trivial⟩
                                      · exact absurd h274 (by decide)
                                    · have h261 := mt (kLtI (a := (2 * (b + d))) (b := Z) (by omega) LZ (kMu (a := 2) (b := (b + d)) (rfl : (2 : Int32) = nI 2) (kA (a := b) (b := d) hb hd)) hZ).mpr h261
                                      refine kw_aload_n (pc := 264) dL_hangs_264 rfl ?_
                                      refine kw_iconst (v := 0) (pc := 265) dL_hangs_265 (by decide) ?_
                                      refine kw_callSr (pc := 266) dL_hangs_266 lL_102 (V0.settingE (j := 0) h.v (rfl : (0 : Int32) = nI 0) (by decide)) rfl rfl ⟨by decide, by decide, Nat.le_of_ble_eq_true rfl⟩ ?_
                                      refine kw_if_gt (tgt := 350) (pc := 269) dL_hangs_269 (by decide) (fun h269 => ?_) (fun h269 => ?_)
                                      · have h269 := (kLtI (a := 0) (b := x0) (by decide) Lx0 (rfl : (0 : Int32) = nI 0) hx0).mp h269
                                        exfalso; omega
                                      · have h269 := mt (kLtI (a := 0) (b := x0) (by decide) Lx0 (rfl : (0 : Int32) = nI 0) hx0).mpr h269
                                        refine kw_iload (pc := 272) dL_hangs_272 rfl ?_
                                        refine kw_if_ne (tgt := 294) (pc := 274) dL_hangs_274 (by decide) (fun h274 => ?_) (fun h274 => ?_)
                                        · refine kw_iload (pc := 294) dL_hangs_294 rfl ?_
                                          refine kw_iload (pc := 296) dL_hangs_296 rfl ?_
                                          refine kw_icmp_lt (tgt := 350) (pc := 298) dL_hangs_298 (by decide) (fun h298 => ?_) (fun h298 => ?_)
                                          · have h298 := (kLtI (a := (W - (co * x2))) (b := R) (Nat.lt_of_le_of_lt (Nat.sub_le _ _) LW) LR (kS (a := W) (b := (co * x2)) hW (kMu (a := co) (b := x2) hco hx2) hW2) hR).mp h298
                                            exfalso; omega
                                          · have h298 := mt (kLtI (a := (W - (co * x2))) (b := R) (Nat.lt_of_le_of_lt (Nat.sub_le _ _) LW) LR (kS (a := W) (b := (co * x2)) hW (kMu (a := co) (b := x2) hco hx2) hW2) hR).mpr h298
                                            have e4 : moN s0 (k + 1) = pP s0 (pa s0 (21 + 7 * k)) := if_pos ⟨hr0, Int32.not_le.mp h171⟩
                                            exact kW.locs t301 ⟨rfl, kgE rfl (cnt_t hr0).symm, kgE rfl (odd_t ho).symm, kgE rfl (sum_t hr0).symm, kgE rfl e4.symm, rfl, kgE rfl hco, rfl, trivial⟩
                                        · exact absurd h274 (by decide)
          · have hq2 := mt hoi.mpr ho
            refine kw_aload_n (pc := 22) dL_hangs_22 rfl ?_
            refine kw_iload (pc := 23) dL_hangs_23 rfl ?_
            refine kw_iconst (v := 0) (pc := 25) dL_hangs_25 (by decide) ?_
            refine kw_callSr (pc := 26) dL_hangs_26 lL_100 (V0.parcelE (k := k) (j := 0) h.v rfl (rfl : (0 : Int32) = nI 0) hk (by decide)) rfl rfl ⟨by decide, by decide, Nat.le_of_ble_eq_true rfl⟩ ?_
            refine kw_istore (pc := 29) dL_hangs_29 (by decide) rfl ?_
            refine kW.locs (L' := [(0, _), (1, _), (2, _), (3, _), (4, _), (5, _), (6, _)]) ?_ ⟨rfl, rfl, rfl, rfl, rfl, rfl, rfl, trivial⟩
            refine kw_aload_n (pc := 31) dL_hangs_31 rfl ?_
            refine kw_iload (pc := 32) dL_hangs_32 rfl ?_
            refine kw_iconst (v := 1) (pc := 34) dL_hangs_34 (by decide) ?_
            refine kw_callSr (pc := 35) dL_hangs_35 lL_100 (V0.parcelE (k := k) (j := 1) h.v rfl (rfl : (1 : Int32) = nI 1) hk (by decide)) rfl rfl ⟨by decide, by decide, Nat.le_of_ble_eq_true rfl⟩ ?_
            refine kw_istore (pc := 38) dL_hangs_38 (by decide) rfl ?_
            refine kW.locs (L' := [(0, _), (1, _), (2, _), (3, _), (4, _), (5, _), (6, _), (7, _)]) ?_ ⟨rfl, rfl, rfl, rfl, rfl, rfl, rfl, rfl, trivial⟩
            refine kw_aload_n (pc := 40) dL_hangs_40 rfl ?_
            refine kw_iload (pc := 41) dL_hangs_41 rfl ?_
            refine kw_iconst (v := 2) (pc := 43) dL_hangs_43 (by decide) ?_
            refine kw_callSr (pc := 44) dL_hangs_44 lL_100 (V0.parcelE (k := k) (j := 2) h.v rfl (rfl : (2 : Int32) = nI 2) hk (by decide)) rfl rfl ⟨by decide, by decide, Nat.le_of_ble_eq_true rfl⟩ ?_
            refine kw_istore (pc := 47) dL_hangs_47 (by decide) rfl ?_
            refine kW.locs (L' := [(0, _), (1, _), (2, _), (3, _), (4, _), (5, _), (6, _), (7, _), (8, _)]) ?_ ⟨rfl, rfl, rfl, rfl, rfl, rfl, rfl, rfl, rfl, trivial⟩
            refine kw_aload_n (pc := 49) dL_hangs_49 rfl ?_
            refine kw_iload (pc := 50) dL_hangs_50 rfl ?_
            refine kw_iconst (v := 5) (pc := 52) dL_hangs_52 (by decide) ?_
            refine kw_callSr (pc := 53) dL_hangs_53 lL_100 (V0.parcelE (k := k) (j := 5) h.v rfl (rfl : (5 : Int32) = nI 5) hk (by decide)) rfl rfl ⟨by decide, by decide, Nat.le_of_ble_eq_true rfl⟩ ?_
            refine kw_istore (pc := 56) dL_hangs_56 (by decide) rfl ?_
            refine kW.locs (L' := [(0, _), (1, _), (2, _), (3, _), (4, _), (5, _), (6, _), (7, _), (8, _), (9, _)]) ?_ ⟨rfl, rfl, rfl, rfl, rfl, rfl, rfl, rfl, rfl, rfl, trivial⟩
            refine kw_aload_n (pc := 58) dL_hangs_58 rfl ?_
            refine kw_iload (pc := 59) dL_hangs_59 rfl ?_
            refine kw_bipush (v := 9) (pc := 61) dL_hangs_61 (by decide) ?_
            refine kw_callSr (pc := 63) dL_hangs_63 lL_100 (V0.parcelE (k := k) (j := 9) h.v rfl (rfl : (9 : Int32) = nI 9) hk (by decide)) rfl rfl ⟨by decide, by decide, Nat.le_of_ble_eq_true rfl⟩ ?_
            refine kw_istore (pc := 66) dL_hangs_66 (by decide) rfl ?_
            refine kW.locs (L' := [(0, _), (1, _), (2, _), (3, _), (4, _), (5, _), (6, _), (7, _), (8, _), (9, _), (10, _)]) ?_ ⟨rfl, rfl, rfl, rfl, rfl, rfl, rfl, rfl, rfl, rfl, rfl, trivial⟩
            refine kw_aload_n (pc := 68) dL_hangs_68 rfl ?_
            refine kw_iload (pc := 69) dL_hangs_69 rfl ?_
            refine kw_bipush (v := 10) (pc := 71) dL_hangs_71 (by decide) ?_
            refine kw_callSr (pc := 73) dL_hangs_73 lL_100 (V0.parcelE (k := k) (j := 10) h.v rfl (rfl : (10 : Int32) = nI 10) hk (by decide)) rfl rfl ⟨by decide, by decide, Nat.le_of_ble_eq_true rfl⟩ ?_
            refine kw_if_ne (tgt := 83) (pc := 76) dL_hangs_76 (by decide) (fun h76 => ?_) (fun h76 => ?_)
            · have h76 := mt (kEqI (a := r) (b := 0) Lr (by decide) hr (rfl : (0 : Int32) = nI 0)).mpr h76
              exfalso; omega
            · have h76 := (kEqI (a := r) (b := 0) Lr (by decide) hr (rfl : (0 : Int32) = nI 0)).mp h76
              refine kw_iconst (v := 1) (pc := 79) dL_hangs_79 (by decide) ?_
              refine kw_goto (tgt := 84) (pc := 80) dL_hangs_80 (by decide) ?_
              refine kw_istore (pc := 84) dL_hangs_84 (by decide) rfl ?_
              refine kW.locs (L' := [(0, _), (1, _), (2, _), (3, _), (4, _), (5, _), (6, _), (7, _), (8, _), (9, _), (10, _), (11, _)]) ?_ ⟨rfl, rfl, rfl, rfl, rfl, rfl, rfl, rfl, rfl, rfl, rfl, rfl, trivial⟩
              refine kw_iload (pc := 86) dL_hangs_86 rfl ?_
              refine kw_iload (pc := 88) dL_hangs_88 rfl ?_
              refine kw_aload_n (pc := 90) dL_hangs_90 rfl ?_
              refine kw_iconst (v := 2) (pc := 91) dL_hangs_91 (by decide) ?_
              refine kw_callSr (pc := 92) dL_hangs_92 lL_102 (V0.settingE (j := 2) h.v (rfl : (2 : Int32) = nI 2) (by decide)) rfl rfl ⟨by decide, by decide, Nat.le_of_ble_eq_true rfl⟩ ?_
              refine kw_imul (pc := 95) dL_hangs_95 ?_
              refine kw_isub (pc := 96) dL_hangs_96 ?_
              refine kw_istore (pc := 97) dL_hangs_97 (by decide) rfl ?_
              refine kW.locs (L' := [(0, _), (1, _), (2, _), (3, _), (4, _), (5, _), (6, _), (7, _), (8, _), (9, _), (10, _), (11, _), (12, _)]) ?_ ⟨rfl, rfl, rfl, rfl, rfl, rfl, rfl, rfl, rfl, rfl, rfl, rfl, rfl, trivial⟩
              refine kw_aload_n (pc := 99) dL_hangs_99 rfl ?_
              refine kw_iload (pc := 100) dL_hangs_100 rfl ?_
              refine kw_bipush (v := 7) (pc := 102) dL_hangs_102 (by decide) ?_
              refine kw_callSr (pc := 104) dL_hangs_104 lL_100 (V0.parcelE (k := k) (j := 7) h.v rfl (rfl : (7 : Int32) = nI 7) hk (by decide)) rfl rfl ⟨by decide, by decide, Nat.le_of_ble_eq_true rfl⟩ ?_
              refine kw_aload_n (pc := 107) dL_hangs_107 rfl ?_
              refine kw_iconst (v := 1) (pc := 108) dL_hangs_108 (by decide) ?_
              refine kw_callSr (pc := 109) dL_hangs_109 lL_102 (V0.settingE (j := 1) h.v (rfl : (1 : Int32) = nI 1) (by decide)) rfl rfl ⟨by decide, by decide, Nat.le_of_ble_eq_true rfl⟩ ?_
              refine kw_icmp_le (tgt := 119) (pc := 112) dL_hangs_112 (by decide) (fun h112 => ?_) (fun h112 => ?_)
              · have h112 := (kLeI (a := gi) (b := x1) Lgi Lx1 hG hx1).mp h112
                refine kw_iconst (v := 0) (pc := 119) dL_hangs_119 (by decide) ?_
                refine kw_istore (pc := 120) dL_hangs_120 (by decide) rfl ?_
                refine kW.locs (L' := [(0, _), (1, _), (2, _), (3, _), (4, _), (5, _), (6, _), (7, _), (8, _), (9, _), (10, _), (11, _), (12, _), (13, _)]) ?_ ⟨rfl, rfl, rfl, rfl, rfl, rfl, rfl, rfl, rfl, rfl, rfl, rfl, rfl, rfl, trivial⟩
                refine kw_iload_n (pc := 122) dL_hangs_122 rfl ?_
                refine kw_iload (pc := 123) dL_hangs_123 rfl ?_
                refine kw_if_eq (tgt := 132) (pc := 125) dL_hangs_125 (by decide) (fun h125 => ?_) (fun h125 => ?_)
                · exact absurd h125 (by decide)
                · refine kw_iconst (v := 1) (pc := 128) dL_hangs_128 (by decide) ?_
                  refine kw_goto (tgt := 133) (pc := 129) dL_hangs_129 (by decide) ?_
                  refine kw_iadd (pc := 133) dL_hangs_133 ?_
                  refine kw_istore_n (pc := 134) dL_hangs_134 (by decide) rfl ?_
                  refine kW.locs (L' := [(0, _), (1, _), (2, _), (3, _), (4, _), (5, _), (6, _), (7, _), (8, _), (9, _), (10, _), (11, _), (12, _), (13, _)]) ?_ ⟨rfl, rfl, rfl, rfl, rfl, rfl, rfl, rfl, rfl, rfl, rfl, rfl, rfl, rfl, trivial⟩
                  refine kw_iload_n (pc := 135) dL_hangs_135 rfl ?_
                  refine kw_iload (pc := 136) dL_hangs_136 rfl ?_
                  refine kw_if_eq (tgt := 145) (pc := 138) dL_hangs_138 (by decide) (fun h138 => ?_) (fun h138 => ?_)
                  · refine kw_iconst (v := 0) (pc := 145) dL_hangs_145 (by decide) ?_
                    refine kw_iadd (pc := 146) dL_hangs_146 ?_
                    refine kw_istore_n (pc := 147) dL_hangs_147 (by decide) rfl ?_
                    refine kW.locs (L' := [(0, _), (1, _), (2, _), (3, _), (4, _), (5, _), (6, _), (7, _), (8, _), (9, _), (10, _), (11, _), (12, _), (13, _)]) ?_ ⟨rfl, rfl, rfl, rfl, rfl, rfl, rfl, rfl, rfl, rfl, rfl, rfl, rfl, rfl, trivial⟩
                    refine kw_iload_n (pc := 148) dL_hangs_148 rfl ?_
                    refine kw_iload (pc := 149) dL_hangs_149 rfl ?_
                    refine kw_if_eq (tgt := 159) (pc := 151) dL_hangs_151 (by decide) (fun h151 => ?_) (fun h151 => ?_)
                    · exact absurd h151 (by decide)
                    · refine kw_iload (pc := 154) dL_hangs_154 rfl ?_
                      refine kw_goto (tgt := 160) (pc := 156) dL_hangs_156 (by decide) ?_
                      refine kw_iadd (pc := 160) dL_hangs_160 ?_
                      refine kw_istore_n (pc := 161) dL_hangs_161 (by decide) rfl ?_
                      refine kW.locs (L' := [(0, _), (1, _), (2, _), (3, _), (4, _), (5, _), (6, _), (7, _), (8, _), (9, _), (10, _), (11, _), (12, _), (13, _)]) ?_ ⟨rfl, rfl, rfl, rfl, rfl, rfl, rfl, rfl, rfl, rfl, rfl, rfl, rfl, rfl, trivial⟩
                      refine kw_iload (pc := 162) dL_hangs_162 rfl ?_
                      refine kw_if_eq (tgt := 179) (pc := 164) dL_hangs_164 (by decide) (fun h164 => ?_) (fun h164 => ?_)
                      · exact absurd h164 (by decide)
                      · refine kw_iload (pc := 167) dL_hangs_167 rfl ?_
                        refine kw_iload (pc := 169) dL_hangs_169 rfl ?_
                        refine kw_icmp_le (tgt := 179) (pc := 171) dL_hangs_171 (by decide) (fun h171 => ?_) (fun h171 => ?_)
                        · refine kw_iload (pc := 179) dL_hangs_179 rfl ?_
                          refine kw_istore (pc := 181) dL_hangs_181 (by decide) rfl ?_
                          refine kW.locs (L' := [(0, _), (1, _), (2, _), (3, _), (4, _), (5, _), (6, _), (7, _), (8, _), (9, _), (11, _), (12, _), (13, _)]) ?_ ⟨rfl, rfl, rfl, rfl, rfl, rfl, rfl, rfl, rfl, rfl, rfl, rfl, rfl, trivial⟩
                          refine kw_aload_n (pc := 183) dL_hangs_183 rfl ?_
                          refine kw_aload_n (pc := 184) dL_hangs_184 rfl ?_
                          refine kw_iload (pc := 185) dL_hangs_185 rfl ?_
                          refine kw_bipush (v := 8) (pc := 187) dL_hangs_187 (by decide) ?_
                          refine kw_callSr (pc := 189) dL_hangs_189 lL_100 (V0.parcelE (k := k) (j := 8) h.v rfl (rfl : (8 : Int32) = nI 8) hk (by decide)) rfl rfl ⟨by decide, by decide, Nat.le_of_ble_eq_true rfl⟩ ?_
                          refine kw_iconst (v := 0) (pc := 192) dL_hangs_192 (by decide) ?_
                          refine kw_callSr (pc := 193) dL_hangs_193 lL_104 (h.v.rate0 hz9 hB hB2) rfl rfl ⟨by decide, by decide, Nat.le_of_ble_eq_true rfl⟩ ?_
                          refine kw_istore (pc := 196) dL_hangs_196 (by decide) rfl ?_
                          refine kW.locs (L' := [(0, _), (1, _), (2, _), (3, _), (4, _), (5, _), (6, _), (7, _), (8, _), (9, _), (11, _), (12, _), (13, _), (14, _)]) ?_ ⟨rfl, rfl, rfl, rfl, rfl, rfl, rfl, rfl, rfl, rfl, rfl, rfl, rfl, rfl, trivial⟩
                          refine kw_iload (pc := 198) dL_hangs_198 rfl ?_
                          refine kw_iload (pc := 200) dL_hangs_200 rfl ?_
                          refine kw_icmp_lt (tgt := 350) (pc := 202) dL_hangs_202 (by decide) (fun h202 => ?_) (fun h202 => ?_)
                          · have h202 := (kLtI (a := a) (b := b) La Lb ha hb).mp h202
                            exfalso; omega
                          · have h202 := mt (kLtI (a := a) (b := b) La Lb ha hb).mpr h202
                            refine kw_iload (pc := 205) dL_hangs_205 rfl ?_
                            refine kw_iload (pc := 207) dL_hangs_207 rfl ?_
                            refine kw_icmp_lt (tgt := 350) (pc := 209) dL_hangs_209 (by decide) (fun h209 => ?_) (fun h209 => ?_)
                            · have h209 := (kLtI (a := b) (b := d) Lb Ld hb hd).mp h209
                              exfalso; omega
                            · have h209 := mt (kLtI (a := b) (b := d) Lb Ld hb hd).mpr h209
                              refine kw_iload (pc := 212) dL_hangs_212 rfl ?_
                              refine kw_iconst (v := 1) (pc := 214) dL_hangs_214 (by decide) ?_
                              refine kw_icmp_lt (tgt := 350) (pc := 215) dL_hangs_215 (by decide) (fun h215 => ?_) (fun h215 => ?_)
                              · have h215 := (kLtI (a := d) (b := 1) Ld (by decide) hd (rfl : (1 : Int32) = nI 1)).mp h215
                                exfalso; omega
                              · have h215 := mt (kLtI (a := d) (b := 1) Ld (by decide) hd (rfl : (1 : Int32) = nI 1)).mpr h215
                                refine kw_iload (pc := 218) dL_hangs_218 rfl ?_
                                refine kw_bipush (v := 60) (pc := 220) dL_hangs_220 (by decide) ?_
                                refine kw_icmp_gt (tgt := 350) (pc := 222) dL_hangs_222 (by decide) (fun h222 => ?_) (fun h222 => ?_)
                                · have h222 := (kLtI (a := 60) (b := a) (by decide) La (rfl : (60 : Int32) = nI 60) ha).mp h222
                                  exfalso; omega
                                · have h222 := mt (kLtI (a := 60) (b := a) (by decide) La (rfl : (60 : Int32) = nI 60) ha).mpr h222
                                  refine kw_aload_n (pc := 225) dL_hangs_225 rfl ?_
                                  refine kw_iload (pc := 226) dL_hangs_226 rfl ?_
                                  refine kw_bipush (v := 7) (pc := 228) dL_hangs_228 (by decide) ?_
                                  refine kw_callSr (pc := 230) dL_hangs_230 lL_100 (V0.parcelE (k := k) (j := 7) h.v rfl (rfl : (7 : Int32) = nI 7) hk (by decide)) rfl rfl ⟨by decide, by decide, Nat.le_of_ble_eq_true rfl⟩ ?_
                                  refine kw_iload (pc := 233) dL_hangs_233 rfl ?_
                                  refine kw_iconst (v := 2) (pc := 235) dL_hangs_235 (by decide) ?_
                                  refine kw_iload (pc := 236) dL_hangs_236 rfl ?_
                                  refine kw_iload (pc := 238) dL_hangs_238 rfl ?_
                                  refine kw_iadd (pc := 240) dL_hangs_240 ?_
                                  refine kw_imul (pc := 241) dL_hangs_241 ?_
                                  refine kw_iadd (pc := 242) dL_hangs_242 ?_
                                  refine kw_icmp_ne (tgt := 350) (pc := 243) dL_hangs_243 (by decide) (fun h243 => ?_) (fun h243 => ?_)
                                  · have h243 := mt (kEqI (a := gi) (b := (a + (2 * (b + d)))) Lgi (by omega) hG (kA (a := a) (b := (2 * (b + d))) ha (kMu (a := 2) (b := (b + d)) (rfl : (2 : Int32) = nI 2) (kA (a := b) (b := d) hb hd)))).mpr h243
                                    exfalso; omega
                                  · have h243 := (kEqI (a := gi) (b := (a + (2 * (b + d)))) Lgi (by omega) hG (kA (a := a) (b := (2 * (b + d))) ha (kMu (a := 2) (b := (b + d)) (rfl : (2 : Int32) = nI 2) (kA (a := b) (b := d) hb hd)))).mp h243
                                    refine kw_aload_n (pc := 246) dL_hangs_246 rfl ?_
                                    refine kw_iload (pc := 247) dL_hangs_247 rfl ?_
                                    refine kw_bipush (v := 8) (pc := 249) dL_hangs_249 (by decide) ?_
                                    refine kw_callSr (pc := 251) dL_hangs_251 lL_100 (V0.parcelE (k := k) (j := 8) h.v rfl (rfl : (8 : Int32) = nI 8) hk (by decide)) rfl rfl ⟨by decide, by decide, Nat.le_of_ble_eq_true rfl⟩ ?_
                                    refine kw_iconst (v := 2) (pc := 254) dL_hangs_254 (by decide) ?_
                                    refine kw_iload (pc := 255) dL_hangs_255 rfl ?_
                                    refine kw_iload (pc := 257) dL_hangs_257 rfl ?_
                                    refine kw_iadd (pc := 259) dL_hangs_259 ?_
                                    refine kw_imul (pc := 260) dL_hangs_260 ?_
                                    refine kw_icmp_gt (tgt := 272) (pc := 261) dL_hangs_261 (by decide) (fun h261 => ?_) (fun h261 => ?_)
                                    · have h261 := (kLtI (a := (2 * (b + d))) (b := Z) (by omega) LZ (kMu (a := 2) (b := (b + d)) (rfl : (2 : Int32) = nI 2) (kA (a := b) (b := d) hb hd)) hZ).mp h261
                                      refine kw_iload (pc := 272) dL_hangs_272 rfl ?_
                                      refine kw_if_ne (tgt := 294) (pc := 274) dL_hangs_274 (by decide) (fun h274 => ?_) (fun h274 => ?_)
                                      · exact absurd (by decide) h274
                                      · refine kw_iload (pc := 277) dL_hangs_277 rfl ?_
                                        refine kw_iload (pc := 279) dL_hangs_279 rfl ?_
                                        refine kw_if_ne (tgt := 288) (pc := 281) dL_hangs_281 (by decide) (fun h281 => ?_) (fun h281 => ?_)
                                        · have h281 := mt (kEqI (a := R) (b := 0) LR (by decide) hR (rfl : (0 : Int32) = nI 0)).mpr h281
                                          refine kw_iload (pc := 288) dL_hangs_288 rfl ?_
                                          refine kw_irem (pc := 290) dL_hangs_290 (fun q => absurd ((kEqI (a := R) (b := 0) (by omega) (by omega) hR (rfl : (0 : Int32) = nI 0)).mp q) (by omega)) ?_
                                          refine kw_if_ne (tgt := 350) (pc := 291) dL_hangs_291 (by decide) (fun h291 => ?_) (fun h291 => ?_)
                                          · have h291 := mt (kEqI (a := ((W - (co * x2)) % R)) (b := 0) (by omega) (by decide) (kRe (a := (W - (co * x2))) (b := R) (kS (a := W) (b := (co * x2)) hW (kMu (a := co) (b := x2) hco hx2) hW2) hR (by omega) (by omega) (by omega)) (rfl : (0 : Int32) = nI 0)).mpr h291
                                            exfalso; omega
                                          · have h291 := (kEqI (a := ((W - (co * x2)) % R)) (b := 0) (by omega) (by decide) (kRe (a := (W - (co * x2))) (b := R) (kS (a := W) (b := (co * x2)) hW (kMu (a := co) (b := x2) hco hx2) hW2) hR (by omega) (by omega) (by omega)) (rfl : (0 : Int32) = nI 0)).mp h291
                                            refine kw_iload (pc := 294) dL_hangs_294 rfl ?_
                                            refine kw_iload (pc := 296) dL_hangs_296 rfl ?_
                                            refine kw_icmp_lt (tgt := 350) (pc := 298) dL_hangs_298 (by decide) (fun h298 => ?_) (fun h298 => ?_)
                                            · have h298 := (kLtI (a := (W - (co * x2))) (b := R) (Nat.lt_of_le_of_lt (Nat.sub_le _ _) LW) LR (kS (a := W) (b := (co * x2)) hW (kMu (a := co) (b := x2) hco hx2) hW2) hR).mp h298
                                              exfalso; omega
                                            · have h298 := mt (kLtI (a := (W - (co * x2))) (b := R) (Nat.lt_of_le_of_lt (Nat.sub_le _ _) LW) LR (kS (a := W) (b := (co * x2)) hW (kMu (a := co) (b := x2) hco hx2) hW2) hR).mpr h298
                                              have e4 : moN s0 (k + 1) = moN s0 k := if_neg (fun q => absurd h171 (Int32.not_le.mpr q.2))
                                              exact kW.locs t301 ⟨rfl, kgE rfl (cnt_t hr0).symm, kgE rfl (odd_f ho).symm, kgE rfl (sum_t hr0).symm, kgE rfl e4.symm, rfl, kgE rfl hco, rfl, trivial⟩
                                        · have h281 := (kEqI (a := R) (b := 0) LR (by decide) hR (rfl : (0 : Int32) = nI 0)).mp h281
                                          refine kw_iconst (v := 1) (pc := 284) dL_hangs_284 (by decide) ?_
                                          refine kw_goto (tgt := 290) (pc := 285) dL_hangs_285 (by decide) ?_
                                          refine kw_irem (pc := 290) dL_hangs_290 (by decide) ?_
                                          refine kw_if_ne (tgt := 350) (pc := 291) dL_hangs_291 (by decide) (fun h291 => ?_) (fun h291 => ?_)
                                          · have h291 := mt (kEqI (a := ((W - (co * x2)) % 1)) (b := 0) (by omega) (by decide) (kRe (a := (W - (co * x2))) (b := 1) (kS (a := W) (b := (co * x2)) hW (kMu (a := co) (b := x2) hco hx2) hW2) (rfl : (1 : Int32) = nI 1) (by omega) (by omega) (by omega)) (rfl : (0 : Int32) = nI 0)).mpr h291
                                            exfalso; omega
                                          · have h291 := (kEqI (a := ((W - (co * x2)) % 1)) (b := 0) (by omega) (by decide) (kRe (a := (W - (co * x2))) (b := 1) (kS (a := W) (b := (co * x2)) hW (kMu (a := co) (b := x2) hco hx2) hW2) (rfl : (1 : Int32) = nI 1) (by omega) (by omega) (by omega)) (rfl : (0 : Int32) = nI 0)).mp h291
                                            refine kw_iload (pc := 294) dL_hangs_294 rfl ?_
                                            refine kw_iload (pc := 296) dL_hangs_296 rfl ?_
                                            refine kw_icmp_lt (tgt := 350) (pc := 298) dL_hangs_298 (by decide) (fun h298 => ?_) (fun h298 => ?_)
                                            · have h298 := (kLtI (a := (W - (co * x2))) (b := R) (Nat.lt_of_le_of_lt (Nat.sub_le _ _) LW) LR (kS (a := W) (b := (co * x2)) hW (kMu (a := co) (b := x2) hco hx2) hW2) hR).mp h298
                                              exfalso; omega
                                            · have h298 := mt (kLtI (a := (W - (co * x2))) (b := R) (Nat.lt_of_le_of_lt (Nat.sub_le _ _) LW) LR (kS (a := W) (b := (co * x2)) hW (kMu (a := co) (b := x2) hco hx2) hW2) hR).mpr h298
                                              have e4 : moN s0 (k + 1) = moN s0 k := if_neg (fun q => absurd h171 (Int32.not_le.mpr q.2))
                                              exact kW.locs t301 ⟨rfl, kgE rfl (cnt_t hr0).symm, kgE rfl (odd_f ho).symm, kgE rfl (sum_t hr0).symm, kgE rfl e4.symm, rfl, kgE rfl hco, rfl, trivial⟩
                                    · have h261 := mt (kLtI (a := (2 * (b + d))) (b := Z) (by omega) LZ (kMu (a := 2) (b := (b + d)) (rfl : (2 : Int32) = nI 2) (kA (a := b) (b := d) hb hd)) hZ).mpr h261
                                      refine kw_aload_n (pc := 264) dL_hangs_264 rfl ?_
                                      refine kw_iconst (v := 0) (pc := 265) dL_hangs_265 (by decide) ?_
                                      refine kw_callSr (pc := 266) dL_hangs_266 lL_102 (V0.settingE (j := 0) h.v (rfl : (0 : Int32) = nI 0) (by decide)) rfl rfl ⟨by decide, by decide, Nat.le_of_ble_eq_true rfl⟩ ?_
                                      refine kw_if_gt (tgt := 350) (pc := 269) dL_hangs_269 (by decide) (fun h269 => ?_) (fun h269 => ?_)
                                      · have h269 := (kLtI (a := 0) (b := x0) (by decide) Lx0 (rfl : (0 : Int32) = nI 0) hx0).mp h269
                                        exfalso; omega
                                      · have h269 := mt (kLtI (a := 0) (b := x0) (by decide) Lx0 (rfl : (0 : Int32) = nI 0) hx0).mpr h269
                                        refine kw_iload (pc := 272) dL_hangs_272 rfl ?_
                                        refine kw_if_ne (tgt := 294) (pc := 274) dL_hangs_274 (by decide) (fun h274 => ?_) (fun h274 => ?_)
                                        · exact absurd (by decide) h274
                                        · refine kw_iload (pc := 277) dL_hangs_277 rfl ?_
                                          refine kw_iload (pc := 279) dL_hangs_279 rfl ?_
                                          refine kw_if_ne (tgt := 288) (pc := 281) dL_hangs_281 (by decide) (fun h281 => ?_) (fun h281 => ?_)
                                          · have h281 := mt (kEqI (a := R) (b := 0) LR (by decide) hR (rfl : (0 : Int32) = nI 0)).mpr h281
                                            refine kw_iload (pc := 288) dL_hangs_288 rfl ?_
                                            refine kw_irem (pc := 290) dL_hangs_290 (fun q => absurd ((kEqI (a := R) (b := 0) (by omega) (by omega) hR (rfl : (0 : Int32) = nI 0)).mp q) (by omega)) ?_
                                            refine kw_if_ne (tgt := 350) (pc := 291) dL_hangs_291 (by decide) (fun h291 => ?_) (fun h291 => ?_)
                                            · have h291 := mt (kEqI (a := ((W - (co * x2)) % R)) (b := 0) (by omega) (by decide) (kRe (a := (W - (co * x2))) (b := R) (kS (a := W) (b := (co * x2)) hW (kMu (a := co) (b := x2) hco hx2) hW2) hR (by omega) (by omega) (by omega)) (rfl : (0 : Int32) = nI 0)).mpr h291
                                              exfalso; omega
                                            · have h291 := (kEqI (a := ((W - (co * x2)) % R)) (b := 0) (by omega) (by decide) (kRe (a := (W - (co * x2))) (b := R) (kS (a := W) (b := (co * x2)) hW (kMu (a := co) (b := x2) hco hx2) hW2) hR (by omega) (by omega) (by omega)) (rfl : (0 : Int32) = nI 0)).mp h291
                                              refine kw_iload (pc := 294) dL_hangs_294 rfl ?_
                                              refine kw_iload (pc := 296) dL_hangs_296 rfl ?_
                                              refine kw_icmp_lt (tgt := 350) (pc := 298) dL_hangs_298 (by decide) (fun h298 => ?_) (fun h298 => ?_)
                                              · have h298 := (kLtI (a := (W - (co * x2))) (b := R) (Nat.lt_of_le_of_lt (Nat.sub_le _ _) LW) LR (kS (a := W) (b := (co * x2)) hW (kMu (a := co) (b := x2) hco hx2) hW2) hR).mp h298
                                                exfalso; omega
                                              · have h298 := mt (kLtI (a := (W - (co * x2))) (b := R) (Nat.lt_of_le_of_lt (Nat.sub_le _ _) LW) LR (kS (a := W) (b := (co * x2)) hW (kMu (a := co) (b := x2) hco hx2) hW2) hR).mpr h298
                                                have e4 : moN s0 (k + 1) = moN s0 k := if_neg (fun q => absurd h171 (Int32.not_le.mpr q.2))
                                                exact kW.locs t301 ⟨rfl, kgE rfl (cnt_t hr0).symm, kgE rfl (odd_f ho).symm, kgE rfl (sum_t hr0).symm, kgE rfl e4.symm, rfl, kgE rfl hco, rfl, trivial⟩
                                          · have h281 := (kEqI (a := R) (b := 0) LR (by decide) hR (rfl : (0 : Int32) = nI 0)).mp h281
                                            refine kw_iconst (v := 1) (pc := 284) dL_hangs_284 (by decide) ?_
                                            refine kw_goto (tgt := 290) (pc := 285) dL_hangs_285 (by decide) ?_
                                            refine kw_irem (pc := 290) dL_hangs_290 (by decide) ?_
                                            refine kw_if_ne (tgt := 350) (pc := 291) dL_hangs_291 (by decide) (fun h291 => ?_) (fun h291 => ?_)
                                            · have h291 := mt (kEqI (a := ((W - (co * x2)) % 1)) (b := 0) (by omega) (by decide) (kRe (a := (W - (co * x2))) (b := 1) (kS (a := W) (b := (co * x2)) hW (kMu (a := co) (b := x2) hco hx2) hW2) (rfl : (1 : Int32) = nI 1) (by omega) (by omega) (by omega)) (rfl : (0 : Int32) = nI 0)).mpr h291
                                              exfalso; omega
                                            · have h291 := (kEqI (a := ((W - (co * x2)) % 1)) (b := 0) (by omega) (by decide) (kRe (a := (W - (co * x2))) (b := 1) (kS (a := W) (b := (co * x2)) hW (kMu (a := co) (b := x2) hco hx2) hW2) (rfl : (1 : Int32) = nI 1) (by omega) (by omega) (by omega)) (rfl : (0 : Int32) = nI 0)).mp h291
                                              refine kw_iload (pc := 294) dL_hangs_294 rfl ?_
                                              refine kw_iload (pc := 296) dL_hangs_296 rfl ?_
                                              refine kw_icmp_lt (tgt := 350) (pc := 298) dL_hangs_298 (by decide) (fun h298 => ?_) (fun h298 => ?_)
                                              · have h298 := (kLtI (a := (W - (co * x2))) (b := R) (Nat.lt_of_le_of_lt (Nat.sub_le _ _) LW) LR (kS (a := W) (b := (co * x2)) hW (kMu (a := co) (b := x2) hco hx2) hW2) hR).mp h298
                                                exfalso; omega
                                              · have h298 := mt (kLtI (a := (W - (co * x2))) (b := R) (Nat.lt_of_le_of_lt (Nat.sub_le _ _) LW) LR (kS (a := W) (b := (co * x2)) hW (kMu (a := co) (b := x2) hco hx2) hW2) hR).mpr h298
                                                have e4 : moN s0 (k + 1) = moN s0 k := if_neg (fun q => absurd h171 (Int32.not_le.mpr q.2))
                                                exact kW.locs t301 ⟨rfl, kgE rfl (cnt_t hr0).symm, kgE rfl (odd_f ho).symm, kgE rfl (sum_t hr0).symm, kgE rfl e4.symm, rfl, kgE rfl hco, rfl, trivial⟩
                        · refine kw_iload (pc := 174) dL_hangs_174 rfl ?_
                          refine kw_goto (tgt := 181) (pc := 176) dL_hangs_176 (by decide) ?_
                          refine kw_istore (pc := 181) dL_hangs_181 (by decide) rfl ?_
                          refine kW.locs (L' := [(0, _), (1, _), (2, _), (3, _), (4, _), (5, _), (6, _), (7, _), (8, _), (9, _), (11, _), (12, _), (13, _)]) ?_ ⟨rfl, rfl, rfl, rfl, rfl, rfl, rfl, rfl, rfl, rfl, rfl, rfl, rfl, trivial⟩
                          refine kw_aload_n (pc := 183) dL_hangs_183 rfl ?_
                          refine kw_aload_n (pc := 184) dL_hangs_184 rfl ?_
                          refine kw_iload (pc := 185) dL_hangs_185 rfl ?_
                          refine kw_bipush (v := 8) (pc := 187) dL_hangs_187 (by decide) ?_
                          refine kw_callSr (pc := 189) dL_hangs_189 lL_100 (V0.parcelE (k := k) (j := 8) h.v rfl (rfl : (8 : Int32) = nI 8) hk (by decide)) rfl rfl ⟨by decide, by decide, Nat.le_of_ble_eq_true rfl⟩ ?_
                          refine kw_iconst (v := 0) (pc := 192) dL_hangs_192 (by decide) ?_
                          refine kw_callSr (pc := 193) dL_hangs_193 lL_104 (h.v.rate0 hz9 hB hB2) rfl rfl ⟨by decide, by decide, Nat.le_of_ble_eq_true rfl⟩ ?_
                          refine kw_istore (pc := 196) dL_hangs_196 (by decide) rfl ?_
                          refine kW.locs (L' := [(0, _), (1, _), (2, _), (3, _), (4, _), (5, _), (6, _), (7, _), (8, _), (9, _), (11, _), (12, _), (13, _), (14, _)]) ?_ ⟨rfl, rfl, rfl, rfl, rfl, rfl, rfl, rfl, rfl, rfl, rfl, rfl, rfl, rfl, trivial⟩
                          refine kw_iload (pc := 198) dL_hangs_198 rfl ?_
                          refine kw_iload (pc := 200) dL_hangs_200 rfl ?_
                          refine kw_icmp_lt (tgt := 350) (pc := 202) dL_hangs_202 (by decide) (fun h202 => ?_) (fun h202 => ?_)
                          · have h202 := (kLtI (a := a) (b := b) La Lb ha hb).mp h202
                            exfalso; omega
                          · have h202 := mt (kLtI (a := a) (b := b) La Lb ha hb).mpr h202
                            refine kw_iload (pc := 205) dL_hangs_205 rfl ?_
                            refine kw_iload (pc := 207) dL_hangs_207 rfl ?_
                            refine kw_icmp_lt (tgt := 350) (pc := 209) dL_hangs_209 (by decide) (fun h209 => ?_) (fun h209 => ?_)
                            · have h209 := (kLtI (a := b) (b := d) Lb Ld hb hd).mp h209
                              exfalso; omega
                            · have h209 := mt (kLtI (a := b) (b := d) Lb Ld hb hd).mpr h209
                              refine kw_iload (pc := 212) dL_hangs_212 rfl ?_
                              refine kw_iconst (v := 1) (pc := 214) dL_hangs_214 (by decide) ?_
                              refine kw_icmp_lt (tgt := 350) (pc := 215) dL_hangs_215 (by decide) (fun h215 => ?_) (fun h215 => ?_)
                              · have h215 := (kLtI (a := d) (b := 1) Ld (by decide) hd (rfl : (1 : Int32) = nI 1)).mp h215
                                exfalso; omega
                              · have h215 := mt (kLtI (a := d) (b := 1) Ld (by decide) hd (rfl : (1 : Int32) = nI 1)).mpr h215
                                refine kw_iload (pc := 218) dL_hangs_218 rfl ?_
                                refine kw_bipush (v := 60) (pc := 220) dL_hangs_220 (by decide) ?_
                                refine kw_icmp_gt (tgt := 350) (pc := 222) dL_hangs_222 (by decide) (fun h222 => ?_) (fun h222 => ?_)
                                · have h222 := (kLtI (a := 60) (b := a) (by decide) La (rfl : (60 : Int32) = nI 60) ha).mp h222
                                  exfalso; omega
                                · have h222 := mt (kLtI (a := 60) (b := a) (by decide) La (rfl : (60 : Int32) = nI 60) ha).mpr h222
                                  refine kw_aload_n (pc := 225) dL_hangs_225 rfl ?_
                                  refine kw_iload (pc := 226) dL_hangs_226 rfl ?_
                                  refine kw_bipush (v := 7) (pc := 228) dL_hangs_228 (by decide) ?_
                                  refine kw_callSr (pc := 230) dL_hangs_230 lL_100 (V0.parcelE (k := k) (j := 7) h.v rfl (rfl : (7 : Int32) = nI 7) hk (by decide)) rfl rfl ⟨by decide, by decide, Nat.le_of_ble_eq_true rfl⟩ ?_
                                  refine kw_iload (pc := 233) dL_hangs_233 rfl ?_
                                  refine kw_iconst (v := 2) (pc := 235) dL_hangs_235 (by decide) ?_
                                  refine kw_iload (pc := 236) dL_hangs_236 rfl ?_
                                  refine kw_iload (pc := 238) dL_hangs_238 rfl ?_
                                  refine kw_iadd (pc := 240) dL_hangs_240 ?_
                                  refine kw_imul (pc := 241) dL_hangs_241 ?_
                                  refine kw_iadd (pc := 242) dL_hangs_242 ?_
                                  refine kw_icmp_ne (tgt := 350) (pc := 243) dL_hangs_243 (by decide) (fun h243 => ?_) (fun h243 => ?_)
                                  · have h243 := mt (kEqI (a := gi) (b := (a + (2 * (b + d)))) Lgi (by omega) hG (kA (a := a) (b := (2 * (b + d))) ha (kMu (a := 2) (b := (b + d)) (rfl : (2 : Int32) = nI 2) (kA (a := b) (b := d) hb hd)))).mpr h243
                                    exfalso; omega
                                  · have h243 := (kEqI (a := gi) (b := (a + (2 * (b + d)))) Lgi (by omega) hG (kA (a := a) (b := (2 * (b + d))) ha (kMu (a := 2) (b := (b + d)) (rfl : (2 : Int32) = nI 2) (kA (a := b) (b := d) hb hd)))).mp h243
                                    refine kw_aload_n (pc := 246) dL_hangs_246 rfl ?_
                                    refine kw_iload (pc := 247) dL_hangs_247 rfl ?_
                                    refine kw_bipush (v := 8) (pc := 249) dL_hangs_249 (by decide) ?_
                                    refine kw_callSr (pc := 251) dL_hangs_251 lL_100 (V0.parcelE (k := k) (j := 8) h.v rfl (rfl : (8 : Int32) = nI 8) hk (by decide)) rfl rfl ⟨by decide, by decide, Nat.le_of_ble_eq_true rfl⟩ ?_
                                    refine kw_iconst (v := 2) (pc := 254) dL_hangs_254 (by decide) ?_
                                    refine kw_iload (pc := 255) dL_hangs_255 rfl ?_
                                    refine kw_iload (pc := 257) dL_hangs_257 rfl ?_
                                    refine kw_iadd (pc := 259) dL_hangs_259 ?_
                                    refine kw_imul (pc := 260) dL_hangs_260 ?_
                                    refine kw_icmp_gt (tgt := 272) (pc := 261) dL_hangs_261 (by decide) (fun h261 => ?_) (fun h261 => ?_)
                                    · have h261 := (kLtI (a := (2 * (b + d))) (b := Z) (by omega) LZ (kMu (a := 2) (b := (b + d)) (rfl : (2 : Int32) = nI 2) (kA (a := b) (b := d) hb hd)) hZ).mp h261
                                      refine kw_iload (pc := 272) dL_hangs_272 rfl ?_
                                      refine kw_if_ne (tgt := 294) (pc := 274) dL_hangs_274 (by decide) (fun h274 => ?_) (fun h274 => ?_)
                                      · exact absurd (by decide) h274
                                      · refine kw_iload (pc := 277) dL_hangs_277 rfl ?_
                                        refine kw_iload (pc := 279) dL_hangs_279 rfl ?_
                                        refine kw_if_ne (tgt := 288) (pc := 281) dL_hangs_281 (by decide) (fun h281 => ?_) (fun h281 => ?_)
                                        · have h281 := mt (kEqI (a := R) (b := 0) LR (by decide) hR (rfl : (0 : Int32) = nI 0)).mpr h281
                                          refine kw_iload (pc := 288) dL_hangs_288 rfl ?_
                                          refine kw_irem (pc := 290) dL_hangs_290 (fun q => absurd ((kEqI (a := R) (b := 0) (by omega) (by omega) hR (rfl : (0 : Int32) = nI 0)).mp q) (by omega)) ?_
                                          refine kw_if_ne (tgt := 350) (pc := 291) dL_hangs_291 (by decide) (fun h291 => ?_) (fun h291 => ?_)
                                          · have h291 := mt (kEqI (a := ((W - (co * x2)) % R)) (b := 0) (by omega) (by decide) (kRe (a := (W - (co * x2))) (b := R) (kS (a := W) (b := (co * x2)) hW (kMu (a := co) (b := x2) hco hx2) hW2) hR (by omega) (by omega) (by omega)) (rfl : (0 : Int32) = nI 0)).mpr h291
                                            exfalso; omega
                                          · have h291 := (kEqI (a := ((W - (co * x2)) % R)) (b := 0) (by omega) (by decide) (kRe (a := (W - (co * x2))) (b := R) (kS (a := W) (b := (co * x2)) hW (kMu (a := co) (b := x2) hco hx2) hW2) hR (by omega) (by omega) (by omega)) (rfl : (0 : Int32) = nI 0)).mp h291
                                            refine kw_iload (pc := 294) dL_hangs_294 rfl ?_
                                            refine kw_iload (pc := 296) dL_hangs_296 rfl ?_
                                            refine kw_icmp_lt (tgt := 350) (pc := 298) dL_hangs_298 (by decide) (fun h298 => ?_) (fun h298 => ?_)
                                            · have h298 := (kLtI (a := (W - (co * x2))) (b := R) (Nat.lt_of_le_of_lt (Nat.sub_le _ _) LW) LR (kS (a := W) (b := (co * x2)) hW (kMu (a := co) (b := x2) hco hx2) hW2) hR).mp h298
                                              exfalso; omega
                                            · have h298 := mt (kLtI (a := (W - (co * x2))) (b := R) (Nat.lt_of_le_of_lt (Nat.sub_le _ _) LW) LR (kS (a := W) (b := (co * x2)) hW (kMu (a := co) (b := x2) hco hx2) hW2) hR).mpr h298
                                              have e4 : moN s0 (k + 1) = pP s0 (pa s0 (21 + 7 * k)) := if_pos ⟨hr0, Int32.not_le.mp h171⟩
                                              exact kW.locs t301 ⟨rfl, kgE rfl (cnt_t hr0).symm, kgE rfl (odd_f ho).symm, kgE rfl (sum_t hr0).symm, kgE rfl e4.symm, rfl, kgE rfl hco, rfl, trivial⟩
                                        · have h281 := (kEqI (a := R) (b := 0) LR (by decide) hR (rfl : (0 : Int32) = nI 0)).mp h281
                                          refine kw_iconst (v := 1) (pc := 284) dL_hangs_284 (by decide) ?_
                                          refine kw_goto (tgt := 290) (pc := 285) dL_hangs_285 (by decide) ?_
                                          refine kw_irem (pc := 290) dL_hangs_290 (by decide) ?_
                                          refine kw_if_ne (tgt := 350) (pc := 291) dL_hangs_291 (by decide) (fun h291 => ?_) (fun h291 => ?_)
                                          · have h291 := mt (kEqI (a := ((W - (co * x2)) % 1)) (b := 0) (by omega) (by decide) (kRe (a := (W - (co * x2))) (b := 1) (kS (a := W) (b := (co * x2)) hW (kMu (a := co) (b := x2) hco hx2) hW2) (rfl : (1 : Int32) = nI 1) (by omega) (by omega) (by omega)) (rfl : (0 : Int32) = nI 0)).mpr h291
                                            exfalso; omega
                                          · have h291 := (kEqI (a := ((W - (co * x2)) % 1)) (b := 0) (by omega) (by decide) (kRe (a := (W - (co * x2))) (b := 1) (kS (a := W) (b := (co * x2)) hW (kMu (a := co) (b := x2) hco hx2) hW2) (rfl : (1 : Int32) = nI 1) (by omega) (by omega) (by omega)) (rfl : (0 : Int32) = nI 0)).mp h291
                                            refine kw_iload (pc := 294) dL_hangs_294 rfl ?_
                                            refine kw_iload (pc := 296) dL_hangs_296 rfl ?_
                                            refine kw_icmp_lt (tgt := 350) (pc := 298) dL_hangs_298 (by decide) (fun h298 => ?_) (fun h298 => ?_)
                                            · have h298 := (kLtI (a := (W - (co * x2))) (b := R) (Nat.lt_of_le_of_lt (Nat.sub_le _ _) LW) LR (kS (a := W) (b := (co * x2)) hW (kMu (a := co) (b := x2) hco hx2) hW2) hR).mp h298
                                              exfalso; omega
                                            · have h298 := mt (kLtI (a := (W - (co * x2))) (b := R) (Nat.lt_of_le_of_lt (Nat.sub_le _ _) LW) LR (kS (a := W) (b := (co * x2)) hW (kMu (a := co) (b := x2) hco hx2) hW2) hR).mpr h298
                                              have e4 : moN s0 (k + 1) = pP s0 (pa s0 (21 + 7 * k)) := if_pos ⟨hr0, Int32.not_le.mp h171⟩
                                              exact kW.locs t301 ⟨rfl, kgE rfl (cnt_t hr0).symm, kgE rfl (odd_f ho).symm, kgE rfl (sum_t hr0).symm, kgE rfl e4.symm, rfl, kgE rfl hco, rfl, trivial⟩
                                    · have h261 := mt (kLtI (a := (2 * (b + d))) (b := Z) (by omega) LZ (kMu (a := 2) (b := (b + d)) (rfl : (2 : Int32) = nI 2) (kA (a := b) (b := d) hb hd)) hZ).mpr h261
                                      refine kw_aload_n (pc := 264) dL_hangs_264 rfl ?_
                                      refine kw_iconst (v := 0) (pc := 265) dL_hangs_265 (by decide) ?_
                                      refine kw_callSr (pc := 266) dL_hangs_266 lL_102 (V0.settingE (j := 0) h.v (rfl : (0 : Int32) = nI 0) (by decide)) rfl rfl ⟨by decide, by decide, Nat.le_of_ble_eq_true rfl⟩ ?_
                                      refine kw_if_gt (tgt := 350) (pc := 269) dL_hangs_269 (by decide) (fun h269 => ?_) (fun h269 => ?_)
                                      · have h269 := (kLtI (a := 0) (b := x0) (by decide) Lx0 (rfl : (0 : Int32) = nI 0) hx0).mp h269
                                        exfalso; omega
                                      · have h269 := mt (kLtI (a := 0) (b := x0) (by decide) Lx0 (rfl : (0 : Int32) = nI 0) hx0).mpr h269
                                        refine kw_iload (pc := 272) dL_hangs_272 rfl ?_
                                        refine kw_if_ne (tgt := 294) (pc := 274) dL_hangs_274 (by decide) (fun h274 => ?_) (fun h274 => ?_)
                                        · exact absurd (by decide) h274
                                        · refine kw_iload (pc := 277) dL_hangs_277 rfl ?_
                                          refine kw_iload (pc := 279) dL_hangs_279 rfl ?_
                                          refine kw_if_ne (tgt := 288) (pc := 281) dL_hangs_281 (by decide) (fun h281 => ?_) (fun h281 => ?_)
                                          · have h281 := mt (kEqI (a := R) (b := 0) LR (by decide) hR (rfl : (0 : Int32) = nI 0)).mpr h281
                                            refine kw_iload (pc := 288) dL_hangs_288 rfl ?_
                                            refine kw_irem (pc := 290) dL_hangs_290 (fun q => absurd ((kEqI (a := R) (b := 0) (by omega) (by omega) hR (rfl : (0 : Int32) = nI 0)).mp q) (by omega)) ?_
                                            refine kw_if_ne (tgt := 350) (pc := 291) dL_hangs_291 (by decide) (fun h291 => ?_) (fun h291 => ?_)
                                            · have h291 := mt (kEqI (a := ((W - (co * x2)) % R)) (b := 0) (by omega) (by decide) (kRe (a := (W - (co * x2))) (b := R) (kS (a := W) (b := (co * x2)) hW (kMu (a := co) (b := x2) hco hx2) hW2) hR (by omega) (by omega) (by omega)) (rfl : (0 : Int32) = nI 0)).mpr h291
                                              exfalso; omega
                                            · have h291 := (kEqI (a := ((W - (co * x2)) % R)) (b := 0) (by omega) (by decide) (kRe (a := (W - (co * x2))) (b := R) (kS (a := W) (b := (co * x2)) hW (kMu (a := co) (b := x2) hco hx2) hW2) hR (by omega) (by omega) (by omega)) (rfl : (0 : Int32) = nI 0)).mp h291
                                              refine kw_iload (pc := 294) dL_hangs_294 rfl ?_
                                              refine kw_iload (pc := 296) dL_hangs_296 rfl ?_
                                              refine kw_icmp_lt (tgt := 350) (pc := 298) dL_hangs_298 (by decide) (fun h298 => ?_) (fun h298 => ?_)
                                              · have h298 := (kLtI (a := (W - (co * x2))) (b := R) (Nat.lt_of_le_of_lt (Nat.sub_le _ _) LW) LR (kS (a := W) (b := (co * x2)) hW (kMu (a := co) (b := x2) hco hx2) hW2) hR).mp h298
                                                exfalso; omega
                                              · have h298 := mt (kLtI (a := (W - (co * x2))) (b := R) (Nat.lt_of_le_of_lt (Nat.sub_le _ _) LW) LR (kS (a := W) (b := (co * x2)) hW (kMu (a := co) (b := x2) hco hx2) hW2) hR).mpr h298
                                                have e4 : moN s0 (k + 1) = pP s0 (pa s0 (21 + 7 * k)) := if_pos ⟨hr0, Int32.not_le.mp h171⟩
                                                exact kW.locs t301 ⟨rfl, kgE rfl (cnt_t hr0).symm, kgE rfl (odd_f ho).symm, kgE rfl (sum_t hr0).symm, kgE rfl e4.symm, rfl, kgE rfl hco, rfl, trivial⟩
                                          · have h281 := (kEqI (a := R) (b := 0) LR (by decide) hR (rfl : (0 : Int32) = nI 0)).mp h281
                                            refine kw_iconst (v := 1) (pc := 284) dL_hangs_284 (by decide) ?_
                                            refine kw_goto (tgt := 290) (pc := 285) dL_hangs_285 (by decide) ?_
                                            refine kw_irem (pc := 290) dL_hangs_290 (by decide) ?_
                                            refine kw_if_ne (tgt := 350) (pc := 291) dL_hangs_291 (by decide) (fun h291 => ?_) (fun h291 => ?_)
                                            · have h291 := mt (kEqI (a := ((W - (co * x2)) % 1)) (b := 0) (by omega) (by decide) (kRe (a := (W - (co * x2))) (b := 1) (kS (a := W) (b := (co * x2)) hW (kMu (a := co) (b := x2) hco hx2) hW2) (rfl : (1 : Int32) = nI 1) (by omega) (by omega) (by omega)) (rfl : (0 : Int32) = nI 0)).mpr h291
                                              exfalso; omega
                                            · have h291 := (kEqI (a := ((W - (co * x2)) % 1)) (b := 0) (by omega) (by decide) (kRe (a := (W - (co * x2))) (b := 1) (kS (a := W) (b := (co * x2)) hW (kMu (a := co) (b := x2) hco hx2) hW2) (rfl : (1 : Int32) = nI 1) (by omega) (by omega) (by omega)) (rfl : (0 : Int32) = nI 0)).mp h291
                                              refine kw_iload (pc := 294) dL_hangs_294 rfl ?_
                                              refine kw_iload (pc := 296) dL_hangs_296 rfl ?_
                                              refine kw_icmp_lt (tgt := 350) (pc := 298) dL_hangs_298 (by decide) (fun h298 => ?_) (fun h298 => ?_)
                                              · have h298 := (kLtI (a := (W - (co * x2))) (b := R) (Nat.lt_of_le_of_lt (Nat.sub_le _ _) LW) LR (kS (a := W) (b := (co * x2)) hW (kMu (a := co) (b := x2) hco hx2) hW2) hR).mp h298
                                                exfalso; omega
                                              · have h298 := mt (kLtI (a := (W - (co * x2))) (b := R) (Nat.lt_of_le_of_lt (Nat.sub_le _ _) LW) LR (kS (a := W) (b := (co * x2)) hW (kMu (a := co) (b := x2) hco hx2) hW2) hR).mpr h298
                                                have e4 : moN s0 (k + 1) = pP s0 (pa s0 (21 + 7 * k)) := if_pos ⟨hr0, Int32.not_le.mp h171⟩
                                                exact kW.locs t301 ⟨rfl, kgE rfl (cnt_t hr0).symm, kgE rfl (odd_f ho).symm, kgE rfl (sum_t hr0).symm, kgE rfl e4.symm, rfl, kgE rfl hco, rfl, trivial⟩
                  · exact absurd (by decide) h138
              · have h112 := mt (kLeI (a := gi) (b := x1) Lgi Lx1 hG hx1).mpr h112
                exfalso; omega
        · have hq := mt hri.mpr hr0
          have t352 : kW (0, fun _ => 0) mL_hangs 13 (fun o' w' n' => o' = .inl (some (.int 1)) ∧ (K m s0 c) w' ∧ n' = n) 0 0 n w 352 [(0, .ref 0), (1, .int (cntN 0 s0 (k + 1))), (2, .int (cntN 1 s0 (k + 1))), (3, .int (sumF (alS s0) (k + 1))), (4, .int (moN s0 (k + 1))), (5, .int (nI k)), (9, .int (nI co)), (11, .int 0)] [] := by
            refine kw_aload_n (pc := 352) dL_hangs_352 rfl ?_
            refine kw_iload (pc := 353) dL_hangs_353 rfl ?_
            refine kw_callSr (pc := 355) dL_hangs_355 lL_106 (V0.wayE (k := k) h.v rfl hk) rfl rfl ⟨by decide, by decide, Nat.le_of_ble_eq_true rfl⟩ ?_
            refine kw_istore (pc := 358) dL_hangs_358 (by decide) rfl ?_
            refine kW.locs (L' := [(0, _), (1, _), (2, _), (3, _), (4, _), (5, _), (9, _), (11, _), (15, _)]) ?_ ⟨rfl, rfl, rfl, rfl, rfl, rfl, rfl, rfl, rfl, trivial⟩
            refine kw_iload (pc := 360) dL_hangs_360 rfl ?_
            refine kw_if_eq (tgt := 370) (pc := 362) dL_hangs_362 (by decide) (fun h362 => ?_) (fun h362 => ?_)
            · refine kw_iload (pc := 370) dL_hangs_370 rfl ?_
              refine kw_if_ne (tgt := 382) (pc := 372) dL_hangs_372 (by decide) (fun h372 => ?_) (fun h372 => ?_)
              · refine kw_iinc (pc := 382) dL_hangs_382 (by decide) rfl rfl rfl ?_
                refine kw_goto (tgt := 12) (pc := 385) dL_hangs_385 (by decide) ?_
                exact kW.locs (ih (c - (k + 1)) (by omega) (k + 1) rfl (by omega)) ⟨rfl, rfl, rfl, rfl, rfl, kgE rfl (kA (a := k) (b := 1) rfl (rfl : (Int32.ofInt 1) = nI 1)), trivial⟩
              · refine kw_iload (pc := 375) dL_hangs_375 rfl ?_
                refine kw_if_le (tgt := 382) (pc := 377) dL_hangs_377 (by decide) (fun h377 => ?_) (fun h377 => ?_)
                · have h377 := (kLeI (a := co) (b := 0) Lco (by decide) rfl (rfl : (0 : Int32) = nI 0)).mp h377
                  refine kw_iinc (pc := 382) dL_hangs_382 (by decide) rfl rfl rfl ?_
                  refine kw_goto (tgt := 12) (pc := 385) dL_hangs_385 (by decide) ?_
                  exact kW.locs (ih (c - (k + 1)) (by omega) (k + 1) rfl (by omega)) ⟨rfl, rfl, rfl, rfl, rfl, kgE rfl (kA (a := k) (b := 1) rfl (rfl : (Int32.ofInt 1) = nI 1)), trivial⟩
                · have h377 := mt (kLeI (a := co) (b := 0) Lco (by decide) rfl (rfl : (0 : Int32) = nI 0)).mpr h377
                  exfalso; have := wy_zero hco (by omega) h372; omega
            · exact absurd (by decide) h362
          have t301 : kW (0, fun _ => 0) mL_hangs 13 (fun o' w' n' => o' = .inl (some (.int 1)) ∧ (K m s0 c) w' ∧ n' = n) 0 0 n w 301 [(0, .ref 0), (1, .int (cntN 0 s0 (k + 1))), (2, .int (cntN 1 s0 (k + 1))), (3, .int (sumF (alS s0) (k + 1))), (4, .int (moN s0 (k + 1))), (5, .int (nI k)), (9, .int (nI co)), (11, .int 0)] [] := by
            refine kw_iload (pc := 301) dL_hangs_301 rfl ?_
            refine kw_if_le (tgt := 322) (pc := 303) dL_hangs_303 (by decide) (fun h303 => ?_) (fun h303 => ?_)
            · have h303 := (kLeI (a := co) (b := 0) Lco (by decide) rfl (rfl : (0 : Int32) = nI 0)).mp h303
              refine kw_aload_n (pc := 322) dL_hangs_322 rfl ?_
              refine kw_iload (pc := 323) dL_hangs_323 rfl ?_
              refine kw_bipush (v := 6) (pc := 325) dL_hangs_325 (by decide) ?_
              refine kw_callSr (pc := 327) dL_hangs_327 lL_100 (V0.parcelE (k := k) (j := 6) h.v rfl (rfl : (6 : Int32) = nI 6) hk (by decide)) rfl rfl ⟨by decide, by decide, Nat.le_of_ble_eq_true rfl⟩ ?_
              refine kw_if_ne (tgt := 352) (pc := 330) dL_hangs_330 (by decide) (fun h330 => ?_) (fun h330 => ?_)
              · have h330 := mt (kEqI (a := v) (b := 0) Lv (by decide) hv (rfl : (0 : Int32) = nI 0)).mpr h330
                exact kW.locs t352 ⟨rfl, rfl, rfl, rfl, rfl, rfl, rfl, rfl, trivial⟩
              · have h330 := (kEqI (a := v) (b := 0) Lv (by decide) hv (rfl : (0 : Int32) = nI 0)).mp h330
                refine kw_aload_n (pc := 333) dL_hangs_333 rfl ?_
                refine kw_iload (pc := 334) dL_hangs_334 rfl ?_
                refine kw_iconst (v := 3) (pc := 336) dL_hangs_336 (by decide) ?_
                refine kw_callSr (pc := 337) dL_hangs_337 lL_100 (V0.parcelE (k := k) (j := 3) h.v rfl (rfl : (3 : Int32) = nI 3) hk (by decide)) rfl rfl ⟨by decide, by decide, Nat.le_of_ble_eq_true rfl⟩ ?_
                refine kw_bipush (v := 30) (pc := 340) dL_hangs_340 (by decide) ?_
                refine kw_icmp_le (tgt := 352) (pc := 342) dL_hangs_342 (by decide) (fun h342 => ?_) (fun h342 => ?_)
                · have h342 := (kLeI (a := wt) (b := 30) Lwt (by decide) hwt (rfl : (30 : Int32) = nI 30)).mp h342
                  exact kW.locs t352 ⟨rfl, rfl, rfl, rfl, rfl, rfl, rfl, rfl, trivial⟩
                · have h342 := mt (kLeI (a := wt) (b := 30) Lwt (by decide) hwt (rfl : (30 : Int32) = nI 30)).mpr h342
                  refine kw_iload (pc := 345) dL_hangs_345 rfl ?_
                  refine kw_if_eq (tgt := 352) (pc := 347) dL_hangs_347 (by decide) (fun h347 => ?_) (fun h347 => ?_)
                  · exact kW.locs t352 ⟨rfl, rfl, rfl, rfl, rfl, rfl, rfl, rfl, trivial⟩
                  · exact absurd (by decide) h347
            · have h303 := mt (kLeI (a := co) (b := 0) Lco (by decide) rfl (rfl : (0 : Int32) = nI 0)).mpr h303
              refine kw_aload_n (pc := 306) dL_hangs_306 rfl ?_
              refine kw_iload (pc := 307) dL_hangs_307 rfl ?_
              refine kw_bipush (v := 6) (pc := 309) dL_hangs_309 (by decide) ?_
              refine kw_callSr (pc := 311) dL_hangs_311 lL_100 (V0.parcelE (k := k) (j := 6) h.v rfl (rfl : (6 : Int32) = nI 6) hk (by decide)) rfl rfl ⟨by decide, by decide, Nat.le_of_ble_eq_true rfl⟩ ?_
              refine kw_if_ne (tgt := 322) (pc := 314) dL_hangs_314 (by decide) (fun h314 => ?_) (fun h314 => ?_)
              · have h314 := mt (kEqI (a := v) (b := 0) Lv (by decide) hv (rfl : (0 : Int32) = nI 0)).mpr h314
                refine kw_aload_n (pc := 322) dL_hangs_322 rfl ?_
                refine kw_iload (pc := 323) dL_hangs_323 rfl ?_
                refine kw_bipush (v := 6) (pc := 325) dL_hangs_325 (by decide) ?_
                refine kw_callSr (pc := 327) dL_hangs_327 lL_100 (V0.parcelE (k := k) (j := 6) h.v rfl (rfl : (6 : Int32) = nI 6) hk (by decide)) rfl rfl ⟨by decide, by decide, Nat.le_of_ble_eq_true rfl⟩ ?_
                refine kw_if_ne (tgt := 352) (pc := 330) dL_hangs_330 (by decide) (fun h330 => ?_) (fun h330 => ?_)
                · have h330 := mt (kEqI (a := v) (b := 0) Lv (by decide) hv (rfl : (0 : Int32) = nI 0)).mpr h330
                  exact kW.locs t352 ⟨rfl, rfl, rfl, rfl, rfl, rfl, rfl, rfl, trivial⟩
                · have h330 := (kEqI (a := v) (b := 0) Lv (by decide) hv (rfl : (0 : Int32) = nI 0)).mp h330
                  refine kw_aload_n (pc := 333) dL_hangs_333 rfl ?_
                  refine kw_iload (pc := 334) dL_hangs_334 rfl ?_
                  refine kw_iconst (v := 3) (pc := 336) dL_hangs_336 (by decide) ?_
                  refine kw_callSr (pc := 337) dL_hangs_337 lL_100 (V0.parcelE (k := k) (j := 3) h.v rfl (rfl : (3 : Int32) = nI 3) hk (by decide)) rfl rfl ⟨by decide, by decide, Nat.le_of_ble_eq_true rfl⟩ ?_
                  refine kw_bipush (v := 30) (pc := 340) dL_hangs_340 (by decide) ?_
                  refine kw_icmp_le (tgt := 352) (pc := 342) dL_hangs_342 (by decide) (fun h342 => ?_) (fun h342 => ?_)
                  · have h342 := (kLeI (a := wt) (b := 30) Lwt (by decide) hwt (rfl : (30 : Int32) = nI 30)).mp h342
                    exact kW.locs t352 ⟨rfl, rfl, rfl, rfl, rfl, rfl, rfl, rfl, trivial⟩
                  · have h342 := mt (kLeI (a := wt) (b := 30) Lwt (by decide) hwt (rfl : (30 : Int32) = nI 30)).mpr h342
                    refine kw_iload (pc := 345) dL_hangs_345 rfl ?_
                    refine kw_if_eq (tgt := 352) (pc := 347) dL_hangs_347 (by decide) (fun h347 => ?_) (fun h347 => ?_)
                    · exact kW.locs t352 ⟨rfl, rfl, rfl, rfl, rfl, rfl, rfl, rfl, trivial⟩
                    · exact absurd (by decide) h347
              · have h314 := (kEqI (a := v) (b := 0) Lv (by decide) hv (rfl : (0 : Int32) = nI 0)).mp h314
                refine kw_iload (pc := 317) dL_hangs_317 rfl ?_
                refine kw_if_ne (tgt := 350) (pc := 319) dL_hangs_319 (by decide) (fun h319 => ?_) (fun h319 => ?_)
                · exact absurd (by decide) h319
                · refine kw_aload_n (pc := 322) dL_hangs_322 rfl ?_
                  refine kw_iload (pc := 323) dL_hangs_323 rfl ?_
                  refine kw_bipush (v := 6) (pc := 325) dL_hangs_325 (by decide) ?_
                  refine kw_callSr (pc := 327) dL_hangs_327 lL_100 (V0.parcelE (k := k) (j := 6) h.v rfl (rfl : (6 : Int32) = nI 6) hk (by decide)) rfl rfl ⟨by decide, by decide, Nat.le_of_ble_eq_true rfl⟩ ?_
                  refine kw_if_ne (tgt := 352) (pc := 330) dL_hangs_330 (by decide) (fun h330 => ?_) (fun h330 => ?_)
                  · have h330 := mt (kEqI (a := v) (b := 0) Lv (by decide) hv (rfl : (0 : Int32) = nI 0)).mpr h330
                    exact kW.locs t352 ⟨rfl, rfl, rfl, rfl, rfl, rfl, rfl, rfl, trivial⟩
                  · have h330 := (kEqI (a := v) (b := 0) Lv (by decide) hv (rfl : (0 : Int32) = nI 0)).mp h330
                    refine kw_aload_n (pc := 333) dL_hangs_333 rfl ?_
                    refine kw_iload (pc := 334) dL_hangs_334 rfl ?_
                    refine kw_iconst (v := 3) (pc := 336) dL_hangs_336 (by decide) ?_
                    refine kw_callSr (pc := 337) dL_hangs_337 lL_100 (V0.parcelE (k := k) (j := 3) h.v rfl (rfl : (3 : Int32) = nI 3) hk (by decide)) rfl rfl ⟨by decide, by decide, Nat.le_of_ble_eq_true rfl⟩ ?_
                    refine kw_bipush (v := 30) (pc := 340) dL_hangs_340 (by decide) ?_
                    refine kw_icmp_le (tgt := 352) (pc := 342) dL_hangs_342 (by decide) (fun h342 => ?_) (fun h342 => ?_)
                    · have h342 := (kLeI (a := wt) (b := 30) Lwt (by decide) hwt (rfl : (30 : Int32) = nI 30)).mp h342
                      exact kW.locs t352 ⟨rfl, rfl, rfl, rfl, rfl, rfl, rfl, rfl, trivial⟩
                    · have h342 := mt (kLeI (a := wt) (b := 30) Lwt (by decide) hwt (rfl : (30 : Int32) = nI 30)).mpr h342
                      refine kw_iload (pc := 345) dL_hangs_345 rfl ?_
                      refine kw_if_eq (tgt := 352) (pc := 347) dL_hangs_347 (by decide) (fun h347 => ?_) (fun h347 => ?_)
                      · exact kW.locs t352 ⟨rfl, rfl, rfl, rfl, rfl, rfl, rfl, rfl, trivial⟩
                      · exact absurd (by decide) h347
          by_cases ho : s0 1 < pG (pa s0 (21 + 7 * k))
          · have hq2 := hoi.mp ho
            refine kw_aload_n (pc := 22) dL_hangs_22 rfl ?_
            refine kw_iload (pc := 23) dL_hangs_23 rfl ?_
            refine kw_iconst (v := 0) (pc := 25) dL_hangs_25 (by decide) ?_
            refine kw_callSr (pc := 26) dL_hangs_26 lL_100 (V0.parcelE (k := k) (j := 0) h.v rfl (rfl : (0 : Int32) = nI 0) hk (by decide)) rfl rfl ⟨by decide, by decide, Nat.le_of_ble_eq_true rfl⟩ ?_
            refine kw_istore (pc := 29) dL_hangs_29 (by decide) rfl ?_
            refine kW.locs (L' := [(0, _), (1, _), (2, _), (3, _), (4, _), (5, _), (6, _)]) ?_ ⟨rfl, rfl, rfl, rfl, rfl, rfl, rfl, trivial⟩
            refine kw_aload_n (pc := 31) dL_hangs_31 rfl ?_
            refine kw_iload (pc := 32) dL_hangs_32 rfl ?_
            refine kw_iconst (v := 1) (pc := 34) dL_hangs_34 (by decide) ?_
            refine kw_callSr (pc := 35) dL_hangs_35 lL_100 (V0.parcelE (k := k) (j := 1) h.v rfl (rfl : (1 : Int32) = nI 1) hk (by decide)) rfl rfl ⟨by decide, by decide, Nat.le_of_ble_eq_true rfl⟩ ?_
            refine kw_istore (pc := 38) dL_hangs_38 (by decide) rfl ?_
            refine kW.locs (L' := [(0, _), (1, _), (2, _), (3, _), (4, _), (5, _), (6, _), (7, _)]) ?_ ⟨rfl, rfl, rfl, rfl, rfl, rfl, rfl, rfl, trivial⟩
            refine kw_aload_n (pc := 40) dL_hangs_40 rfl ?_
            refine kw_iload (pc := 41) dL_hangs_41 rfl ?_
            refine kw_iconst (v := 2) (pc := 43) dL_hangs_43 (by decide) ?_
            refine kw_callSr (pc := 44) dL_hangs_44 lL_100 (V0.parcelE (k := k) (j := 2) h.v rfl (rfl : (2 : Int32) = nI 2) hk (by decide)) rfl rfl ⟨by decide, by decide, Nat.le_of_ble_eq_true rfl⟩ ?_
            refine kw_istore (pc := 47) dL_hangs_47 (by decide) rfl ?_
            refine kW.locs (L' := [(0, _), (1, _), (2, _), (3, _), (4, _), (5, _), (6, _), (7, _), (8, _)]) ?_ ⟨rfl, rfl, rfl, rfl, rfl, rfl, rfl, rfl, rfl, trivial⟩
            refine kw_aload_n (pc := 49) dL_hangs_49 rfl ?_
            refine kw_iload (pc := 50) dL_hangs_50 rfl ?_
            refine kw_iconst (v := 5) (pc := 52) dL_hangs_52 (by decide) ?_
            refine kw_callSr (pc := 53) dL_hangs_53 lL_100 (V0.parcelE (k := k) (j := 5) h.v rfl (rfl : (5 : Int32) = nI 5) hk (by decide)) rfl rfl ⟨by decide, by decide, Nat.le_of_ble_eq_true rfl⟩ ?_
            refine kw_istore (pc := 56) dL_hangs_56 (by decide) rfl ?_
            refine kW.locs (L' := [(0, _), (1, _), (2, _), (3, _), (4, _), (5, _), (6, _), (7, _), (8, _), (9, _)]) ?_ ⟨rfl, rfl, rfl, rfl, rfl, rfl, rfl, rfl, rfl, rfl, trivial⟩
            refine kw_aload_n (pc := 58) dL_hangs_58 rfl ?_
            refine kw_iload (pc := 59) dL_hangs_59 rfl ?_
            refine kw_bipush (v := 9) (pc := 61) dL_hangs_61 (by decide) ?_
            refine kw_callSr (pc := 63) dL_hangs_63 lL_100 (V0.parcelE (k := k) (j := 9) h.v rfl (rfl : (9 : Int32) = nI 9) hk (by decide)) rfl rfl ⟨by decide, by decide, Nat.le_of_ble_eq_true rfl⟩ ?_
            refine kw_istore (pc := 66) dL_hangs_66 (by decide) rfl ?_
            refine kW.locs (L' := [(0, _), (1, _), (2, _), (3, _), (4, _), (5, _), (6, _), (7, _), (8, _), (9, _), (10, _)]) ?_ ⟨rfl, rfl, rfl, rfl, rfl, rfl, rfl, rfl, rfl, rfl, rfl, trivial⟩
            refine kw_aload_n (pc := 68) dL_hangs_68 rfl ?_
            refine kw_iload (pc := 69) dL_hangs_69 rfl ?_
            refine kw_bipush (v := 10) (pc := 71) dL_hangs_71 (by decide) ?_
            refine kw_callSr (pc := 73) dL_hangs_73 lL_100 (V0.parcelE (k := k) (j := 10) h.v rfl (rfl : (10 : Int32) = nI 10) hk (by decide)) rfl rfl ⟨by decide, by decide, Nat.le_of_ble_eq_true rfl⟩ ?_
            refine kw_if_ne (tgt := 83) (pc := 76) dL_hangs_76 (by decide) (fun h76 => ?_) (fun h76 => ?_)
            · have h76 := mt (kEqI (a := r) (b := 0) Lr (by decide) hr (rfl : (0 : Int32) = nI 0)).mpr h76
              refine kw_iconst (v := 0) (pc := 83) dL_hangs_83 (by decide) ?_
              refine kw_istore (pc := 84) dL_hangs_84 (by decide) rfl ?_
              refine kW.locs (L' := [(0, _), (1, _), (2, _), (3, _), (4, _), (5, _), (6, _), (7, _), (8, _), (9, _), (10, _), (11, _)]) ?_ ⟨rfl, rfl, rfl, rfl, rfl, rfl, rfl, rfl, rfl, rfl, rfl, rfl, trivial⟩
              refine kw_iload (pc := 86) dL_hangs_86 rfl ?_
              refine kw_iload (pc := 88) dL_hangs_88 rfl ?_
              refine kw_aload_n (pc := 90) dL_hangs_90 rfl ?_
              refine kw_iconst (v := 2) (pc := 91) dL_hangs_91 (by decide) ?_
              refine kw_callSr (pc := 92) dL_hangs_92 lL_102 (V0.settingE (j := 2) h.v (rfl : (2 : Int32) = nI 2) (by decide)) rfl rfl ⟨by decide, by decide, Nat.le_of_ble_eq_true rfl⟩ ?_
              refine kw_imul (pc := 95) dL_hangs_95 ?_
              refine kw_isub (pc := 96) dL_hangs_96 ?_
              refine kw_istore (pc := 97) dL_hangs_97 (by decide) rfl ?_
              refine kW.locs (L' := [(0, _), (1, _), (2, _), (3, _), (4, _), (5, _), (6, _), (7, _), (8, _), (9, _), (10, _), (11, _), (12, _)]) ?_ ⟨rfl, rfl, rfl, rfl, rfl, rfl, rfl, rfl, rfl, rfl, rfl, rfl, rfl, trivial⟩
              refine kw_aload_n (pc := 99) dL_hangs_99 rfl ?_
              refine kw_iload (pc := 100) dL_hangs_100 rfl ?_
              refine kw_bipush (v := 7) (pc := 102) dL_hangs_102 (by decide) ?_
              refine kw_callSr (pc := 104) dL_hangs_104 lL_100 (V0.parcelE (k := k) (j := 7) h.v rfl (rfl : (7 : Int32) = nI 7) hk (by decide)) rfl rfl ⟨by decide, by decide, Nat.le_of_ble_eq_true rfl⟩ ?_
              refine kw_aload_n (pc := 107) dL_hangs_107 rfl ?_
              refine kw_iconst (v := 1) (pc := 108) dL_hangs_108 (by decide) ?_
              refine kw_callSr (pc := 109) dL_hangs_109 lL_102 (V0.settingE (j := 1) h.v (rfl : (1 : Int32) = nI 1) (by decide)) rfl rfl ⟨by decide, by decide, Nat.le_of_ble_eq_true rfl⟩ ?_
              refine kw_icmp_le (tgt := 119) (pc := 112) dL_hangs_112 (by decide) (fun h112 => ?_) (fun h112 => ?_)
              · have h112 := (kLeI (a := gi) (b := x1) Lgi Lx1 hG hx1).mp h112
                exfalso; omega
              · have h112 := mt (kLeI (a := gi) (b := x1) Lgi Lx1 hG hx1).mpr h112
                refine kw_iconst (v := 1) (pc := 115) dL_hangs_115 (by decide) ?_
                refine kw_goto (tgt := 120) (pc := 116) dL_hangs_116 (by decide) ?_
                refine kw_istore (pc := 120) dL_hangs_120 (by decide) rfl ?_
                refine kW.locs (L' := [(0, _), (1, _), (2, _), (3, _), (4, _), (5, _), (6, _), (7, _), (8, _), (9, _), (10, _), (11, _), (12, _), (13, _)]) ?_ ⟨rfl, rfl, rfl, rfl, rfl, rfl, rfl, rfl, rfl, rfl, rfl, rfl, rfl, rfl, trivial⟩
                refine kw_iload_n (pc := 122) dL_hangs_122 rfl ?_
                refine kw_iload (pc := 123) dL_hangs_123 rfl ?_
                refine kw_if_eq (tgt := 132) (pc := 125) dL_hangs_125 (by decide) (fun h125 => ?_) (fun h125 => ?_)
                · refine kw_iconst (v := 0) (pc := 132) dL_hangs_132 (by decide) ?_
                  refine kw_iadd (pc := 133) dL_hangs_133 ?_
                  refine kw_istore_n (pc := 134) dL_hangs_134 (by decide) rfl ?_
                  refine kW.locs (L' := [(0, _), (1, _), (2, _), (3, _), (4, _), (5, _), (6, _), (7, _), (8, _), (9, _), (10, _), (11, _), (12, _), (13, _)]) ?_ ⟨rfl, rfl, rfl, rfl, rfl, rfl, rfl, rfl, rfl, rfl, rfl, rfl, rfl, rfl, trivial⟩
                  refine kw_iload_n (pc := 135) dL_hangs_135 rfl ?_
                  refine kw_iload (pc := 136) dL_hangs_136 rfl ?_
                  refine kw_if_eq (tgt := 145) (pc := 138) dL_hangs_138 (by decide) (fun h138 => ?_) (fun h138 => ?_)
                  · exact absurd h138 (by decide)
                  · refine kw_iconst (v := 1) (pc := 141) dL_hangs_141 (by decide) ?_
                    refine kw_goto (tgt := 146) (pc := 142) dL_hangs_142 (by decide) ?_
                    refine kw_iadd (pc := 146) dL_hangs_146 ?_
                    refine kw_istore_n (pc := 147) dL_hangs_147 (by decide) rfl ?_
                    refine kW.locs (L' := [(0, _), (1, _), (2, _), (3, _), (4, _), (5, _), (6, _), (7, _), (8, _), (9, _), (10, _), (11, _), (12, _), (13, _)]) ?_ ⟨rfl, rfl, rfl, rfl, rfl, rfl, rfl, rfl, rfl, rfl, rfl, rfl, rfl, rfl, trivial⟩
                    refine kw_iload_n (pc := 148) dL_hangs_148 rfl ?_
                    refine kw_iload (pc := 149) dL_hangs_149 rfl ?_
                    refine kw_if_eq (tgt := 159) (pc := 151) dL_hangs_151 (by decide) (fun h151 => ?_) (fun h151 => ?_)
                    · refine kw_iconst (v := 0) (pc := 159) dL_hangs_159 (by decide) ?_
                      refine kw_iadd (pc := 160) dL_hangs_160 ?_
                      refine kw_istore_n (pc := 161) dL_hangs_161 (by decide) rfl ?_
                      refine kW.locs (L' := [(0, _), (1, _), (2, _), (3, _), (4, _), (5, _), (6, _), (7, _), (8, _), (9, _), (10, _), (11, _), (12, _), (13, _)]) ?_ ⟨rfl, rfl, rfl, rfl, rfl, rfl, rfl, rfl, rfl, rfl, rfl, rfl, rfl, rfl, trivial⟩
                      refine kw_iload (pc := 162) dL_hangs_162 rfl ?_
                      refine kw_if_eq (tgt := 179) (pc := 164) dL_hangs_164 (by decide) (fun h164 => ?_) (fun h164 => ?_)
                      · refine kw_iload (pc := 179) dL_hangs_179 rfl ?_
                        refine kw_istore (pc := 181) dL_hangs_181 (by decide) rfl ?_
                        refine kW.locs (L' := [(0, _), (1, _), (2, _), (3, _), (4, _), (5, _), (6, _), (7, _), (8, _), (9, _), (11, _), (12, _), (13, _)]) ?_ ⟨rfl, rfl, rfl, rfl, rfl, rfl, rfl, rfl, rfl, rfl, rfl, rfl, rfl, trivial⟩
                        refine kw_aload_n (pc := 183) dL_hangs_183 rfl ?_
                        refine kw_aload_n (pc := 184) dL_hangs_184 rfl ?_
                        refine kw_iload (pc := 185) dL_hangs_185 rfl ?_
                        refine kw_bipush (v := 8) (pc := 187) dL_hangs_187 (by decide) ?_
                        refine kw_callSr (pc := 189) dL_hangs_189 lL_100 (V0.parcelE (k := k) (j := 8) h.v rfl (rfl : (8 : Int32) = nI 8) hk (by decide)) rfl rfl ⟨by decide, by decide, Nat.le_of_ble_eq_true rfl⟩ ?_
                        refine kw_iconst (v := 0) (pc := 192) dL_hangs_192 (by decide) ?_
                        refine kw_callSr (pc := 193) dL_hangs_193 lL_104 (h.v.rate0 hz9 hB hB2) rfl rfl ⟨by decide, by decide, Nat.le_of_ble_eq_true rfl⟩ ?_
                        refine kw_istore (pc := 196) dL_hangs_196 (by decide) rfl ?_
                        refine kW.locs (L' := [(0, _), (1, _), (2, _), (3, _), (4, _), (5, _), (6, _), (7, _), (8, _), (9, _), (11, _), (12, _), (13, _), (14, _)]) ?_ ⟨rfl, rfl, rfl, rfl, rfl, rfl, rfl, rfl, rfl, rfl, rfl, rfl, rfl, rfl, trivial⟩
                        refine kw_iload (pc := 198) dL_hangs_198 rfl ?_
                        refine kw_iload (pc := 200) dL_hangs_200 rfl ?_
                        refine kw_icmp_lt (tgt := 350) (pc := 202) dL_hangs_202 (by decide) (fun h202 => ?_) (fun h202 => ?_)
                        · have h202 := (kLtI (a := a) (b := b) La Lb ha hb).mp h202
                          exfalso; omega
                        · have h202 := mt (kLtI (a := a) (b := b) La Lb ha hb).mpr h202
                          refine kw_iload (pc := 205) dL_hangs_205 rfl ?_
                          refine kw_iload (pc := 207) dL_hangs_207 rfl ?_
                          refine kw_icmp_lt (tgt := 350) (pc := 209) dL_hangs_209 (by decide) (fun h209 => ?_) (fun h209 => ?_)
                          · have h209 := (kLtI (a := b) (b := d) Lb Ld hb hd).mp h209
                            exfalso; omega
                          · have h209 := mt (kLtI (a := b) (b := d) Lb Ld hb hd).mpr h209
                            refine kw_iload (pc := 212) dL_hangs_212 rfl ?_
                            refine kw_iconst (v := 1) (pc := 214) dL_hangs_214 (by decide) ?_
                            refine kw_icmp_lt (tgt := 350) (pc := 215) dL_hangs_215 (by decide) (fun h215 => ?_) (fun h215 => ?_)
                            · have h215 := (kLtI (a := d) (b := 1) Ld (by decide) hd (rfl : (1 : Int32) = nI 1)).mp h215
                              exfalso; omega
                            · have h215 := mt (kLtI (a := d) (b := 1) Ld (by decide) hd (rfl : (1 : Int32) = nI 1)).mpr h215
                              refine kw_iload (pc := 218) dL_hangs_218 rfl ?_
                              refine kw_bipush (v := 60) (pc := 220) dL_hangs_220 (by decide) ?_
                              refine kw_icmp_gt (tgt := 350) (pc := 222) dL_hangs_222 (by decide) (fun h222 => ?_) (fun h222 => ?_)
                              · have h222 := (kLtI (a := 60) (b := a) (by decide) La (rfl : (60 : Int32) = nI 60) ha).mp h222
                                exfalso; omega
                              · have h222 := mt (kLtI (a := 60) (b := a) (by decide) La (rfl : (60 : Int32) = nI 60) ha).mpr h222
                                refine kw_aload_n (pc := 225) dL_hangs_225 rfl ?_
                                refine kw_iload (pc := 226) dL_hangs_226 rfl ?_
                                refine kw_bipush (v := 7) (pc := 228) dL_hangs_228 (by decide) ?_
                                refine kw_callSr (pc := 230) dL_hangs_230 lL_100 (V0.parcelE (k := k) (j := 7) h.v rfl (rfl : (7 : Int32) = nI 7) hk (by decide)) rfl rfl ⟨by decide, by decide, Nat.le_of_ble_eq_true rfl⟩ ?_
                                refine kw_iload (pc := 233) dL_hangs_233 rfl ?_
                                refine kw_iconst (v := 2) (pc := 235) dL_hangs_235 (by decide) ?_
                                refine kw_iload (pc := 236) dL_hangs_236 rfl ?_
                                refine kw_iload (pc := 238) dL_hangs_238 rfl ?_
                                refine kw_iadd (pc := 240) dL_hangs_240 ?_
                                refine kw_imul (pc := 241) dL_hangs_241 ?_
                                refine kw_iadd (pc := 242) dL_hangs_242 ?_
                                refine kw_icmp_ne (tgt := 350) (pc := 243) dL_hangs_243 (by decide) (fun h243 => ?_) (fun h243 => ?_)
                                · have h243 := mt (kEqI (a := gi) (b := (a + (2 * (b + d)))) Lgi (by omega) hG (kA (a := a) (b := (2 * (b + d))) ha (kMu (a := 2) (b := (b + d)) (rfl : (2 : Int32) = nI 2) (kA (a := b) (b := d) hb hd)))).mpr h243
                                  exfalso; omega
                                · have h243 := (kEqI (a := gi) (b := (a + (2 * (b + d)))) Lgi (by omega) hG (kA (a := a) (b := (2 * (b + d))) ha (kMu (a := 2) (b := (b + d)) (rfl : (2 : Int32) = nI 2) (kA (a := b) (b := d) hb hd)))).mp h243
                                  refine kw_aload_n (pc := 246) dL_hangs_246 rfl ?_
                                  refine kw_iload (pc := 247) dL_hangs_247 rfl ?_
                                  refine kw_bipush (v := 8) (pc := 249) dL_hangs_249 (by decide) ?_
                                  refine kw_callSr (pc := 251) dL_hangs_251 lL_100 (V0.parcelE (k := k) (j := 8) h.v rfl (rfl : (8 : Int32) = nI 8) hk (by decide)) rfl rfl ⟨by decide, by decide, Nat.le_of_ble_eq_true rfl⟩ ?_
                                  refine kw_iconst (v := 2) (pc := 254) dL_hangs_254 (by decide) ?_
                                  refine kw_iload (pc := 255) dL_hangs_255 rfl ?_
                                  refine kw_iload (pc := 257) dL_hangs_257 rfl ?_
                                  refine kw_iadd (pc := 259) dL_hangs_259 ?_
                                  refine kw_imul (pc := 260) dL_hangs_260 ?_
                                  refine kw_icmp_gt (tgt := 272) (pc := 261) dL_hangs_261 (by decide) (fun h261 => ?_) (fun h261 => ?_)
                                  · have h261 := (kLtI (a := (2 * (b + d))) (b := Z) (by omega) LZ (kMu (a := 2) (b := (b + d)) (rfl : (2 : Int32) = nI 2) (kA (a := b) (b := d) hb hd)) hZ).mp h261
                                    refine kw_iload (pc := 272) dL_hangs_272 rfl ?_
                                    refine kw_if_ne (tgt := 294) (pc := 274) dL_hangs_274 (by decide) (fun h274 => ?_) (fun h274 => ?_)
                                    · refine kw_iload (pc := 294) dL_hangs_294 rfl ?_
                                      refine kw_iload (pc := 296) dL_hangs_296 rfl ?_
                                      refine kw_icmp_lt (tgt := 350) (pc := 298) dL_hangs_298 (by decide) (fun h298 => ?_) (fun h298 => ?_)
                                      · have h298 := (kLtI (a := (W - (co * x2))) (b := R) (Nat.lt_of_le_of_lt (Nat.sub_le _ _) LW) LR (kS (a := W) (b := (co * x2)) hW (kMu (a := co) (b := x2) hco hx2) hW2) hR).mp h298
                                        exfalso; omega
                                      · have h298 := mt (kLtI (a := (W - (co * x2))) (b := R) (Nat.lt_of_le_of_lt (Nat.sub_le _ _) LW) LR (kS (a := W) (b := (co * x2)) hW (kMu (a := co) (b := x2) hco hx2) hW2) hR).mpr h298
                                        have e4 : moN s0 (k + 1) = moN s0 k := if_neg (fun q => hr0 q.1)
                                        exact kW.locs t301 ⟨rfl, kgE rfl (cnt_f hr0).symm, kgE rfl (odd_t ho).symm, kgE rfl (sum_f hr0).symm, kgE rfl e4.symm, rfl, kgE rfl hco, rfl, trivial⟩
                                    · exact absurd h274 (by decide)
                                  · have h261 := mt (kLtI (a := (2 * (b + d))) (b := Z) (by omega) LZ (kMu (a := 2) (b := (b + d)) (rfl : (2 : Int32) = nI 2) (kA (a := b) (b := d) hb hd)) hZ).mpr h261
                                    refine kw_aload_n (pc := 264) dL_hangs_264 rfl ?_
                                    refine kw_iconst (v := 0) (pc := 265) dL_hangs_265 (by decide) ?_
                                    refine kw_callSr (pc := 266) dL_hangs_266 lL_102 (V0.settingE (j := 0) h.v (rfl : (0 : Int32) = nI 0) (by decide)) rfl rfl ⟨by decide, by decide, Nat.le_of_ble_eq_true rfl⟩ ?_
                                    refine kw_if_gt (tgt := 350) (pc := 269) dL_hangs_269 (by decide) (fun h269 => ?_) (fun h269 => ?_)
                                    · have h269 := (kLtI (a := 0) (b := x0) (by decide) Lx0 (rfl : (0 : Int32) = nI 0) hx0).mp h269
                                      exfalso; omega
                                    · have h269 := mt (kLtI (a := 0) (b := x0) (by decide) Lx0 (rfl : (0 : Int32) = nI 0) hx0).mpr h269
                                      refine kw_iload (pc := 272) dL_hangs_272 rfl ?_
                                      refine kw_if_ne (tgt := 294) (pc := 274) dL_hangs_274 (by decide) (fun h274 => ?_) (fun h274 => ?_)
                                      · refine kw_iload (pc := 294) dL_hangs_294 rfl ?_
                                        refine kw_iload (pc := 296) dL_hangs_296 rfl ?_
                                        refine kw_icmp_lt (tgt := 350) (pc := 298) dL_hangs_298 (by decide) (fun h298 => ?_) (fun h298 => ?_)
                                        · have h298 := (kLtI (a := (W - (co * x2))) (b := R) (Nat.lt_of_le_of_lt (Nat.sub_le _ _) LW) LR (kS (a := W) (b := (co * x2)) hW (kMu (a := co) (b := x2) hco hx2) hW2) hR).mp h298
                                          exfalso; omega
                                        · have h298 := mt (kLtI (a := (W - (co * x2))) (b := R) (Nat.lt_of_le_of_lt (Nat.sub_le _ _) LW) LR (kS (a := W) (b := (co * x2)) hW (kMu (a := co) (b := x2) hco hx2) hW2) hR).mpr h298
                                          have e4 : moN s0 (k + 1) = moN s0 k := if_neg (fun q => hr0 q.1)
                                          exact kW.locs t301 ⟨rfl, kgE rfl (cnt_f hr0).symm, kgE rfl (odd_t ho).symm, kgE rfl (sum_f hr0).symm, kgE rfl e4.symm, rfl, kgE rfl hco, rfl, trivial⟩
                                      · exact absurd h274 (by decide)
                      · exact absurd (by decide) h164
                    · exact absurd (by decide) h151
                · exact absurd (by decide) h125
            · have h76 := (kEqI (a := r) (b := 0) Lr (by decide) hr (rfl : (0 : Int32) = nI 0)).mp h76
              exfalso; omega
          · have hq2 := mt hoi.mpr ho
            refine kw_aload_n (pc := 22) dL_hangs_22 rfl ?_
            refine kw_iload (pc := 23) dL_hangs_23 rfl ?_
            refine kw_iconst (v := 0) (pc := 25) dL_hangs_25 (by decide) ?_
            refine kw_callSr (pc := 26) dL_hangs_26 lL_100 (V0.parcelE (k := k) (j := 0) h.v rfl (rfl : (0 : Int32) = nI 0) hk (by decide)) rfl rfl ⟨by decide, by decide, Nat.le_of_ble_eq_true rfl⟩ ?_
            refine kw_istore (pc := 29) dL_hangs_29 (by decide) rfl ?_
            refine kW.locs (L' := [(0, _), (1, _), (2, _), (3, _), (4, _), (5, _), (6, _)]) ?_ ⟨rfl, rfl, rfl, rfl, rfl, rfl, rfl, trivial⟩
            refine kw_aload_n (pc := 31) dL_hangs_31 rfl ?_
            refine kw_iload (pc := 32) dL_hangs_32 rfl ?_
            refine kw_iconst (v := 1) (pc := 34) dL_hangs_34 (by decide) ?_
            refine kw_callSr (pc := 35) dL_hangs_35 lL_100 (V0.parcelE (k := k) (j := 1) h.v rfl (rfl : (1 : Int32) = nI 1) hk (by decide)) rfl rfl ⟨by decide, by decide, Nat.le_of_ble_eq_true rfl⟩ ?_
            refine kw_istore (pc := 38) dL_hangs_38 (by decide) rfl ?_
            refine kW.locs (L' := [(0, _), (1, _), (2, _), (3, _), (4, _), (5, _), (6, _), (7, _)]) ?_ ⟨rfl, rfl, rfl, rfl, rfl, rfl, rfl, rfl, trivial⟩
            refine kw_aload_n (pc := 40) dL_hangs_40 rfl ?_
            refine kw_iload (pc := 41) dL_hangs_41 rfl ?_
            refine kw_iconst (v := 2) (pc := 43) dL_hangs_43 (by decide) ?_
            refine kw_callSr (pc := 44) dL_hangs_44 lL_100 (V0.parcelE (k := k) (j := 2) h.v rfl (rfl : (2 : Int32) = nI 2) hk (by decide)) rfl rfl ⟨by decide, by decide, Nat.le_of_ble_eq_true rfl⟩ ?_
            refine kw_istore (pc := 47) dL_hangs_47 (by decide) rfl ?_
            refine kW.locs (L' := [(0, _), (1, _), (2, _), (3, _), (4, _), (5, _), (6, _), (7, _), (8, _)]) ?_ ⟨rfl, rfl, rfl, rfl, rfl, rfl, rfl, rfl, rfl, trivial⟩
            refine kw_aload_n (pc := 49) dL_hangs_49 rfl ?_
            refine kw_iload (pc := 50) dL_hangs_50 rfl ?_
            refine kw_iconst (v := 5) (pc := 52) dL_hangs_52 (by decide) ?_
            refine kw_callSr (pc := 53) dL_hangs_53 lL_100 (V0.parcelE (k := k) (j := 5) h.v rfl (rfl : (5 : Int32) = nI 5) hk (by decide)) rfl rfl ⟨by decide, by decide, Nat.le_of_ble_eq_true rfl⟩ ?_
            refine kw_istore (pc := 56) dL_hangs_56 (by decide) rfl ?_
            refine kW.locs (L' := [(0, _), (1, _), (2, _), (3, _), (4, _), (5, _), (6, _), (7, _), (8, _), (9, _)]) ?_ ⟨rfl, rfl, rfl, rfl, rfl, rfl, rfl, rfl, rfl, rfl, trivial⟩
            refine kw_aload_n (pc := 58) dL_hangs_58 rfl ?_
            refine kw_iload (pc := 59) dL_hangs_59 rfl ?_
            refine kw_bipush (v := 9) (pc := 61) dL_hangs_61 (by decide) ?_
            refine kw_callSr (pc := 63) dL_hangs_63 lL_100 (V0.parcelE (k := k) (j := 9) h.v rfl (rfl : (9 : Int32) = nI 9) hk (by decide)) rfl rfl ⟨by decide, by decide, Nat.le_of_ble_eq_true rfl⟩ ?_
            refine kw_istore (pc := 66) dL_hangs_66 (by decide) rfl ?_
            refine kW.locs (L' := [(0, _), (1, _), (2, _), (3, _), (4, _), (5, _), (6, _), (7, _), (8, _), (9, _), (10, _)]) ?_ ⟨rfl, rfl, rfl, rfl, rfl, rfl, rfl, rfl, rfl, rfl, rfl, trivial⟩
            refine kw_aload_n (pc := 68) dL_hangs_68 rfl ?_
            refine kw_iload (pc := 69) dL_hangs_69 rfl ?_
            refine kw_bipush (v := 10) (pc := 71) dL_hangs_71 (by decide) ?_
            refine kw_callSr (pc := 73) dL_hangs_73 lL_100 (V0.parcelE (k := k) (j := 10) h.v rfl (rfl : (10 : Int32) = nI 10) hk (by decide)) rfl rfl ⟨by decide, by decide, Nat.le_of_ble_eq_true rfl⟩ ?_
            refine kw_if_ne (tgt := 83) (pc := 76) dL_hangs_76 (by decide) (fun h76 => ?_) (fun h76 => ?_)
            · have h76 := mt (kEqI (a := r) (b := 0) Lr (by decide) hr (rfl : (0 : Int32) = nI 0)).mpr h76
              refine kw_iconst (v := 0) (pc := 83) dL_hangs_83 (by decide) ?_
              refine kw_istore (pc := 84) dL_hangs_84 (by decide) rfl ?_
              refine kW.locs (L' := [(0, _), (1, _), (2, _), (3, _), (4, _), (5, _), (6, _), (7, _), (8, _), (9, _), (10, _), (11, _)]) ?_ ⟨rfl, rfl, rfl, rfl, rfl, rfl, rfl, rfl, rfl, rfl, rfl, rfl, trivial⟩
              refine kw_iload (pc := 86) dL_hangs_86 rfl ?_
              refine kw_iload (pc := 88) dL_hangs_88 rfl ?_
              refine kw_aload_n (pc := 90) dL_hangs_90 rfl ?_
              refine kw_iconst (v := 2) (pc := 91) dL_hangs_91 (by decide) ?_
              refine kw_callSr (pc := 92) dL_hangs_92 lL_102 (V0.settingE (j := 2) h.v (rfl : (2 : Int32) = nI 2) (by decide)) rfl rfl ⟨by decide, by decide, Nat.le_of_ble_eq_true rfl⟩ ?_
              refine kw_imul (pc := 95) dL_hangs_95 ?_
              refine kw_isub (pc := 96) dL_hangs_96 ?_
              refine kw_istore (pc := 97) dL_hangs_97 (by decide) rfl ?_
              refine kW.locs (L' := [(0, _), (1, _), (2, _), (3, _), (4, _), (5, _), (6, _), (7, _), (8, _), (9, _), (10, _), (11, _), (12, _)]) ?_ ⟨rfl, rfl, rfl, rfl, rfl, rfl, rfl, rfl, rfl, rfl, rfl, rfl, rfl, trivial⟩
              refine kw_aload_n (pc := 99) dL_hangs_99 rfl ?_
              refine kw_iload (pc := 100) dL_hangs_100 rfl ?_
              refine kw_bipush (v := 7) (pc := 102) dL_hangs_102 (by decide) ?_
              refine kw_callSr (pc := 104) dL_hangs_104 lL_100 (V0.parcelE (k := k) (j := 7) h.v rfl (rfl : (7 : Int32) = nI 7) hk (by decide)) rfl rfl ⟨by decide, by decide, Nat.le_of_ble_eq_true rfl⟩ ?_
              refine kw_aload_n (pc := 107) dL_hangs_107 rfl ?_
              refine kw_iconst (v := 1) (pc := 108) dL_hangs_108 (by decide) ?_
              refine kw_callSr (pc := 109) dL_hangs_109 lL_102 (V0.settingE (j := 1) h.v (rfl : (1 : Int32) = nI 1) (by decide)) rfl rfl ⟨by decide, by decide, Nat.le_of_ble_eq_true rfl⟩ ?_
              refine kw_icmp_le (tgt := 119) (pc := 112) dL_hangs_112 (by decide) (fun h112 => ?_) (fun h112 => ?_)
              · have h112 := (kLeI (a := gi) (b := x1) Lgi Lx1 hG hx1).mp h112
                refine kw_iconst (v := 0) (pc := 119) dL_hangs_119 (by decide) ?_
                refine kw_istore (pc := 120) dL_hangs_120 (by decide) rfl ?_
                refine kW.locs (L' := [(0, _), (1, _), (2, _), (3, _), (4, _), (5, _), (6, _), (7, _), (8, _), (9, _), (10, _), (11, _), (12, _), (13, _)]) ?_ ⟨rfl, rfl, rfl, rfl, rfl, rfl, rfl, rfl, rfl, rfl, rfl, rfl, rfl, rfl, trivial⟩
                refine kw_iload_n (pc := 122) dL_hangs_122 rfl ?_
                refine kw_iload (pc := 123) dL_hangs_123 rfl ?_
                refine kw_if_eq (tgt := 132) (pc := 125) dL_hangs_125 (by decide) (fun h125 => ?_) (fun h125 => ?_)
                · refine kw_iconst (v := 0) (pc := 132) dL_hangs_132 (by decide) ?_
                  refine kw_iadd (pc := 133) dL_hangs_133 ?_
                  refine kw_istore_n (pc := 134) dL_hangs_134 (by decide) rfl ?_
                  refine kW.locs (L' := [(0, _), (1, _), (2, _), (3, _), (4, _), (5, _), (6, _), (7, _), (8, _), (9, _), (10, _), (11, _), (12, _), (13, _)]) ?_ ⟨rfl, rfl, rfl, rfl, rfl, rfl, rfl, rfl, rfl, rfl, rfl, rfl, rfl, rfl, trivial⟩
                  refine kw_iload_n (pc := 135) dL_hangs_135 rfl ?_
                  refine kw_iload (pc := 136) dL_hangs_136 rfl ?_
                  refine kw_if_eq (tgt := 145) (pc := 138) dL_hangs_138 (by decide) (fun h138 => ?_) (fun h138 => ?_)
                  · refine kw_iconst (v := 0) (pc := 145) dL_hangs_145 (by decide) ?_
                    refine kw_iadd (pc := 146) dL_hangs_146 ?_
                    refine kw_istore_n (pc := 147) dL_hangs_147 (by decide) rfl ?_
                    refine kW.locs (L' := [(0, _), (1, _), (2, _), (3, _), (4, _), (5, _), (6, _), (7, _), (8, _), (9, _), (10, _), (11, _), (12, _), (13, _)]) ?_ ⟨rfl, rfl, rfl, rfl, rfl, rfl, rfl, rfl, rfl, rfl, rfl, rfl, rfl, rfl, trivial⟩
                    refine kw_iload_n (pc := 148) dL_hangs_148 rfl ?_
                    refine kw_iload (pc := 149) dL_hangs_149 rfl ?_
                    refine kw_if_eq (tgt := 159) (pc := 151) dL_hangs_151 (by decide) (fun h151 => ?_) (fun h151 => ?_)
                    · refine kw_iconst (v := 0) (pc := 159) dL_hangs_159 (by decide) ?_
                      refine kw_iadd (pc := 160) dL_hangs_160 ?_
                      refine kw_istore_n (pc := 161) dL_hangs_161 (by decide) rfl ?_
                      refine kW.locs (L' := [(0, _), (1, _), (2, _), (3, _), (4, _), (5, _), (6, _), (7, _), (8, _), (9, _), (10, _), (11, _), (12, _), (13, _)]) ?_ ⟨rfl, rfl, rfl, rfl, rfl, rfl, rfl, rfl, rfl, rfl, rfl, rfl, rfl, rfl, trivial⟩
                      refine kw_iload (pc := 162) dL_hangs_162 rfl ?_
                      refine kw_if_eq (tgt := 179) (pc := 164) dL_hangs_164 (by decide) (fun h164 => ?_) (fun h164 => ?_)
                      · refine kw_iload (pc := 179) dL_hangs_179 rfl ?_
                        refine kw_istore (pc := 181) dL_hangs_181 (by decide) rfl ?_
                        refine kW.locs (L' := [(0, _), (1, _), (2, _), (3, _), (4, _), (5, _), (6, _), (7, _), (8, _), (9, _), (11, _), (12, _), (13, _)]) ?_ ⟨rfl, rfl, rfl, rfl, rfl, rfl, rfl, rfl, rfl, rfl, rfl, rfl, rfl, trivial⟩
                        refine kw_aload_n (pc := 183) dL_hangs_183 rfl ?_
                        refine kw_aload_n (pc := 184) dL_hangs_184 rfl ?_
                        refine kw_iload (pc := 185) dL_hangs_185 rfl ?_
                        refine kw_bipush (v := 8) (pc := 187) dL_hangs_187 (by decide) ?_
                        refine kw_callSr (pc := 189) dL_hangs_189 lL_100 (V0.parcelE (k := k) (j := 8) h.v rfl (rfl : (8 : Int32) = nI 8) hk (by decide)) rfl rfl ⟨by decide, by decide, Nat.le_of_ble_eq_true rfl⟩ ?_
                        refine kw_iconst (v := 0) (pc := 192) dL_hangs_192 (by decide) ?_
                        refine kw_callSr (pc := 193) dL_hangs_193 lL_104 (h.v.rate0 hz9 hB hB2) rfl rfl ⟨by decide, by decide, Nat.le_of_ble_eq_true rfl⟩ ?_
                        refine kw_istore (pc := 196) dL_hangs_196 (by decide) rfl ?_
                        refine kW.locs (L' := [(0, _), (1, _), (2, _), (3, _), (4, _), (5, _), (6, _), (7, _), (8, _), (9, _), (11, _), (12, _), (13, _), (14, _)]) ?_ ⟨rfl, rfl, rfl, rfl, rfl, rfl, rfl, rfl, rfl, rfl, rfl, rfl, rfl, rfl, trivial⟩
                        refine kw_iload (pc := 198) dL_hangs_198 rfl ?_
                        refine kw_iload (pc := 200) dL_hangs_200 rfl ?_
                        refine kw_icmp_lt (tgt := 350) (pc := 202) dL_hangs_202 (by decide) (fun h202 => ?_) (fun h202 => ?_)
                        · have h202 := (kLtI (a := a) (b := b) La Lb ha hb).mp h202
                          exfalso; omega
                        · have h202 := mt (kLtI (a := a) (b := b) La Lb ha hb).mpr h202
                          refine kw_iload (pc := 205) dL_hangs_205 rfl ?_
                          refine kw_iload (pc := 207) dL_hangs_207 rfl ?_
                          refine kw_icmp_lt (tgt := 350) (pc := 209) dL_hangs_209 (by decide) (fun h209 => ?_) (fun h209 => ?_)
                          · have h209 := (kLtI (a := b) (b := d) Lb Ld hb hd).mp h209
                            exfalso; omega
                          · have h209 := mt (kLtI (a := b) (b := d) Lb Ld hb hd).mpr h209
                            refine kw_iload (pc := 212) dL_hangs_212 rfl ?_
                            refine kw_iconst (v := 1) (pc := 214) dL_hangs_214 (by decide) ?_
                            refine kw_icmp_lt (tgt := 350) (pc := 215) dL_hangs_215 (by decide) (fun h215 => ?_) (fun h215 => ?_)
                            · have h215 := (kLtI (a := d) (b := 1) Ld (by decide) hd (rfl : (1 : Int32) = nI 1)).mp h215
                              exfalso; omega
                            · have h215 := mt (kLtI (a := d) (b := 1) Ld (by decide) hd (rfl : (1 : Int32) = nI 1)).mpr h215
                              refine kw_iload (pc := 218) dL_hangs_218 rfl ?_
                              refine kw_bipush (v := 60) (pc := 220) dL_hangs_220 (by decide) ?_
                              refine kw_icmp_gt (tgt := 350) (pc := 222) dL_hangs_222 (by decide) (fun h222 => ?_) (fun h222 => ?_)
                              · have h222 := (kLtI (a := 60) (b := a) (by decide) La (rfl : (60 : Int32) = nI 60) ha).mp h222
                                exfalso; omega
                              · have h222 := mt (kLtI (a := 60) (b := a) (by decide) La (rfl : (60 : Int32) = nI 60) ha).mpr h222
                                refine kw_aload_n (pc := 225) dL_hangs_225 rfl ?_
                                refine kw_iload (pc := 226) dL_hangs_226 rfl ?_
                                refine kw_bipush (v := 7) (pc := 228) dL_hangs_228 (by decide) ?_
                                refine kw_callSr (pc := 230) dL_hangs_230 lL_100 (V0.parcelE (k := k) (j := 7) h.v rfl (rfl : (7 : Int32) = nI 7) hk (by decide)) rfl rfl ⟨by decide, by decide, Nat.le_of_ble_eq_true rfl⟩ ?_
                                refine kw_iload (pc := 233) dL_hangs_233 rfl ?_
                                refine kw_iconst (v := 2) (pc := 235) dL_hangs_235 (by decide) ?_
                                refine kw_iload (pc := 236) dL_hangs_236 rfl ?_
                                refine kw_iload (pc := 238) dL_hangs_238 rfl ?_
                                refine kw_iadd (pc := 240) dL_hangs_240 ?_
                                refine kw_imul (pc := 241) dL_hangs_241 ?_
                                refine kw_iadd (pc := 242) dL_hangs_242 ?_
                                refine kw_icmp_ne (tgt := 350) (pc := 243) dL_hangs_243 (by decide) (fun h243 => ?_) (fun h243 => ?_)
                                · have h243 := mt (kEqI (a := gi) (b := (a + (2 * (b + d)))) Lgi (by omega) hG (kA (a := a) (b := (2 * (b + d))) ha (kMu (a := 2) (b := (b + d)) (rfl : (2 : Int32) = nI 2) (kA (a := b) (b := d) hb hd)))).mpr h243
                                  exfalso; omega
                                · have h243 := (kEqI (a := gi) (b := (a + (2 * (b + d)))) Lgi (by omega) hG (kA (a := a) (b := (2 * (b + d))) ha (kMu (a := 2) (b := (b + d)) (rfl : (2 : Int32) = nI 2) (kA (a := b) (b := d) hb hd)))).mp h243
                                  refine kw_aload_n (pc := 246) dL_hangs_246 rfl ?_
                                  refine kw_iload (pc := 247) dL_hangs_247 rfl ?_
                                  refine kw_bipush (v := 8) (pc := 249) dL_hangs_249 (by decide) ?_
                                  refine kw_callSr (pc := 251) dL_hangs_251 lL_100 (V0.parcelE (k := k) (j := 8) h.v rfl (rfl : (8 : Int32) = nI 8) hk (by decide)) rfl rfl ⟨by decide, by decide, Nat.le_of_ble_eq_true rfl⟩ ?_
                                  refine kw_iconst (v := 2) (pc := 254) dL_hangs_254 (by decide) ?_
                                  refine kw_iload (pc := 255) dL_hangs_255 rfl ?_
                                  refine kw_iload (pc := 257) dL_hangs_257 rfl ?_
                                  refine kw_iadd (pc := 259) dL_hangs_259 ?_
                                  refine kw_imul (pc := 260) dL_hangs_260 ?_
                                  refine kw_icmp_gt (tgt := 272) (pc := 261) dL_hangs_261 (by decide) (fun h261 => ?_) (fun h261 => ?_)
                                  · have h261 := (kLtI (a := (2 * (b + d))) (b := Z) (by omega) LZ (kMu (a := 2) (b := (b + d)) (rfl : (2 : Int32) = nI 2) (kA (a := b) (b := d) hb hd)) hZ).mp h261
                                    refine kw_iload (pc := 272) dL_hangs_272 rfl ?_
                                    refine kw_if_ne (tgt := 294) (pc := 274) dL_hangs_274 (by decide) (fun h274 => ?_) (fun h274 => ?_)
                                    · exact absurd (by decide) h274
                                    · refine kw_iload (pc := 277) dL_hangs_277 rfl ?_
                                      refine kw_iload (pc := 279) dL_hangs_279 rfl ?_
                                      refine kw_if_ne (tgt := 288) (pc := 281) dL_hangs_281 (by decide) (fun h281 => ?_) (fun h281 => ?_)
                                      · have h281 := mt (kEqI (a := R) (b := 0) LR (by decide) hR (rfl : (0 : Int32) = nI 0)).mpr h281
                                        refine kw_iload (pc := 288) dL_hangs_288 rfl ?_
                                        refine kw_irem (pc := 290) dL_hangs_290 (fun q => absurd ((kEqI (a := R) (b := 0) (by omega) (by omega) hR (rfl : (0 : Int32) = nI 0)).mp q) (by omega)) ?_
                                        refine kw_if_ne (tgt := 350) (pc := 291) dL_hangs_291 (by decide) (fun h291 => ?_) (fun h291 => ?_)
                                        · have h291 := mt (kEqI (a := ((W - (co * x2)) % R)) (b := 0) (by omega) (by decide) (kRe (a := (W - (co * x2))) (b := R) (kS (a := W) (b := (co * x2)) hW (kMu (a := co) (b := x2) hco hx2) hW2) hR (by omega) (by omega) (by omega)) (rfl : (0 : Int32) = nI 0)).mpr h291
                                          exfalso; omega
                                        · have h291 := (kEqI (a := ((W - (co * x2)) % R)) (b := 0) (by omega) (by decide) (kRe (a := (W - (co * x2))) (b := R) (kS (a := W) (b := (co * x2)) hW (kMu (a := co) (b := x2) hco hx2) hW2) hR (by omega) (by omega) (by omega)) (rfl : (0 : Int32) = nI 0)).mp h291
                                          refine kw_iload (pc := 294) dL_hangs_294 rfl ?_
                                          refine kw_iload (pc := 296) dL_hangs_296 rfl ?_
                                          refine kw_icmp_lt (tgt := 350) (pc := 298) dL_hangs_298 (by decide) (fun h298 => ?_) (fun h298 => ?_)
                                          · have h298 := (kLtI (a := (W - (co * x2))) (b := R) (Nat.lt_of_le_of_lt (Nat.sub_le _ _) LW) LR (kS (a := W) (b := (co * x2)) hW (kMu (a := co) (b := x2) hco hx2) hW2) hR).mp h298
                                            exfalso; omega
                                          · have h298 := mt (kLtI (a := (W - (co * x2))) (b := R) (Nat.lt_of_le_of_lt (Nat.sub_le _ _) LW) LR (kS (a := W) (b := (co * x2)) hW (kMu (a := co) (b := x2) hco hx2) hW2) hR).mpr h298
                                            have e4 : moN s0 (k + 1) = moN s0 k := if_neg (fun q => hr0 q.1)
                                            exact kW.locs t301 ⟨rfl, kgE rfl (cnt_f hr0).symm, kgE rfl (odd_f ho).symm, kgE rfl (sum_f hr0).symm, kgE rfl e4.symm, rfl, kgE rfl hco, rfl, trivial⟩
                                      · have h281 := (kEqI (a := R) (b := 0) LR (by decide) hR (rfl : (0 : Int32) = nI 0)).mp h281
                                        refine kw_iconst (v := 1) (pc := 284) dL_hangs_284 (by decide) ?_
                                        refine kw_goto (tgt := 290) (pc := 285) dL_hangs_285 (by decide) ?_
                                        refine kw_irem (pc := 290) dL_hangs_290 (by decide) ?_
                                        refine kw_if_ne (tgt := 350) (pc := 291) dL_hangs_291 (by decide) (fun h291 => ?_) (fun h291 => ?_)
                                        · have h291 := mt (kEqI (a := ((W - (co * x2)) % 1)) (b := 0) (by omega) (by decide) (kRe (a := (W - (co * x2))) (b := 1) (kS (a := W) (b := (co * x2)) hW (kMu (a := co) (b := x2) hco hx2) hW2) (rfl : (1 : Int32) = nI 1) (by omega) (by omega) (by omega)) (rfl : (0 : Int32) = nI 0)).mpr h291
                                          exfalso; omega
                                        · have h291 := (kEqI (a := ((W - (co * x2)) % 1)) (b := 0) (by omega) (by decide) (kRe (a := (W - (co * x2))) (b := 1) (kS (a := W) (b := (co * x2)) hW (kMu (a := co) (b := x2) hco hx2) hW2) (rfl : (1 : Int32) = nI 1) (by omega) (by omega) (by omega)) (rfl : (0 : Int32) = nI 0)).mp h291
                                          refine kw_iload (pc := 294) dL_hangs_294 rfl ?_
                                          refine kw_iload (pc := 296) dL_hangs_296 rfl ?_
                                          refine kw_icmp_lt (tgt := 350) (pc := 298) dL_hangs_298 (by decide) (fun h298 => ?_) (fun h298 => ?_)
                                          · have h298 := (kLtI (a := (W - (co * x2))) (b := R) (Nat.lt_of_le_of_lt (Nat.sub_le _ _) LW) LR (kS (a := W) (b := (co * x2)) hW (kMu (a := co) (b := x2) hco hx2) hW2) hR).mp h298
                                            exfalso; omega
                                          · have h298 := mt (kLtI (a := (W - (co * x2))) (b := R) (Nat.lt_of_le_of_lt (Nat.sub_le _ _) LW) LR (kS (a := W) (b := (co * x2)) hW (kMu (a := co) (b := x2) hco hx2) hW2) hR).mpr h298
                                            have e4 : moN s0 (k + 1) = moN s0 k := if_neg (fun q => hr0 q.1)
                                            exact kW.locs t301 ⟨rfl, kgE rfl (cnt_f hr0).symm, kgE rfl (odd_f ho).symm, kgE rfl (sum_f hr0).symm, kgE rfl e4.symm, rfl, kgE rfl hco, rfl, trivial⟩
                                  · have h261 := mt (kLtI (a := (2 * (b + d))) (b := Z) (by omega) LZ (kMu (a := 2) (b := (b + d)) (rfl : (2 : Int32) = nI 2) (kA (a := b) (b := d) hb hd)) hZ).mpr h261
                                    refine kw_aload_n (pc := 264) dL_hangs_264 rfl ?_
                                    refine kw_iconst (v := 0) (pc := 265) dL_hangs_265 (by decide) ?_
                                    refine kw_callSr (pc := 266) dL_hangs_266 lL_102 (V0.settingE (j := 0) h.v (rfl : (0 : Int32) = nI 0) (by decide)) rfl rfl ⟨by decide, by decide, Nat.le_of_ble_eq_true rfl⟩ ?_
                                    refine kw_if_gt (tgt := 350) (pc := 269) dL_hangs_269 (by decide) (fun h269 => ?_) (fun h269 => ?_)
                                    · have h269 := (kLtI (a := 0) (b := x0) (by decide) Lx0 (rfl : (0 : Int32) = nI 0) hx0).mp h269
                                      exfalso; omega
                                    · have h269 := mt (kLtI (a := 0) (b := x0) (by decide) Lx0 (rfl : (0 : Int32) = nI 0) hx0).mpr h269
                                      refine kw_iload (pc := 272) dL_hangs_272 rfl ?_
                                      refine kw_if_ne (tgt := 294) (pc := 274) dL_hangs_274 (by decide) (fun h274 => ?_) (fun h274 => ?_)
                                      · exact absurd (by decide) h274
                                      · refine kw_iload (pc := 277) dL_hangs_277 rfl ?_
                                        refine kw_iload (pc := 279) dL_hangs_279 rfl ?_
                                        refine kw_if_ne (tgt := 288) (pc := 281) dL_hangs_281 (by decide) (fun h281 => ?_) (fun h281 => ?_)
                                        · have h281 := mt (kEqI (a := R) (b := 0) LR (by decide) hR (rfl : (0 : Int32) = nI 0)).mpr h281
                                          refine kw_iload (pc := 288) dL_hangs_288 rfl ?_
                                          refine kw_irem (pc := 290) dL_hangs_290 (fun q => absurd ((kEqI (a := R) (b := 0) (by omega) (by omega) hR (rfl : (0 : Int32) = nI 0)).mp q) (by omega)) ?_
                                          refine kw_if_ne (tgt := 350) (pc := 291) dL_hangs_291 (by decide) (fun h291 => ?_) (fun h291 => ?_)
                                          · have h291 := mt (kEqI (a := ((W - (co * x2)) % R)) (b := 0) (by omega) (by decide) (kRe (a := (W - (co * x2))) (b := R) (kS (a := W) (b := (co * x2)) hW (kMu (a := co) (b := x2) hco hx2) hW2) hR (by omega) (by omega) (by omega)) (rfl : (0 : Int32) = nI 0)).mpr h291
                                            exfalso; omega
                                          · have h291 := (kEqI (a := ((W - (co * x2)) % R)) (b := 0) (by omega) (by decide) (kRe (a := (W - (co * x2))) (b := R) (kS (a := W) (b := (co * x2)) hW (kMu (a := co) (b := x2) hco hx2) hW2) hR (by omega) (by omega) (by omega)) (rfl : (0 : Int32) = nI 0)).mp h291
                                            refine kw_iload (pc := 294) dL_hangs_294 rfl ?_
                                            refine kw_iload (pc := 296) dL_hangs_296 rfl ?_
                                            refine kw_icmp_lt (tgt := 350) (pc := 298) dL_hangs_298 (by decide) (fun h298 => ?_) (fun h298 => ?_)
                                            · have h298 := (kLtI (a := (W - (co * x2))) (b := R) (Nat.lt_of_le_of_lt (Nat.sub_le _ _) LW) LR (kS (a := W) (b := (co * x2)) hW (kMu (a := co) (b := x2) hco hx2) hW2) hR).mp h298
                                              exfalso; omega
                                            · have h298 := mt (kLtI (a := (W - (co * x2))) (b := R) (Nat.lt_of_le_of_lt (Nat.sub_le _ _) LW) LR (kS (a := W) (b := (co * x2)) hW (kMu (a := co) (b := x2) hco hx2) hW2) hR).mpr h298
                                              have e4 : moN s0 (k + 1) = moN s0 k := if_neg (fun q => hr0 q.1)
                                              exact kW.locs t301 ⟨rfl, kgE rfl (cnt_f hr0).symm, kgE rfl (odd_f ho).symm, kgE rfl (sum_f hr0).symm, kgE rfl e4.symm, rfl, kgE rfl hco, rfl, trivial⟩
                                        · have h281 := (kEqI (a := R) (b := 0) LR (by decide) hR (rfl : (0 : Int32) = nI 0)).mp h281
                                          refine kw_iconst (v := 1) (pc := 284) dL_hangs_284 (by decide) ?_
                                          refine kw_goto (tgt := 290) (pc := 285) dL_hangs_285 (by decide) ?_
                                          refine kw_irem (pc := 290) dL_hangs_290 (by decide) ?_
                                          refine kw_if_ne (tgt := 350) (pc := 291) dL_hangs_291 (by decide) (fun h291 => ?_) (fun h291 => ?_)
                                          · have h291 := mt (kEqI (a := ((W - (co * x2)) % 1)) (b := 0) (by omega) (by decide) (kRe (a := (W - (co * x2))) (b := 1) (kS (a := W) (b := (co * x2)) hW (kMu (a := co) (b := x2) hco hx2) hW2) (rfl : (1 : Int32) = nI 1) (by omega) (by omega) (by omega)) (rfl : (0 : Int32) = nI 0)).mpr h291
                                            exfalso; omega
                                          · have h291 := (kEqI (a := ((W - (co * x2)) % 1)) (b := 0) (by omega) (by decide) (kRe (a := (W - (co * x2))) (b := 1) (kS (a := W) (b := (co * x2)) hW (kMu (a := co) (b := x2) hco hx2) hW2) (rfl : (1 : Int32) = nI 1) (by omega) (by omega) (by omega)) (rfl : (0 : Int32) = nI 0)).mp h291
                                            refine kw_iload (pc := 294) dL_hangs_294 rfl ?_
                                            refine kw_iload (pc := 296) dL_hangs_296 rfl ?_
                                            refine kw_icmp_lt (tgt := 350) (pc := 298) dL_hangs_298 (by decide) (fun h298 => ?_) (fun h298 => ?_)
                                            · have h298 := (kLtI (a := (W - (co * x2))) (b := R) (Nat.lt_of_le_of_lt (Nat.sub_le _ _) LW) LR (kS (a := W) (b := (co * x2)) hW (kMu (a := co) (b := x2) hco hx2) hW2) hR).mp h298
                                              exfalso; omega
                                            · have h298 := mt (kLtI (a := (W - (co * x2))) (b := R) (Nat.lt_of_le_of_lt (Nat.sub_le _ _) LW) LR (kS (a := W) (b := (co * x2)) hW (kMu (a := co) (b := x2) hco hx2) hW2) hR).mpr h298
                                              have e4 : moN s0 (k + 1) = moN s0 k := if_neg (fun q => hr0 q.1)
                                              exact kW.locs t301 ⟨rfl, kgE rfl (cnt_f hr0).symm, kgE rfl (odd_f ho).symm, kgE rfl (sum_f hr0).symm, kgE rfl e4.symm, rfl, kgE rfl hco, rfl, trivial⟩
                      · exact absurd (by decide) h164
                    · exact absurd (by decide) h151
                  · exact absurd (by decide) h138
                · exact absurd (by decide) h125
              · have h112 := mt (kLeI (a := gi) (b := x1) Lgi Lx1 hG hx1).mpr h112
                exfalso; omega
            · have h76 := (kEqI (a := r) (b := 0) Lr (by decide) hr (rfl : (0 : Int32) = nI 0)).mp h76
              exfalso; omega
  refine kw_iconst (v := 0) (pc := 0) dL_hangs_0 (by decide) ?_
  refine kw_istore_n (pc := 1) dL_hangs_1 (by decide) rfl ?_
  refine kW.locs (L' := [(0, _), (1, _)]) ?_ ⟨rfl, rfl, trivial⟩
  refine kw_iconst (v := 0) (pc := 2) dL_hangs_2 (by decide) ?_
  refine kw_istore_n (pc := 3) dL_hangs_3 (by decide) rfl ?_
  refine kW.locs (L' := [(0, _), (1, _), (2, _)]) ?_ ⟨rfl, rfl, rfl, trivial⟩
  refine kw_iconst (v := 0) (pc := 4) dL_hangs_4 (by decide) ?_
  refine kw_istore_n (pc := 5) dL_hangs_5 (by decide) rfl ?_
  refine kW.locs (L' := [(0, _), (1, _), (2, _), (3, _)]) ?_ ⟨rfl, rfl, rfl, rfl, trivial⟩
  refine kw_iconst (v := -1) (pc := 6) dL_hangs_6 (by decide) ?_
  refine kw_istore (pc := 7) dL_hangs_7 (by decide) rfl ?_
  refine kW.locs (L' := [(0, _), (1, _), (2, _), (3, _), (4, _)]) ?_ ⟨rfl, rfl, rfl, rfl, rfl, trivial⟩
  refine kw_iconst (v := 0) (pc := 9) dL_hangs_9 (by decide) ?_
  refine kw_istore (pc := 10) dL_hangs_10 (by decide) rfl ?_
  exact kW.locs (loop (c - 0) 0 rfl (Nat.zero_le _)) ⟨rfl, rfl, rfl, rfl, rfl, rfl, trivial⟩
end HG
