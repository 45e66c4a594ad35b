set_option maxRecDepth 100000 in
set_option maxHeartbeats 4000000 in
theorem lw_clear {X : Nat × (Nat → Int32)} {rc rs n i : Nat} {w : kM} {s : Nat → Int32} {q : Nat} {kp bf : Nat → Int32} {T c : Nat} (J : JS w s q kp bf T c) (K : KK X rc rs i) : kW X mL_law 14 QL rc rs n w 780 (L5 i) [] := by
  obtain ⟨C, M, ho, ok, tx⟩ := J
  have hc := ok.1.2.1
  have h7 := ok.1.1
  refine kw_aload_n (pc := 780) dL_law_780 rfl ?_
  refine kw_callVw1 (pc := 781) dL_law_781 lL_120 (c5_clear C) C.1 rfl rfl rfl ⟨by decide, by decide, Nat.le_of_ble_eq_true rfl⟩ (fun w1 hw1 => ?_)
  obtain ⟨C1, F1⟩ := hw1
  have M1 := M.fr (w' := w1) (fun a h1 h2 => F1 a h1)
  obtain ⟨FM, hFM⟩ := M1.ob
  obtain ⟨f, hf⟩ := ho
  have hf := (F1 134 (by decide)).trans hf
  refine kw_aload_n (pc := 784) dL_law_784 rfl ?_
  refine kw_callVw1 (pc := 785) dL_law_785 lL_123 (M1.use (fun _ _ _ _ => c_clearBuffer)) hFM rfl rfl rfl ⟨by decide, by decide, Nat.le_of_ble_eq_true rfl⟩ (fun w2 hw2 => ?_)
  obtain ⟨s2, co2, ma2, sp2, e2, ha2⟩ := hw2
  have J2 := JS.next C1 ⟨f, hf⟩ e2 ha2 ok ⟨Nat.zero_le _, fun j hj => absurd hj (Nat.not_lt_zero j)⟩
  refine kw_icmp_eq (tgt := 1502) (pc := 788) dL_law_788 (by decide) (fun _ => ?_) (fun h => absurd rfl h)
  exact kW.locs (kW.less (Nat.sub_le _ _) (Nat.sub_le _ _) (K w2 n s2 _ _ _ _ _ J2)) ⟨rfl, rfl, rfl, rfl, rfl, trivial⟩
set_option maxRecDepth 100000 in
set_option maxHeartbeats 4000000 in
theorem lw_first {X : Nat × (Nat → Int32)} {rc rs n i : Nat} {w : kM} {s : Nat → Int32} {q : Nat} {kp bf : Nat → Int32} {T c : Nat} (J : JS w s q kp bf T c) (K : KK X rc rs i) : kW X mL_law 14 QL rc rs n w 793 (L5 i) [] := by
  obtain ⟨C, M, ho, ok, tx⟩ := J
  have hc := ok.1.2.1
  have h7 := ok.1.1
  refine kw_aload_n (pc := 793) dL_law_793 rfl ?_
  refine kw_callVw1 (pc := 794) dL_law_794 lL_124 (c5_firstError C) C.1 rfl rfl rfl ⟨by decide, by decide, Nat.le_of_ble_eq_true rfl⟩ (fun w1 hw1 => ?_)
  obtain ⟨C1, F1⟩ := hw1
  have M1 := M.fr (w' := w1) (fun a h1 h2 => F1 a h1)
  obtain ⟨FM, hFM⟩ := M1.ob
  obtain ⟨f, hf⟩ := ho
  have hf := (F1 134 (by decide)).trans hf
  refine kw_aload_n (pc := 797) dL_law_797 rfl ?_
  refine kw_callVw1 (pc := 798) dL_law_798 lL_127 (M1.use (fun _ _ _ _ => c_firstError rfl tx.1 tx.2)) hFM rfl rfl rfl ⟨by decide, by decide, Nat.le_of_ble_eq_true rfl⟩ (fun w2 hw2 => ?_)
  obtain ⟨s2, co2, ma2, sp2, e2, ha2⟩ := hw2
  have J2 := JS.next C1 ⟨f, hf⟩ e2 ha2 ok tx
  refine kw_icmp_eq (tgt := 1502) (pc := 801) dL_law_801 (by decide) (fun _ => ?_) (fun h => absurd rfl h)
  exact kW.locs (kW.less (Nat.sub_le _ _) (Nat.sub_le _ _) (K w2 n s2 _ _ _ _ _ J2)) ⟨rfl, rfl, rfl, rfl, rfl, trivial⟩
set_option maxRecDepth 100000 in
set_option maxHeartbeats 4000000 in
theorem lw_dearest {X : Nat × (Nat → Int32)} {rc rs n i : Nat} {w : kM} {s : Nat → Int32} {q : Nat} {kp bf : Nat → Int32} {T c : Nat} (J : JS w s q kp bf T c) (K : KK X rc rs i) : kW X mL_law 14 QL rc rs n w 1434 (L5 i) [] := by
  obtain ⟨C, M, ho, ok, tx⟩ := J
  have hc := ok.1.2.1
  have h7 := ok.1.1
  refine kw_aload_n (pc := 1434) dL_law_1434 rfl ?_
  refine kw_callVw1 (pc := 1435) dL_law_1435 lL_162 ((c5_dearest C hc h7 (fun k hk => (ok.1.fine.2.2.1 k hk).1)).toW (P := clP w s q kp bf T) ⟨C, fun _ _ => rfl⟩) C.1 rfl rfl rfl ⟨by decide, by decide, Nat.le_of_ble_eq_true rfl⟩ (fun w1 hw1 => ?_)
  obtain ⟨C1, F1⟩ := hw1
  have M1 := M.fr (w' := w1) (fun a h1 h2 => F1 a h1)
  obtain ⟨FM, hFM⟩ := M1.ob
  obtain ⟨f, hf⟩ := ho
  have hf := (F1 134 (by decide)).trans hf
  refine kw_aload_n (pc := 1438) dL_law_1438 rfl ?_
  refine kw_callVw1 (pc := 1439) dL_law_1439 lL_165 (M1.use (fun _ _ _ _ => c_dearest hc h7 (fun k hk => (ok.1.fine.2.2.1 k hk).1))) hFM rfl rfl rfl ⟨by decide, by decide, Nat.le_of_ble_eq_true rfl⟩ (fun w2 hw2 => ?_)
  obtain ⟨s2, co2, ma2, sp2, e2, ha2⟩ := hw2
  have J2 := JS.next C1 ⟨f, hf⟩ e2 ha2 ok tx
  refine kw_icmp_eq (tgt := 1502) (pc := 1442) dL_law_1442 (by decide) (fun _ => ?_) (fun h => absurd rfl h)
  exact kW.locs (kW.less (Nat.sub_le _ _) (Nat.sub_le _ _) (K w2 n s2 _ _ _ _ _ J2)) ⟨rfl, rfl, rfl, rfl, rfl, trivial⟩
set_option maxRecDepth 100000 in
set_option maxHeartbeats 4000000 in
theorem lw_share {X : Nat × (Nat → Int32)} {rc rs n i : Nat} {w : kM} {s : Nat → Int32} {q : Nat} {kp bf : Nat → Int32} {T c : Nat} (J : JS w s q kp bf T c) (K : KK X rc rs i) : kW X mL_law 14 QL rc rs n w 1447 (L5 i) [] := by
  obtain ⟨C, M, ho, ok, tx⟩ := J
  have hc := ok.1.2.1
  have h7 := ok.1.1
  refine kw_aload_n (pc := 1447) dL_law_1447 rfl ?_
  refine kw_callVw1 (pc := 1448) dL_law_1448 lL_166 (c5_savedShare C hc h7 ok.1.fine ok.1.nn) C.1 rfl rfl rfl ⟨by decide, by decide, Nat.le_of_ble_eq_true rfl⟩ (fun w1 hw1 => ?_)
  obtain ⟨C1, F1⟩ := hw1
  have M1 := M.fr (w' := w1) (fun a h1 h2 => F1 a h1)
  obtain ⟨FM, hFM⟩ := M1.ob
  obtain ⟨f, hf⟩ := ho
  have hf := (F1 134 (by decide)).trans hf
  refine kw_dstore (pc := 1451) dL_law_1451 (by decide) rfl ?_
  refine kw_aload_n (pc := 1453) dL_law_1453 rfl ?_
  refine kw_callVw1 (pc := 1454) dL_law_1454 lL_170 (M1.use (fun _ _ _ _ => c_savedShare ok.1.fine)) hFM rfl rfl rfl ⟨by decide, by decide, Nat.le_of_ble_eq_true rfl⟩ (fun w2 hw2 => ?_)
  obtain ⟨s2, co2, ma2, sp2, e2, ha2⟩ := hw2
  have J2 := JS.next C1 ⟨f, hf⟩ e2 ha2 ok tx
  refine kw_dstore (pc := 1457) dL_law_1457 (by decide) rfl ?_
  refine kw_dload (pc := 1459) dL_law_1459 rfl ?_
  refine kw_dload (pc := 1461) dL_law_1461 rfl ?_
  refine kw_dcmp (pc := 1463) dL_law_1463 ?_
  refine kw_if_eq (tgt := 1485) (pc := 1464) dL_law_1464 (by decide) (fun _ => ?_) (fun h => absurd (by rw [show FP.dcmp (shS s c) (shS s c) = some .eq from Jvm.FP.Core.dcmp_refl (shV_ok _ _)]; rfl) h)
  refine kw_goto (tgt := 1502) (pc := 1485) dL_law_1485 (by decide) ?_
  exact kW.locs (kW.less (Nat.sub_le _ _) (Nat.sub_le _ _) (K w2 n s2 _ _ _ _ _ J2)) ⟨rfl, rfl, rfl, rfl, rfl, trivial⟩
set_option maxRecDepth 100000 in
set_option maxHeartbeats 4000000 in
theorem lw_digest {X : Nat × (Nat → Int32)} {rc rs n i : Nat} {w : kM} {s : Nat → Int32} {q : Nat} {kp bf : Nat → Int32} {T c : Nat} (J : JS w s q kp bf T c) (K : KK X rc rs i) : kW X mL_law 14 QL rc rs n w 1488 (L5 i) [] := by
  obtain ⟨C, M, ho, ok, tx⟩ := J
  have hc := ok.1.2.1
  have h7 := ok.1.1
  refine kw_aload_n (pc := 1488) dL_law_1488 rfl ?_
  refine kw_callVw1 (pc := 1489) dL_law_1489 lL_171 (c5_digest C hc h7 ok.1.fine ok.1.nn (try_alike ok.1) (share_ok ok.1)) C.1 rfl rfl rfl ⟨by decide, by decide, Nat.le_of_ble_eq_true rfl⟩ (fun w1 hw1 => ?_)
  obtain ⟨C1, F1⟩ := hw1
  have M1 := M.fr (w' := w1) (fun a h1 h2 => F1 a h1)
  obtain ⟨FM, hFM⟩ := M1.ob
  obtain ⟨f, hf⟩ := ho
  have hf := (F1 134 (by decide)).trans hf
  refine kw_aload_n (pc := 1492) dL_law_1492 rfl ?_
  refine kw_callVw1 (pc := 1493) dL_law_1493 lL_175 (M1.use (fun _ _ _ _ => c_digest rfl tx.1 ok.1.fine)) hFM rfl rfl rfl ⟨by decide, by decide, Nat.le_of_ble_eq_true rfl⟩ (fun w2 hw2 => ?_)
  obtain ⟨s2, co2, ma2, sp2, e2, ha2⟩ := hw2
  have J2 := JS.next C1 ⟨f, hf⟩ e2 ha2 ok tx
  refine kw_lcmp (pc := 1496) dL_law_1496 ?_
  refine kw_if_eq (tgt := 1502) (pc := 1497) dL_law_1497 (by decide) (fun _ => ?_) (fun h => absurd lgc0 h)
  exact kW.locs (kW.less (Nat.sub_le _ _) (Nat.sub_le _ _) (K w2 n s2 _ _ _ _ _ J2)) ⟨rfl, rfl, rfl, rfl, rfl, trivial⟩
theorem and31 (x : Int32) : ∃ k, k < 32 ∧ x &&& 31 = nI k := by
  refine ⟨(x &&& 31).toBitVec.toNat, ?_, ?_⟩
  · rw [Int32.toBitVec_and, BitVec.toNat_and]
    exact Nat.lt_succ_of_le (Nat.le_trans Nat.and_le_right (by decide))
  · rw [← Int32.toBitVec_inj]
    show _ = (Int32.ofNat _).toBitVec
    rw [Int32.toBitVec_ofNat']
    simp
theorem end_iff {i L : Nat} (hi : i ≤ 3072) (hL : L ≤ 3072) : nI L - 6 < nI i ↔ L < i + 6 := by
  rw [show (6 : Int32) = nI 6 from rfl, Int32.lt_iff_toInt_lt, sub_toInt (by omega) (by omega), nI_toInt (by omega)]
  omega
set_option maxRecDepth 100000 in
set_option maxHeartbeats 8000000 in
theorem law_loop {X : Nat × (Nat → Int32)} (hX : X.1 ≤ 3072) : ∀ (m i : Nat), m = X.1 - i → i ≤ X.1 → ∀ (rc rs n : Nat) (w : kM) (s : Nat → Int32) (q : Nat) (kp bf : Nat → Int32) (T c : Nat), JS w s q kp bf T c → X.1 - i ≤ rc → 6 * (X.1 - i) ≤ rs → kW X mL_law 14 QL rc rs n w 23 (L5 i) [] := by
  intro m
  induction m using Nat.strongRecOn with
  | _ m ih =>
    intro i hm hi rc rs n w s q kp bf T c J hrc hrs
    refine kw_iload (pc := 23) dL_law_23 rfl ?_
    refine kw_aload_nS (pc := 25) dL_law_25 rfl ?_
    refine kw_slen (pc := 26) (v := nI X.1) rfl dL_law_26 rfl ?_
    refine kw_bipush (v := 6) (pc := 27) dL_law_27 (by decide) ?_
    refine kw_isub (pc := 29) dL_law_29 ?_
    refine kw_icmp_gt (tgt := 1508) (pc := 30) dL_law_30 (by decide) (fun _ => ?_) (fun h30 => ?_)
    · refine kw_iconst (v := 1) (pc := 1508) dL_law_1508 (by decide) ?_
      exact kw_lawReturn rfl (pc := 1509) dL_law_1509 rfl
    · have hi6 : i + 6 ≤ X.1 := by have := mt (end_iff (by omega) hX).mpr h30; omega
      refine kw_aload_nS (pc := 33) dL_law_33 rfl ?_
      refine kw_iload (pc := 34) dL_law_34 rfl ?_
      refine kw_sldN (pc := 36) (i := i) rfl dL_law_36 rfl (by omega) hX ?_
      refine kw_bipush (v := 31) (pc := 37) dL_law_37 (by decide) ?_
      refine kw_iand (pc := 39) dL_law_39 ?_
      have K : KK X rc rs i := fun w2 n2 s2 q2 kp2 bf2 T2 c2 J2 => by
        refine kw_iinc (pc := 1502) dL_law_1502 (by decide) rfl rfl rfl ?_
        refine kw_goto (tgt := 23) (pc := 1505) dL_law_1505 (by decide) ?_
        exact kW.locs (ih (X.1 - (i + 6)) (by omega) (i + 6) rfl (by omega) (rc - 1) (rs - 6) n2 w2 s2 q2 kp2 bf2 T2 c2 J2 (by omega) (by omega)) ⟨rfl, rfl, rfl, rfl, kgE rfl (kA (a := i) (b := 6) rfl (rfl : (Int32.ofInt 6) = nI 6)), trivial⟩
      obtain ⟨k, hk, ek⟩ := and31 (X.2 i)
      rw [ek]
      match k, hk with
      | 0, _ => exact kw_tableIn (off := 116) (tgt := 156) (pc := 40) dL_law_40 (by decide) (by decide) (by decide) (by decide) (lw_bring hi6 hX (by omega) (by omega) J (op_bring J _ _ _ _ _) K)
      | 1, _ => exact kw_tableIn (off := 220) (tgt := 260) (pc := 40) dL_law_40 (by decide) (by decide) (by decide) (by decide) (lw_change hi6 hX (by omega) (by omega) J (op_change J _ _ _) K)
      | 2, _ => exact kw_tableIn (off := 300) (tgt := 340) (pc := 40) dL_law_40 (by decide) (by decide) (by decide) (by decide) (lw_send hi6 hX (by omega) (by omega) J (op_send J _) K)
      | 3, _ => exact kw_tableIn (off := 356) (tgt := 396) (pc := 40) dL_law_40 (by decide) (by decide) (by decide) (by decide) (lw_dispute hi6 hX (by omega) (by omega) J (op_dispute J _ _) K)
      | 4, _ => exact kw_tableIn (off := 424) (tgt := 464) (pc := 40) dL_law_40 (by decide) (by decide) (by decide) (by decide) (lw_takeBack hi6 hX (by omega) (by omega) J (op_takeBack J _) K)
      | 5, _ => exact kw_tableIn (off := 480) (tgt := 520) (pc := 40) dL_law_40 (by decide) (by decide) (by decide) (by decide) (lw_price hi6 hX (by omega) (by omega) J (op_price J _ _) K)
      | 6, _ => exact kw_tableIn (off := 548) (tgt := 588) (pc := 40) dL_law_40 (by decide) (by decide) (by decide) (by decide) (lw_zone hi6 hX (by omega) (by omega) J (op_zone J _ _) K)
      | 7, _ => exact kw_tableIn (off := 616) (tgt := 656) (pc := 40) dL_law_40 (by decide) (by decide) (by decide) (by decide) (lw_set hi6 hX (by omega) (by omega) J (op_set J _ _) K)
      | 8, _ => exact kw_tableIn (off := 684) (tgt := 724) (pc := 40) dL_law_40 (by decide) (by decide) (by decide) (by decide) (lw_append hi6 hX (by omega) (by omega) J (op_append J _) K)
      | 9, _ => exact kw_tableIn (off := 740) (tgt := 780) (pc := 40) dL_law_40 (by decide) (by decide) (by decide) (by decide) (lw_clear J K)
      | 10, _ => exact kw_tableIn (off := 753) (tgt := 793) (pc := 40) dL_law_40 (by decide) (by decide) (by decide) (by decide) (lw_first J K)
      | 11, _ => exact kw_tableIn (off := 766) (tgt := 806) (pc := 40) dL_law_40 (by decide) (by decide) (by decide) (by decide) (lw_run hi6 hX (by omega) (by omega) J (op_run J) K)
      | 12, _ => exact kw_tableIn (off := 810) (tgt := 850) (pc := 40) dL_law_40 (by decide) (by decide) (by decide) (by decide) (lw_keep hi6 hX (by omega) (by omega) J (op_keep J _) K)
      | 13, _ => exact kw_tableIn (off := 866) (tgt := 906) (pc := 40) dL_law_40 (by decide) (by decide) (by decide) (by decide) (lw_goBack hi6 hX (by omega) (by omega) J (op_goBack J _) K)
      | 14, _ => exact kw_tableIn (off := 922) (tgt := 962) (pc := 40) dL_law_40 (by decide) (by decide) (by decide) (by decide) (lw_undo hi6 hX (by omega) (by omega) J (op_undo J) K)
      | 15, _ => exact kw_tableIn (off := 966) (tgt := 1006) (pc := 40) dL_law_40 (by decide) (by decide) (by decide) (by decide) (lw_parcelOf hi6 hX (by omega) (by omega) J (op_parcelOf J _ _) K)
      | 16, _ => exact kw_tableIn (off := 1034) (tgt := 1074) (pc := 40) dL_law_40 (by decide) (by decide) (by decide) (by decide) (lw_rate hi6 hX (by omega) (by omega) J (op_rate J _ _) K)
      | 17, _ => exact kw_tableIn (off := 1102) (tgt := 1142) (pc := 40) dL_law_40 (by decide) (by decide) (by decide) (by decide) (lw_count hi6 hX (by omega) (by omega) J (op_count J _) K)
      | 18, _ => exact kw_tableIn (off := 1158) (tgt := 1198) (pc := 40) dL_law_40 (by decide) (by decide) (by decide) (by decide) (lw_setting hi6 hX (by omega) (by omega) J (op_setting J _) K)
      | 19, _ => exact kw_tableIn (off := 1214) (tgt := 1254) (pc := 40) dL_law_40 (by decide) (by decide) (by decide) (by decide) (lw_cheapestWay hi6 hX (by omega) (by omega) J (op_cheapestWay J _) K)
      | 20, _ => exact kw_tableIn (off := 1270) (tgt := 1310) (pc := 40) dL_law_40 (by decide) (by decide) (by decide) (by decide) (lw_ifBundled hi6 hX (by omega) (by omega) J (op_ifBundled J _ _) K)
      | 21, _ => exact kw_tableIn (off := 1338) (tgt := 1378) (pc := 40) dL_law_40 (by decide) (by decide) (by decide) (by decide) (lw_cheapest hi6 hX (by omega) (by omega) J (op_cheapest J _) K)
      | 22, _ => exact kw_tableIn (off := 1394) (tgt := 1434) (pc := 40) dL_law_40 (by decide) (by decide) (by decide) (by decide) (lw_dearest J K)
      | 23, _ => exact kw_tableIn (off := 1407) (tgt := 1447) (pc := 40) dL_law_40 (by decide) (by decide) (by decide) (by decide) (lw_share J K)
      | 24, _ => exact kw_tableIn (off := 1448) (tgt := 1488) (pc := 40) dL_law_40 (by decide) (by decide) (by decide) (by decide) (lw_digest J K)
      | 25, _ => exact kw_tableOut (tgt := 1502) (pc := 40) dL_law_40 (by decide) (by decide) (kW.less (Nat.sub_le _ _) (Nat.sub_le _ _) (K w n s q kp bf T c J))
      | 26, _ => exact kw_tableOut (tgt := 1502) (pc := 40) dL_law_40 (by decide) (by decide) (kW.less (Nat.sub_le _ _) (Nat.sub_le _ _) (K w n s q kp bf T c J))
      | 27, _ => exact kw_tableOut (tgt := 1502) (pc := 40) dL_law_40 (by decide) (by decide) (kW.less (Nat.sub_le _ _) (Nat.sub_le _ _) (K w n s q kp bf T c J))
      | 28, _ => exact kw_tableOut (tgt := 1502) (pc := 40) dL_law_40 (by decide) (by decide) (kW.less (Nat.sub_le _ _) (Nat.sub_le _ _) (K w n s q kp bf T c J))
      | 29, _ => exact kw_tableOut (tgt := 1502) (pc := 40) dL_law_40 (by decide) (by decide) (kW.less (Nat.sub_le _ _) (Nat.sub_le _ _) (K w n s q kp bf T c J))
      | 30, _ => exact kw_tableOut (tgt := 1502) (pc := 40) dL_law_40 (by decide) (by decide) (kW.less (Nat.sub_le _ _) (Nat.sub_le _ _) (K w n s q kp bf T c J))
      | 31, _ => exact kw_tableOut (tgt := 1502) (pc := 40) dL_law_40 (by decide) (by decide) (kW.less (Nat.sub_le _ _) (Nat.sub_le _ _) (K w n s q kp bf T c J))
      | k + 32, hk => exact absurd hk (by omega)
