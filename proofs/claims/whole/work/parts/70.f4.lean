section KZ
variable {X : Nat × (Nat → Int32)} {M : kMi} {dd : Nat} {Q : kQ} {rc rs n : Nat} {w : kM} {L : List (Nat × Value)} {st : List Value}
theorem kw_zastoreT {pc a N i : Nat} {f : Nat → Int32} {j x : Int32} (d : decode M.2.1 pc = .ok (.bastore, 1)) (h : w a = kI 1 N (tr N f)) (hj : j = nI i) (hi : i < N) (hN : N < 100000) (hz : narrow .boolean (.int x) = .int x) (kk : kW X M dd Q rc rs n (kup w a (kI 1 N (tr N (kuf f i x)))) (pc + 1) L st) : kW X M dd Q rc rs n w pc L (.int x :: .int j :: .ref a :: st) := by
  refine kw_zastoreN d h hj hi hN hz ?_
  rw [tr_s hi]
  exact kk
end KZ
theorem cpR_hi {s : Nat → Int32} {f i : Nat} (h : 75 ≤ i) : cpR s f 0 75 i = s i := by
  unfold cpR
  rw [if_neg (by omega)]
theorem cpR_0row {s : Nat → Int32} {f i : Nat} (h : i < 75) : cpR s f 0 75 i = s (75 * f + i) := by
  unfold cpR
  rw [if_pos (by omega), show 75 * f + (i - 75 * 0) = 75 * f + i by omega]
theorem cls.keep {w w' : kM} {s : Nat → Int32} {q : Nat} {kp bf : Nat → Int32} {T b : Nat} (C : cls w s q kp bf T) (hb : b < 2) (ho : offR w' (104 + 12 * b) s) (hk : w' 14 = kI 1 2 (tr 2 (kuf kp b 1))) (h : ∀ a, a ≠ 14 → (a < 104 + 12 * b ∨ 104 + 12 * b + 12 ≤ a) → w' a = w a) : cls w' (cpR s 0 (7 + b) 75) q (kuf kp b 1) bf T := by
  have h6 := C.q6
  have lo : ∀ i, i < 525 → cpR s 0 (7 + b) 75 i = s i := fun i hi => by
    unfold cpR
    rw [if_neg (by omega)]
  refine ⟨(h _ (by omega) (by omega)).trans C.1, (C.2.1.fr (fun k _ _ => h k (by omega) (by omega))).cg (fun i hi => lo i (by omega)), (C.2.2.1.fr (fun k _ _ => h k (by omega) (by omega))).cg (fun i hi j hj => lo _ (by omega)), ⟨(h _ (by omega) (by omega)).trans C.2.2.2.1.1, hk, fun b' hb' => ?_, fun b' hb' hk' => ?_⟩, C.2.2.2.2.1.fr (fun k _ g => h k (by omega) (by omega)), C.2.2.2.2.2.fr (fun k _ g => h k (by omega) (by omega))⟩
  · by_cases e : b' = b
    · subst e; exact ho.a
    · exact (C.2.2.2.1.2.2.1 b' hb').fr (fun k g1 g2 => h k (by omega) (by omega))
  · by_cases e : b' = b
    · subst e
      refine ho.cg (fun i hi => ?_)
      show cpR s 0 (7 + b') 75 (75 * (7 + b') + i) = s i
      unfold cpR
      rw [if_pos (by omega)]
      congr 1
      omega
    · refine ((C.2.2.2.1.2.2.2 b' hb' (by rw [kuf_ne e] at hk'; exact hk')).fr (fun k g1 g2 => h k (by omega) (by omega))).cg (fun i hi => ?_)
      show cpR s 0 (7 + b) 75 (75 * (7 + b') + i) = s (75 * (7 + b') + i)
      unfold cpR
      rw [if_neg (by omega)]
set_option maxRecDepth 100000 in
set_option maxHeartbeats 4000000 in
theorem c5_admitAll {w : kM} {s : Nat → Int32} {q : Nat} {kp bf : Nat → Int32} {T : Nat} (C : cls w s q kp bf T) {c : Nat} (hc : s 20 = nI c) (hc7 : c ≤ 7) (ht : tells bf T) {FIN : (Nat → Int32) × Nat} (hF : rnF bf T (T + 1) z0 0 s c 0 = FIN) : kCtrW mX5_admitAllOfText 5 [.ref 0] w (some (.int (nI FIN.2))) (fun w' => cls w' FIN.1 q kp bf T ∧ ∀ a, 128 ≤ a → w' a = w a) := by
  refine kCtrW.of pl5 nlX5_admitAllOfText rfl (Nat.le_of_ble_eq_true rfl) (fun n => ?_)
  obtain ⟨cf, p0, v0, hcf, hcb, Sx0, hp60, hT60⟩ := C.2.2.2.2.1
  have loop : ∀ (m i p : Nat) (v : Nat → Int32) (wi : kM) (S : Nat → Int32) (c n1 : Nat), m = T - i → i ≤ T → cls wi S q kp bf T → txS wi 89 T (p, v) → wi 90 = kI 0 60 (tr 60 cf) → p ≤ 6 → inv (p, v) → S 20 = nI c → c ≤ 7 → (al cf T (p, v) i).1 = T → cr cf T (p, v) i S c n1 = FIN → (∀ a, 128 ≤ a → wi a = w a) → kW (0, fun _ => 0) mX5_admitAllOfText 5 (fun o' w' n' => o' = .inl (some (.int (nI FIN.2))) ∧ (fun w' => cls w' FIN.1 q kp bf T ∧ ∀ a, 128 ≤ a → w' a = w a) w' ∧ n' = n) 0 0 n wi 11 [(0, .ref 0), (1, .int (nI n1)), (2, .int (nI i))] [] := by
    intro m
    induction m using Nat.strongRecOn with
    | _ m ih =>
      intro i p v wi S c n1 hm hi D Sx hci hp hinv hS hS7 hal hfin FR
      obtain ⟨σ, H⟩ := D.2.1.c hS hS7
      refine kw_iload_n (pc := 11) dX5_admitAllOfText_11 rfl ?_
      refine kw_aload_n (pc := 12) dX5_admitAllOfText_12 rfl ?_
      refine kw_getfield (pc := 13) kfw dX5_admitAllOfText_13 fX5_34 D.1 rfl ?_
      refine kw_getfield (pc := 16) kfw dX5_admitAllOfText_16 fX5_126 Sx.1 rfl ?_
      refine kw_icmp_ge (tgt := 87) (pc := 19) dX5_admitAllOfText_19 (by decide) (fun h19 => ?_) (fun h19 => ?_)
      · have h19 := (kLeI (a := T) (b := i) (by omega) (by omega) rfl rfl).mp h19
        refine kw_iload_n (pc := 87) dX5_admitAllOfText_87 rfl ?_
        exact kw_ireturn nlX5_admitAllOfText (pc := 88) dX5_admitAllOfText_88 rfl rfl ⟨kv_eq (by rw [cr_end (by omega)] at hfin; rw [← hfin]), ⟨by rw [cr_end (by omega)] at hfin; rw [← hfin]; exact D, FR⟩, rfl⟩
      · have h19 := mt (kLeI (a := T) (b := i) (by omega) (by omega) rfl rfl).mpr h19
        refine kw_iload_n (pc := 22) dX5_admitAllOfText_22 rfl ?_
        refine kw_aload_n (pc := 23) dX5_admitAllOfText_23 rfl ?_
        refine kw_getfield (pc := 24) kfw dX5_admitAllOfText_24 fX5_34 D.1 rfl ?_
        refine kw_getfield (pc := 27) kfw dX5_admitAllOfText_27 fX5_226 Sx.1 rfl ?_
        refine kw_alenI (pc := 30) (v := 60) dX5_admitAllOfText_30 hci rfl ?_
        refine kw_icmp_ge (tgt := 87) (pc := 31) dX5_admitAllOfText_31 (by decide) (fun h31 => ?_) (fun h31 => ?_)
        · have h31 := (kLeI (a := 60) (b := i) (by omega) (by omega) (rfl : (60 : Int32) = nI 60) rfl).mp h31
          exfalso; omega
        · have h31 := mt (kLeI (a := 60) (b := i) (by omega) (by omega) (rfl : (60 : Int32) = nI 60) rfl).mpr h31
          refine kw_aload_n (pc := 34) dX5_admitAllOfText_34 rfl ?_
          refine kw_getfield (pc := 35) kfw dX5_admitAllOfText_35 fX5_34 D.1 rfl ?_
          refine kw_aload_n (pc := 38) dX5_admitAllOfText_38 rfl ?_
          refine kw_getfield (pc := 39) kfw dX5_admitAllOfText_39 fX5_34 D.1 rfl ?_
          refine kw_getfield (pc := 42) kfw dX5_admitAllOfText_42 fX5_226 Sx.1 rfl ?_
          refine kw_iload_n (pc := 45) dX5_admitAllOfText_45 rfl ?_
          refine kw_ialoadT (pc := 46) (i := i) dX5_admitAllOfText_46 hci rfl (by omega) (by decide) ?_
          obtain ⟨⟨p2, v2⟩, hst⟩ : ∃ z, stp (p, v) (cf i) = some z := by
            cases hs : stp (p, v) (cf i) with
            | none => rw [al_no hs] at hal; exact absurd hal (by show ¬ i = T; omega)
            | some z => exact ⟨z, rfl⟩
          refine kw_callVw1 (pc := 47) dX5_admitAllOfText_47 lX5_242 (c3_reads Sx hp (cf i)) Sx.1 rfl rfl rfl ⟨by decide, by decide, Nat.le_of_ble_eq_true rfl⟩ (fun w1 hz => ?_)
          have hz : txR wi w1 89 T (stp (p, v) (cf i)) := hz
          rw [hst] at hz
          obtain ⟨S2, F2⟩ := hz
          have hp2 : p2 ≤ 6 := stp_le hst hp
          have hi2 := inv_stp hinv hp hst
          have hci2 := (F2 90 (by decide) (by decide)).trans hci
          have D2 : cls w1 S q kp bf T := D.setText ⟨cf, p2, v2, hci2, hcb, S2, hp2, hT60⟩ (fun a h => F2 a (by omega) (by omega))
          obtain ⟨σ2, H2⟩ := D2.2.1.c hS hS7
          rw [al_one (by omega) hst] at hal
          rw [cr_u (by omega) hst] at hfin
          refine kw_pop (pc := 50) dX5_admitAllOfText_50 rfl ?_
          refine kw_aload_n (pc := 51) dX5_admitAllOfText_51 rfl ?_
          refine kw_getfield (pc := 52) kfw dX5_admitAllOfText_52 fX5_34 D2.1 rfl ?_
          refine kw_callVr (pc := 55) dX5_admitAllOfText_55 lX5_246 (c3_atEnd S2 hp2) S2.1 rfl rfl rfl ⟨by decide, by decide, Nat.le_of_ble_eq_true rfl⟩ ?_
          refine kw_if_eq (tgt := 81) (pc := 58) dX5_admitAllOfText_58 (by decide) (fun h58 => ?_) (fun h58 => ?_)
          · refine kw_iinc (pc := 81) dX5_admitAllOfText_81 (by decide) rfl rfl rfl ?_
            refine kw_goto (tgt := 11) (pc := 84) dX5_admitAllOfText_84 (by decide) ?_
            rw [if_neg (b2i_0.mp h58)] at hfin
            exact kW.locs (ih (T - (i + 1)) (by omega) (i + 1) p2 v2 w1 S c n1 rfl (by omega) D2 S2 hci2 hp2 hi2 hS hS7 hal hfin (fun a h => (F2 a (by omega) (by omega)).trans (FR a h))) ⟨rfl, rfl, kgE rfl (kA (a := i) (b := 1) rfl (rfl : (Int32.ofInt 1) = nI 1)), trivial⟩
          · refine kw_aload_n (pc := 61) dX5_admitAllOfText_61 rfl ?_
            refine kw_getfield (pc := 62) kfw dX5_admitAllOfText_62 fX5_34 D2.1 rfl ?_
            refine kw_aload_n (pc := 65) dX5_admitAllOfText_65 rfl ?_
            refine kw_getfield (pc := 66) kfw dX5_admitAllOfText_66 fX5_10 D2.1 rfl ?_
            have h6 : p2 = 6 := Decidable.not_not.mp (mt b2i_0.mpr h58)
            subst h6
            rw [if_pos rfl] at hfin
            have i0 := hi2.1 0 (by show 0 < 6; decide) (by decide)
            have i1 := hi2.1 1 (by show 1 < 6; decide) (by decide)
            have i2 := hi2.1 2 (by show 2 < 6; decide) (by decide)
            refine kw_callVw1 (pc := 69) dX5_admitAllOfText_69 lX5_249 (c3_admit S2 H2 ⟨Int32.le_trans (by decide) i0.1, Int32.le_trans (by decide) i1.1, Int32.le_trans (by decide) i2.1⟩) S2.1 rfl rfl rfl ⟨by decide, by decide, Nat.le_of_ble_eq_true rfl⟩ (fun w3 hw3 => ?_)
            obtain ⟨⟨c3, -, H3⟩, G3⟩ := hw3
            have D3 := D2.setOff ⟨_, _, H3⟩ (fun i hi => comeS_hi hi hS7) (fun a h => G3 a (by omega))
            have FR3 : ∀ a, 128 ≤ a → w3 a = w a := fun a h => (G3 a (by omega)).trans ((F2 a (by omega) (by omega)).trans (FR a h))
            have hcv : comeV c = -1 ↔ c = 7 := by
              unfold comeV
              by_cases e : c = 7
              · rw [if_pos e]; exact ⟨fun _ => e, fun _ => rfl⟩
              · rw [if_neg e]; exact ⟨fun z => absurd z (oI_ne (by omega)), fun z => absurd z e⟩
            refine kw_iconst (v := -1) (pc := 72) dX5_admitAllOfText_72 (by decide) ?_
            refine kw_icmp_ne (tgt := 78) (pc := 73) dX5_admitAllOfText_73 (by decide) (fun h73 => ?_) (fun h73 => ?_)
            · refine kw_iinc (pc := 78) dX5_admitAllOfText_78 (by decide) rfl rfl rfl ?_
              refine kw_iinc (pc := 81) dX5_admitAllOfText_81 (by decide) rfl rfl rfl ?_
              refine kw_goto (tgt := 11) (pc := 84) dX5_admitAllOfText_84 (by decide) ?_
              rw [if_neg (mt hcv.mpr h73)] at hfin
              exact kW.locs (ih (T - (i + 1)) (by omega) (i + 1) 6 v2 w3 _ (c + 1) (n1 + 1) rfl (by omega) D3 ⟨(G3 _ (by decide)).trans S2.1, (G3 _ (by decide)).trans S2.2⟩ ((G3 _ (by decide)).trans hci2) (by decide) hi2 (comeS_20 (mt hcv.mpr h73)) (by have := mt hcv.mpr h73; omega) hal hfin FR3) ⟨rfl, kgE rfl (kA (a := n1) (b := 1) rfl (rfl : (Int32.ofInt 1) = nI 1)), kgE rfl (kA (a := i) (b := 1) rfl (rfl : (Int32.ofInt 1) = nI 1)), trivial⟩
            · refine kw_iload_n (pc := 76) dX5_admitAllOfText_76 rfl ?_
              exact kw_ireturn nlX5_admitAllOfText (pc := 77) dX5_admitAllOfText_77 rfl rfl ⟨kv_eq (by rw [if_pos (hcv.mp h73)] at hfin; rw [← hfin]), ⟨by rw [if_pos (hcv.mp h73)] at hfin; rw [← hfin]; exact D3, FR3⟩, rfl⟩
  refine kw_iconst (v := 0) (pc := 0) dX5_admitAllOfText_0 (by decide) ?_
  refine kw_istore_n (pc := 1) dX5_admitAllOfText_1 (by decide) rfl ?_
  refine kw_aload_n (pc := 2) dX5_admitAllOfText_2 rfl ?_
  refine kw_getfield (pc := 3) kfw dX5_admitAllOfText_3 fX5_34 C.1 rfl ?_
  refine kw_callVw0 (pc := 6) dX5_admitAllOfText_6 lX5_239 (c3_start Sx0) Sx0.1 rfl rfl rfl ⟨by decide, by decide, Nat.le_of_ble_eq_true rfl⟩ (fun w1 hz => ?_)
  obtain ⟨S1, F1⟩ := hz
  have hci1 := (F1 90 (by decide) (by decide)).trans hcf
  have D1 : cls w1 s q kp bf T := C.setText ⟨cf, 0, _, hci1, hcb, S1, by decide, hT60⟩ (fun a h => F1 a (by omega) (by omega))
  refine kw_iconst (v := 0) (pc := 9) dX5_admitAllOfText_9 (by decide) ?_
  refine kw_istore_n (pc := 10) dX5_admitAllOfText_10 (by decide) rfl ?_
  exact kW.locs (loop (T - 0) 0 0 _ w1 s c 0 rfl (Nat.zero_le _) D1 S1 hci1 (by decide) (inv0 (kuf_eq _ _ _)) hc hc7 (by rw [(al_z (T := T) (u := kuf v0 0 0) hcb (kuf_eq _ _ _)).1]; exact ht.1) (by unfold cr; rw [crN_cf hcb _ _ _ _ _ _ (by omega), crN_eqv _ _ _ (0, z0) _ _ _ (eqv0 (kuf_eq _ _ _) rfl) (Nat.zero_le _)]; exact (cr_rn (T + 1) 0 z0 s c 0 (Nat.le_refl _) (Nat.zero_le _) rfl ht.1 ht.2).trans hF) (fun a h => F1 a (by omega) (by omega))) ⟨rfl, rfl, rfl, trivial⟩
set_option maxRecDepth 100000 in
set_option maxHeartbeats 4000000 in
theorem c5_run {w : kM} {s : Nat → Int32} {q : Nat} {kp bf : Nat → Int32} {T : Nat} (C : cls w s q kp bf T) {c : Nat} (hc : s 20 = nI c) (hc7 : c ≤ 7) (ht : tells bf T) {FIN : (Nat → Int32) × Nat} (hF : rnF bf T (T + 1) z0 0 (svS s q) c 0 = FIN) : kCtrW mX5_run 6 [.ref 0] w (some (.int (nI FIN.2))) (fun w' => cls w' FIN.1 (svN q) kp bf 0 ∧ ∀ a, 128 ≤ a → w' a = w a) := by
  refine kCtrW.of pl5 nlX5_run rfl (Nat.le_of_ble_eq_true rfl) (fun n => ?_)
  obtain ⟨cf, p, v0, hcf, hcb, S, hp6, hT60⟩ := C.2.2.2.2.1
  have hz := al_z (T := T) (u := kuf v0 0 0) hcb (kuf_eq _ _ _)
  have hal6 := al_le6 (bf := cf) (T := T) (st := (0, kuf v0 0 0)) (i := 0) (Nat.le_of_ble_eq_true rfl)
  refine kw_aload_n (pc := 0) dX5_run_0 rfl ?_
  refine kw_getfield (pc := 1) kfw dX5_run_1 fX5_34 C.1 rfl ?_
  refine kw_callVw1 (pc := 4) dX5_run_4 lX5_136 (c3_tells S hcf hT60) S.1 rfl rfl rfl ⟨by decide, by decide, Nat.le_of_ble_eq_true rfl⟩ (fun w2 hw2 => ?_)
  obtain ⟨S2, G2⟩ := hw2
  have C2 : cls w2 s q kp bf T := C.setText ⟨cf, _, _, (G2 _ (by decide) (by decide)).trans hcf, hcb, S2, hal6, hT60⟩ (fun a h => G2 a (by omega) (by omega))
  refine kW.eq (st' := [.int 1]) rfl (by rw [hz.1, hz.2]; exact congrArg (fun x => [Value.int x]) (b2i_t ht)) ?_
  refine kw_callSw0 (pc := 7) dX5_run_7 lX5_49 (c5_argT (by decide)) rfl rfl ⟨by decide, by decide, Nat.le_of_ble_eq_true rfl⟩ (fun wq hwq => ?_)
  have hwq : w2 = wq := Eq.symm hwq
  subst hwq
  refine kw_aload_n (pc := 10) dX5_run_10 rfl ?_
  refine kw_getfield (pc := 11) kfw dX5_run_11 fX5_27 C2.1 rfl ?_
  refine kw_aload_n (pc := 14) dX5_run_14 rfl ?_
  refine kw_getfield (pc := 15) kfw dX5_run_15 fX5_10 C2.1 rfl ?_
  refine kw_callVw0 (pc := 18) dX5_run_18 lX5_53 (c4_save C2.2.2.1 C2.2.1 (by decide)) C2.2.2.1.ob rfl rfl rfl ⟨by decide, by decide, Nat.le_of_ble_eq_true rfl⟩ (fun w3 hw3 => ?_)
  obtain ⟨P3, G3⟩ := hw3
  have C3 := C2.saved P3 G3
  refine kw_aload_n (pc := 21) dX5_run_21 rfl ?_
  refine kw_callVw1 (pc := 22) dX5_run_22 lX5_139 (c5_admitAll C3 ((svS_low (by decide)).trans hc) hc7 ht hF) C3.1 rfl rfl rfl ⟨by decide, by decide, Nat.le_of_ble_eq_true rfl⟩ (fun w4 hw4 => ?_)
  obtain ⟨C4, G4⟩ := hw4
  obtain ⟨cf4, p4, v4, hcf4, hcb4, S4, hp4, -⟩ := C4.2.2.2.2.1
  refine kw_istore_n (pc := 25) dX5_run_25 (by decide) rfl ?_
  refine kw_aload_n (pc := 26) dX5_run_26 rfl ?_
  refine kw_getfield (pc := 27) kfw dX5_run_27 fX5_34 C4.1 rfl ?_
  refine kw_callVw0 (pc := 30) dX5_run_30 lX5_129 (c3_clear S4.1) S4.1 rfl rfl rfl ⟨by decide, by decide, Nat.le_of_ble_eq_true rfl⟩ (fun w5 hw5 => ?_)
  have hw5 : w5 = kup w4 89 (kO 3 (txF 89 (nI 0) (nI p4))) := hw5
  refine kw_iload_n (pc := 33) dX5_run_33 rfl ?_
  exact kw_ireturn nlX5_run (pc := 34) dX5_run_34 rfl rfl ⟨rfl, ⟨C4.setText (T' := 0) (bf' := bf) ⟨cf4, p4, v4, by rw [hw5]; exact (kup_ne (by decide)).trans hcf4, fun j hj => absurd hj (Nat.not_lt_zero j), ⟨kup_at hw5, by rw [hw5]; exact (kup_ne (by decide)).trans S4.2⟩, hp4, Nat.zero_le _⟩ (fun a h => by rw [hw5]; exact kup_ne (by omega)), fun a h => by rw [hw5, kup_ne (by omega), G4 a h, G3 a (by omega), G2 a (by omega) (by omega)]⟩, rfl⟩
set_option maxRecDepth 100000 in
set_option maxHeartbeats 4000000 in
theorem c5_runA {w : kM} {s : Nat → Int32} {q : Nat} {kp bf : Nat → Int32} {T : Nat} (C : cls w s q kp bf T) (ht : ¬ tells bf T) : kCtrX mX5_run 7 [.ref 0] w kIAE (fun w' => cls w' s q kp bf T ∧ ∀ a, 128 ≤ a → w' a = w a) := by
  refine kCtrX.of pl5 nlX5_run rfl (Nat.le_of_ble_eq_true rfl) (fun n => ?_)
  obtain ⟨cf, p, v0, hcf, hcb, S, hp6, hT60⟩ := C.2.2.2.2.1
  have hz := al_z (T := T) (u := kuf v0 0 0) hcb (kuf_eq _ _ _)
  have hal6 := al_le6 (bf := cf) (T := T) (st := (0, kuf v0 0 0)) (i := 0) (Nat.le_of_ble_eq_true rfl)
  refine kw_aload_n (pc := 0) dX5_run_0 rfl ?_
  refine kw_getfield (pc := 1) kfw dX5_run_1 fX5_34 C.1 rfl ?_
  refine kw_callVw1 (pc := 4) dX5_run_4 lX5_136 (c3_tells S hcf hT60) S.1 rfl rfl rfl ⟨by decide, by decide, Nat.le_of_ble_eq_true rfl⟩ (fun w2 hw2 => ?_)
  obtain ⟨S2, G2⟩ := hw2
  have C2 : cls w2 s q kp bf T := C.setText ⟨cf, _, _, (G2 _ (by decide) (by decide)).trans hcf, hcb, S2, hal6, hT60⟩ (fun a h => G2 a (by omega) (by omega))
  refine kW.eq (st' := [.int 0]) rfl (by rw [hz.1, hz.2]; exact congrArg (fun x => [Value.int x]) (b2i_f ht)) ?_
  exact kw_callSx (pc := 7) dX5_run_7 lX5_49 (c5_argX rfl) rfl rfl ⟨by decide, by decide, Nat.le_of_ble_eq_true rfl, by decide, by decide⟩ nlX5_run rfl (fun w' n' hp hn => ⟨rfl, by rw [show w' = w2 from hp]; exact ⟨C2, fun a h => G2 a (by omega) (by omega)⟩, hn⟩)
set_option maxRecDepth 100000 in
set_option maxHeartbeats 4000000 in
theorem c5_keep {w : kM} {s : Nat → Int32} {q : Nat} {kp bf : Nat → Int32} {T : Nat} (C : cls w s q kp bf T) {c : Nat} (hc : s 20 = nI c) (hc7 : c ≤ 7) {b : Nat} (hb : b < 2) : kCtrW mX5_keep 2 [.ref 0, .int (nI b)] w (some (.int (s 70))) (fun w' => cls w' (cpR s 0 (7 + b) 75) q (kuf kp b 1) bf T ∧ ∀ a, 128 ≤ a → w' a = w a) := by
  refine kCtrW.of pl5 nlX5_keep rfl (Nat.le_of_ble_eq_true rfl) (fun n => ?_)
  obtain ⟨σ, H⟩ := C.2.1.c hc hc7
  obtain ⟨r0, c0, σ0, Hs⟩ := C.2.2.2.1.2.2.1 b hb
  refine kw_iload_n (pc := 0) dX5_keep_0 rfl ?_
  refine kw_iconst (v := 0) (pc := 1) dX5_keep_1 (by decide) ?_
  refine kw_iconst (v := 1) (pc := 2) dX5_keep_2 (by decide) ?_
  refine kw_callSr (pc := 3) dX5_keep_3 lX5_45 (c5_isInT (hi := 1) (in_nat (b := b) (n := 2) (by decide) hb)) rfl rfl ⟨by decide, by decide, Nat.le_of_ble_eq_true rfl⟩ ?_
  refine kw_callSw0 (pc := 6) dX5_keep_6 lX5_49 (c5_argT (by decide)) rfl rfl ⟨by decide, by decide, Nat.le_of_ble_eq_true rfl⟩ (fun wq hwq => ?_)
  have hwq : w = wq := Eq.symm hwq
  subst hwq
  refine kw_aload_n (pc := 9) dX5_keep_9 rfl ?_
  refine kw_getfield (pc := 10) kfw dX5_keep_10 fX5_16 C.1 rfl ?_
  refine kw_iload_n (pc := 13) dX5_keep_13 rfl ?_
  refine kw_aaloadT (pc := 14) (i := b) dX5_keep_14 C.2.2.2.1.1 rfl rfl (by omega) (by decide) rfl ?_
  refine kw_aload_n (pc := 15) dX5_keep_15 rfl ?_
  refine kw_getfield (pc := 16) kfw dX5_keep_16 fX5_10 C.1 rfl ?_
  refine kw_callVw0 (pc := 19) dX5_keep_19 lX5_142 (c1_copyFrom Hs H (by omega)) Hs.ob rfl rfl rfl ⟨by decide, by decide, Nat.le_of_ble_eq_true rfl⟩ (fun w1 hw1 => ?_)
  obtain ⟨H1, G1⟩ := hw1
  have hx1 := (G1 0 (by omega)).trans C.1
  have hk1 := (G1 14 (by omega)).trans C.2.2.2.1.2.1
  refine kw_aload_n (pc := 22) dX5_keep_22 rfl ?_
  refine kw_getfield (pc := 23) kfw dX5_keep_23 fX5_20 hx1 rfl ?_
  refine kw_iload_n (pc := 26) dX5_keep_26 rfl ?_
  refine kw_iconst (v := 1) (pc := 27) dX5_keep_27 (by decide) ?_
  refine kw_zastoreT (pc := 28) (i := b) dX5_keep_28 hk1 rfl hb (by decide) rfl (kgen (fun w2 hw2 => ?_))
  have G2 : ∀ a, a ≠ 14 → w2 a = w1 a := fun a h => by rw [hw2]; exact kup_ne h
  have hx2 := (G2 0 (by decide)).trans hx1
  have ho2 := (G2 1 (by decide)).trans ((G1 1 (by omega)).trans H.ob)
  refine kw_aload_n (pc := 29) dX5_keep_29 rfl ?_
  refine kw_getfield (pc := 30) kfw dX5_keep_30 fX5_10 hx2 rfl ?_
  refine kw_getfield (pc := 33) kfw dX5_keep_33 fX5_145 ho2 rfl ?_
  exact kw_ireturn nlX5_keep (pc := 36) dX5_keep_36 rfl rfl ⟨rfl, ⟨C.keep hb (offR.fr ⟨_, _, H1⟩ (fun k g1 g2 => G2 k (by omega))) (kup_at hw2) (fun a g1 g2 => (G2 a g1).trans (G1 a (by omega))), fun a h => (G2 a (by omega)).trans (G1 a (by omega))⟩, rfl⟩
set_option maxRecDepth 100000 in
set_option maxHeartbeats 4000000 in
theorem c5_keepA {w : kM} {v : Int32} (hv : ¬ (v = 0 ∨ v = 1)) : kCtrX mX5_keep 7 [.ref 0, .int v] w kIAE (fun w' => w' = w) := by
  refine kCtrX.of pl5 nlX5_keep rfl (Nat.le_of_ble_eq_true rfl) (fun n => ?_)
  refine kw_iload_n (pc := 0) dX5_keep_0 rfl ?_
  refine kw_iconst (v := 0) (pc := 1) dX5_keep_1 (by decide) ?_
  refine kw_iconst (v := 1) (pc := 2) dX5_keep_2 (by decide) ?_
  refine kw_callSr (pc := 3) dX5_keep_3 lX5_45 (c5_isInF (by grind)) rfl rfl ⟨by decide, by decide, Nat.le_of_ble_eq_true rfl⟩ ?_
  exact kw_callSx (pc := 6) dX5_keep_6 lX5_49 (c5_argX rfl) rfl rfl ⟨by decide, by decide, Nat.le_of_ble_eq_true rfl, by decide, by decide⟩ nlX5_keep rfl (fun w' n' hp hn => ⟨rfl, hp, hn⟩)
set_option maxRecDepth 100000 in
set_option maxHeartbeats 4000000 in
theorem c5_goBackA {w : kM} {v : Int32} (hv : ¬ (v = 0 ∨ v = 1)) : kCtrX mX5_goBack 7 [.ref 0, .int v] w kIAE (fun w' => w' = w) := by
  refine kCtrX.of pl5 nlX5_goBack rfl (Nat.le_of_ble_eq_true rfl) (fun n => ?_)
  refine kw_iload_n (pc := 0) dX5_goBack_0 rfl ?_
  refine kw_iconst (v := 0) (pc := 1) dX5_goBack_1 (by decide) ?_
  refine kw_iconst (v := 1) (pc := 2) dX5_goBack_2 (by decide) ?_
  refine kw_callSr (pc := 3) dX5_goBack_3 lX5_45 (c5_isInF (by grind)) rfl rfl ⟨by decide, by decide, Nat.le_of_ble_eq_true rfl⟩ ?_
  exact kw_callSx (pc := 6) dX5_goBack_6 lX5_49 (c5_argX rfl) rfl rfl ⟨by decide, by decide, Nat.le_of_ble_eq_true rfl, by decide, by decide⟩ nlX5_goBack rfl (fun w' n' hp hn => ⟨rfl, hp, hn⟩)
set_option maxRecDepth 100000 in
set_option maxHeartbeats 4000000 in
theorem c5_goBack {w : kM} {s : Nat → Int32} {q : Nat} {kp bf : Nat → Int32} {T : Nat} (C : cls w s q kp bf T) {c : Nat} (hc : s 20 = nI c) (hc7 : c ≤ 7) {b : Nat} (hb : b < 2) (hkb : ¬ kp b = 0) : kCtrW mX5_goBack 3 [.ref 0, .int (nI b)] w (some (.int (svS s q (75 * (7 + b) + 70)))) (fun w' => cls w' (cpR (svS s q) (7 + b) 0 75) (svN q) kp bf T ∧ ∀ a, 128 ≤ a → w' a = w a) := by
  refine kCtrW.of pl5 nlX5_goBack rfl (Nat.le_of_ble_eq_true rfl) (fun n => ?_)
  obtain ⟨σ, H⟩ := C.2.1.c hc hc7
  refine kw_iload_n (pc := 0) dX5_goBack_0 rfl ?_
  refine kw_iconst (v := 0) (pc := 1) dX5_goBack_1 (by decide) ?_
  refine kw_iconst (v := 1) (pc := 2) dX5_goBack_2 (by decide) ?_
  refine kw_callSr (pc := 3) dX5_goBack_3 lX5_45 (c5_isInT (hi := 1) (in_nat (b := b) (n := 2) (by decide) hb)) rfl rfl ⟨by decide, by decide, Nat.le_of_ble_eq_true rfl⟩ ?_
  refine kw_callSw0 (pc := 6) dX5_goBack_6 lX5_49 (c5_argT (by decide)) rfl rfl ⟨by decide, by decide, Nat.le_of_ble_eq_true rfl⟩ (fun wq hwq => ?_)
  have hwq : w = wq := Eq.symm hwq
  subst hwq
  refine kw_aload_n (pc := 9) dX5_goBack_9 rfl ?_
  refine kw_getfield (pc := 10) kfw dX5_goBack_10 fX5_20 C.1 rfl ?_
  refine kw_iload_n (pc := 13) dX5_goBack_13 rfl ?_
  refine kw_zaloadT (pc := 14) (i := b) dX5_goBack_14 C.2.2.2.1.2.1 rfl (by omega) (by decide) ?_
  refine kw_if_ne (tgt := 28) (pc := 15) dX5_goBack_15 (by decide) (fun h15 => ?_) (fun h15 => ?_)
  · refine kw_aload_n (pc := 28) dX5_goBack_28 rfl ?_
    refine kw_getfield (pc := 29) kfw dX5_goBack_29 fX5_27 C.1 rfl ?_
    refine kw_aload_n (pc := 32) dX5_goBack_32 rfl ?_
    refine kw_getfield (pc := 33) kfw dX5_goBack_33 fX5_10 C.1 rfl ?_
    refine kw_callVw0 (pc := 36) dX5_goBack_36 lX5_53 (c4_save C.2.2.1 C.2.1 (by decide)) C.2.2.1.ob rfl rfl rfl ⟨by decide, by decide, Nat.le_of_ble_eq_true rfl⟩ (fun w1 hw1 => ?_)
    obtain ⟨P1, G1⟩ := hw1
    have C1 := C.saved P1 G1
    have E1 : ∀ a, 128 ≤ a → w1 a = w a := fun a h => G1 a (by omega)
    obtain ⟨σ, H⟩ := C1.2.1.c ((svS_low (by decide)).trans hc) hc7
    refine kw_aload_n (pc := 39) dX5_goBack_39 rfl ?_
    refine kw_getfield (pc := 40) kfw dX5_goBack_40 fX5_10 C1.1 rfl ?_
    refine kw_aload_n (pc := 43) dX5_goBack_43 rfl ?_
    refine kw_getfield (pc := 44) kfw dX5_goBack_44 fX5_16 C1.1 rfl ?_
    refine kw_iload_n (pc := 47) dX5_goBack_47 rfl ?_
    refine kw_aaloadT (pc := 48) (i := b) dX5_goBack_48 C1.2.2.2.1.1 rfl rfl (by omega) (by decide) rfl ?_
    obtain ⟨c2, σ2, Hs⟩ := C1.2.2.2.1.2.2.2 b hb hkb
    refine kw_callVw0 (pc := 49) dX5_goBack_49 lX5_142 (c1_copyFrom H Hs (by omega)) H.ob rfl rfl rfl ⟨by decide, by decide, Nat.le_of_ble_eq_true rfl⟩ (fun w2 hw2 => ?_)
    obtain ⟨H2, G2⟩ := hw2
    have hx2 := (G2 0 (by omega)).trans C1.1
    refine kw_aload_n (pc := 52) dX5_goBack_52 rfl ?_
    refine kw_getfield (pc := 53) kfw dX5_goBack_53 fX5_10 hx2 rfl ?_
    refine kw_getfield (pc := 56) kfw dX5_goBack_56 fX5_145 H2.ob rfl ?_
    exact kw_ireturn nlX5_goBack (pc := 59) dX5_goBack_59 rfl rfl ⟨rfl, ⟨C1.setOff (offR.cg ⟨_, _, H2⟩ (fun i hi => cpR_0row hi)) (fun i hi => cpR_hi hi) (fun a h => G2 a (by omega)), fun a h => (G2 a (by omega)).trans (E1 a h)⟩, rfl⟩
  · exact absurd h15 hkb
set_option maxRecDepth 100000 in
set_option maxHeartbeats 4000000 in
theorem c5_goBackB {w : kM} {s : Nat → Int32} {q : Nat} {kp bf : Nat → Int32} {T : Nat} (C : cls w s q kp bf T) {b : Nat} (hb : b < 2) (hkb : kp b = 0) : kCtrX mX5_goBack 6 [.ref 0, .int (nI b)] w kISE (fun w' => w' = w) := by
  refine kCtrX.of pl5 nlX5_goBack rfl (Nat.le_of_ble_eq_true rfl) (fun n => ?_)
  refine kw_iload_n (pc := 0) dX5_goBack_0 rfl ?_
  refine kw_iconst (v := 0) (pc := 1) dX5_goBack_1 (by decide) ?_
  refine kw_iconst (v := 1) (pc := 2) dX5_goBack_2 (by decide) ?_
  refine kw_callSr (pc := 3) dX5_goBack_3 lX5_45 (c5_isInT (hi := 1) (in_nat (b := b) (n := 2) (by decide) hb)) rfl rfl ⟨by decide, by decide, Nat.le_of_ble_eq_true rfl⟩ ?_
  refine kw_callSw0 (pc := 6) dX5_goBack_6 lX5_49 (c5_argT (by decide)) rfl rfl ⟨by decide, by decide, Nat.le_of_ble_eq_true rfl⟩ (fun wq hwq => ?_)
  have hwq : w = wq := Eq.symm hwq
  subst hwq
  refine kw_aload_n (pc := 9) dX5_goBack_9 rfl ?_
  refine kw_getfield (pc := 10) kfw dX5_goBack_10 fX5_20 C.1 rfl ?_
  refine kw_iload_n (pc := 13) dX5_goBack_13 rfl ?_
  refine kw_zaloadT (pc := 14) (i := b) dX5_goBack_14 C.2.2.2.1.2.1 rfl (by omega) (by decide) ?_
  refine kw_if_ne (tgt := 28) (pc := 15) dX5_goBack_15 (by decide) (fun h15 => ?_) (fun h15 => ?_)
  · exact absurd hkb h15
  · exact kw_throw (pc := 18) (ik := 116) (is := 148) (ic := 120) (si := 3) (cls := kISE) (text := "there is no snapshot in the slot") (names := ["java/lang/RuntimeException", "java/lang/Exception"]) nlX5_goBack rfl rfl kt5_ISE kt6 kt4_ISE kj_ISE (by simp [kStr]) kt1_ISE kt2_ISE kt3_ISE kt7 dX5_goBack_18 dX5_goBack_21 dX5_goBack_22 dX5_goBack_24 dX5_goBack_27 ⟨by decide, by decide, by decide, by decide⟩ (fun n' hn => ⟨rfl, rfl, hn⟩)
set_option maxRecDepth 100000 in
set_option maxHeartbeats 4000000 in
theorem c5_undo {w : kM} {s : Nat → Int32} {q : Nat} {kp bf : Nat → Int32} {T : Nat} (C : cls w s (q + 1) kp bf T) : kCtrW mX5_undo 3 [.ref 0] w (some (.int (nI q))) (fun w' => cls w' (cpR s (q + 1) 0 75) q kp bf T ∧ ∀ a, 128 ≤ a → w' a = w a) := by
  refine kCtrW.of pl5 nlX5_undo rfl (Nat.le_of_ble_eq_true rfl) (fun n => ?_)
  have hq6 := C.q6
  refine kw_aload_n (pc := 0) dX5_undo_0 rfl ?_
  refine kw_getfield (pc := 1) kfw dX5_undo_1 fX5_27 C.1 rfl ?_
  refine kw_getfield (pc := 4) kfw dX5_undo_4 fX5_150 C.2.2.1.ob rfl ?_
  refine kw_if_ne (tgt := 20) (pc := 7) dX5_undo_7 (by decide) (fun h7 => ?_) (fun h7 => ?_)
  · have h7 := mt (kEqI (a := (q + 1)) (b := 0) (by omega) (by omega) rfl (rfl : (0 : Int32) = nI 0)).mpr h7
    refine kw_aload_n (pc := 20) dX5_undo_20 rfl ?_
    refine kw_getfield (pc := 21) kfw dX5_undo_21 fX5_27 C.1 rfl ?_
    refine kw_aload_n (pc := 24) dX5_undo_24 rfl ?_
    refine kw_getfield (pc := 25) kfw dX5_undo_25 fX5_10 C.1 rfl ?_
    refine kw_callVw0 (pc := 28) dX5_undo_28 lX5_153 (c4_restore C.2.2.1 C.2.1 (by decide)) C.2.2.1.ob rfl rfl rfl ⟨by decide, by decide, Nat.le_of_ble_eq_true rfl⟩ (fun w1 hw1 => ?_)
    obtain ⟨H1, P1, G1⟩ := hw1
    have hx1 := (G1 0 (by omega) (by omega)).trans C.1
    refine kw_aload_n (pc := 31) dX5_undo_31 rfl ?_
    refine kw_getfield (pc := 32) kfw dX5_undo_32 fX5_27 hx1 rfl ?_
    refine kw_getfield (pc := 35) kfw dX5_undo_35 fX5_150 P1.ob rfl ?_
    exact kw_ireturn nlX5_undo (pc := 38) dX5_undo_38 rfl rfl ⟨rfl, ⟨⟨hx1, H1.cg (fun i hi => cpR_0row hi), P1.cg (fun i hi j hj => cpR_hi (by omega)), C.2.2.2.1.fr (fun k g => G1 k (by omega) (by omega)) (fun i h1 h2 => cpR_hi (by omega)), C.2.2.2.2.1.fr (fun k _ g => G1 k (by omega) (by omega)), C.2.2.2.2.2.fr (fun k _ g => G1 k (by omega) (by omega))⟩, fun a h => G1 a (by omega) (by omega)⟩, rfl⟩
  · have h7 := (kEqI (a := (q + 1)) (b := 0) (by omega) (by omega) rfl (rfl : (0 : Int32) = nI 0)).mp h7
    exfalso; omega
set_option maxRecDepth 100000 in
set_option maxHeartbeats 4000000 in
theorem c5_undoA {w : kM} {s : Nat → Int32} {kp bf : Nat → Int32} {T : Nat} (C : cls w s 0 kp bf T) : kCtrX mX5_undo 6 [.ref 0] w kISE (fun w' => w' = w) := by
  refine kCtrX.of pl5 nlX5_undo rfl (Nat.le_of_ble_eq_true rfl) (fun n => ?_)
  refine kw_aload_n (pc := 0) dX5_undo_0 rfl ?_
  refine kw_getfield (pc := 1) kfw dX5_undo_1 fX5_27 C.1 rfl ?_
  refine kw_getfield (pc := 4) kfw dX5_undo_4 fX5_150 C.2.2.1.ob rfl ?_
  refine kw_if_ne (tgt := 20) (pc := 7) dX5_undo_7 (by decide) (fun h7 => ?_) (fun h7 => ?_)
  · have h7 := mt (kEqI (a := 0) (b := 0) (by omega) (by omega) rfl (rfl : (0 : Int32) = nI 0)).mpr h7
    exfalso; omega
  · have h7 := (kEqI (a := 0) (b := 0) (by omega) (by omega) rfl (rfl : (0 : Int32) = nI 0)).mp h7
    exact kw_throw (pc := 10) (ik := 116) (is := 151) (ic := 120) (si := 4) (cls := kISE) (text := "there is no saved state") (names := ["java/lang/RuntimeException", "java/lang/Exception"]) nlX5_undo rfl rfl kt5_ISE kt6 kt4_ISE kj_ISE (by simp [kStr]) kt1_ISE kt2_ISE kt3_ISE kt7 dX5_undo_10 dX5_undo_13 dX5_undo_14 dX5_undo_16 dX5_undo_19 ⟨by decide, by decide, by decide, by decide⟩ (fun n' hn => ⟨rfl, rfl, hn⟩)
