theorem rp_fin {s u : Nat → Int32} {x y : Int32} (F : ∀ j, j < 4 → s (675 + j) = u j) : (∀ j, j < 4 → kuf (kuf s 679 x) 681 y (675 + j) = kuf (kuf (kuf u 4 0) 4 x) 5 y j) ∧ kuf (kuf s 679 x) 681 y 679 = kuf (kuf (kuf u 4 0) 4 x) 5 y 4 ∧ kuf (kuf s 679 x) 681 y 681 = kuf (kuf (kuf u 4 0) 4 x) 5 y 5 := by
  refine ⟨fun j hj => ?_, ?_, ?_⟩
  · rw [kuf_ne (by omega), kuf_ne (by omega), kuf_ne (by omega), kuf_ne (by omega), kuf_ne (by omega)]
    exact F j hj
  · rw [kuf_ne (by decide), kuf_eq, kuf_ne (by decide), kuf_eq]
  · rw [kuf_eq, kuf_eq]
theorem go_not {bf : Nat → Int32} {T i p : Nat} {u : Nat → Int32} (h : ¬ hereF bf T i (endC p) (endC p)) (hE : i < T → ¬ bf i = endC p → stp (p, u) (bf i) = none) : go bf T (p, u) i = (i, (p, u)) := by
  rcases Nat.lt_or_ge i T with q | q
  · exact go_no (hE q (fun e => h ⟨q, by rw [e]; exact ⟨Int32.le_refl _, Int32.le_refl _⟩⟩))
  · exact go_end q
theorem go_not2 {bf : Nat → Int32} {T i : Nat} {st : pst} {lo hi : Int32} (h : ¬ hereF bf T i lo hi) (hE : i < T → ¬ (lo ≤ bf i ∧ bf i ≤ hi) → stp st (bf i) = none) : go bf T st i = (i, st) := by
  rcases Nat.lt_or_ge i T with q | q
  · exact go_no (hE q (fun e => h ⟨q, e⟩))
  · exact go_end q
theorem stp_zone_no {c : Int32} {u : Nat → Int32} (h : ¬ (48 ≤ c ∧ c ≤ 51)) (h2 : 33 ≤ c ∧ c ≤ 126) : stp (4, u) c = none := by
  unfold stp
  simp only [show ¬ (4 : Nat) < 4 by decide, if_false, if_true]
  rw [if_pos (by grind)]
theorem stp_zone {c : Int32} {u : Nat → Int32} (h : 48 ≤ c ∧ c ≤ 51) : stp (4, u) c = some (5, kuf u 4 (c - 48)) := by
  unfold stp
  simp only [show ¬ (4 : Nat) < 4 by decide, if_false, if_true]
  rw [if_neg (by grind)]
theorem stp_way_no {c : Int32} {u : Nat → Int32} (h1 : ¬ c = 114) (h2 : ¬ c = 99) (h3 : ¬ c = 100) : stp (5, u) c = none := by
  unfold stp
  simp only [show ¬ (5 : Nat) < 4 by decide, show ¬ (5 : Nat) = 4 by decide, if_false, if_true]
  rw [if_neg h1, if_neg h2, if_neg h3]
set_option maxRecDepth 100000 in
set_option maxHeartbeats 4000000 in
theorem c_readsParcel {w0 : kM} {mo : Nat} {s : Nat → Int32} {sv : Int32} {kp bf : Nat → Int32} {ty th : Int32} {co ma : Nat → Int32} {sp : Int32}  {T : Nat} (hT : ty = nI T) (hT60 : T ≤ 60) {i : Nat} (hi : sp = nI i) (hiT : i ≤ T) {v : Nat → Int32} (hv : v 0 = 0) (hB : ∀ j, j < T → 33 ≤ bf j ∧ bf j ≤ 126) : kCtrW mX6_readsParcel 3 [.ref mo] (mM w0 mo s sv kp bf ty th co ma sp) (some (.int (b2i ((go bf T (0, v) i).2.1 = 6)))) (fun w' => ∃ s', w' = (mM w0 mo s' sv kp bf ty th co ma (nI (go bf T (0, v) i).1)) ∧ agr s s' ∧ ((go bf T (0, v) i).2.1 = 6 → (∀ j, j < 4 → s' (675 + j) = (go bf T (0, v) i).2.2 j) ∧ s' 679 = (go bf T (0, v) i).2.2 4 ∧ s' 681 = (go bf T (0, v) i).2.2 5)) := by
  refine kCtrW.of pl6 nlX6_readsParcel rfl (Nat.le_of_ble_eq_true rfl) (fun n => ?_)
  obtain ⟨s0, hs0⟩ : ∃ z, z = s := ⟨_, rfl⟩
  obtain ⟨u0, hu0⟩ : ∃ z, z = v := ⟨_, rfl⟩
  obtain ⟨i0, hi0⟩ : ∃ z, z = i := ⟨_, rfl⟩
  have G0 : go bf T (0, v) i = go bf T (0, u0) i0 := by rw [hu0, hi0]
  have A0 : agr s s0 := by rw [hs0]; exact agr.rf
  have F0 : ∀ j, j < 0 → s0 (675 + j) = u0 j := fun j hj => absurd hj (Nat.not_lt_zero j)
  have V0 : u0 0 = 0 := by rw [hu0]; exact hv
  rw [← hi0] at hi
  have hL0 : i0 ≤ T := by omega
  refine kW.eq (w' := (mM w0 mo s0 sv kp bf ty th co ma sp)) (by rw [hs0]) rfl ?_
  refine kw_iconst (v := 0) (pc := 0) dX6_readsParcel_0 (by decide) ?_
  refine kw_istore_n (pc := 1) dX6_readsParcel_1 (by decide) rfl ?_
  refine kW.locs (L' := [(0, .ref mo), (1, .int 0)]) ?_ ⟨rfl, rfl, trivial⟩
  refine kw_iload_n (pc := 2) dX6_readsParcel_2 rfl ?_
  refine kw_iconst (v := 4) (pc := 3) dX6_readsParcel_3 (by decide) ?_
  refine kw_icmp_ge (tgt := 80) (pc := 4) dX6_readsParcel_4 (by decide) (fun h4 => ?_) (fun h4 => ?_)
  · exact absurd h4 (by decide)
  · refine kw_iload_n (pc := 7) dX6_readsParcel_7 rfl ?_
    refine kw_if_le (tgt := 32) (pc := 8) dX6_readsParcel_8 (by decide) (fun h8 => ?_) (fun h8 => ?_)
    · refine kw_aload_n (pc := 32) dX6_readsParcel_32 rfl ?_
      refine kw_getfield (pc := 33) kfw dX6_readsParcel_33 fX6_7 mM_0 rfl ?_
      refine kw_sipush (v := 675) (pc := 36) dX6_readsParcel_36 (by decide) ?_
      refine kw_iload_n (pc := 39) dX6_readsParcel_39 rfl ?_
      refine kw_iadd (pc := 40) dX6_readsParcel_40 ?_
      refine kw_aload_n (pc := 41) dX6_readsParcel_41 rfl ?_
      refine kw_iload_n (pc := 42) dX6_readsParcel_42 rfl ?_
      refine kw_iconst (v := 3) (pc := 43) dX6_readsParcel_43 (by decide) ?_
      refine kw_icmp_ge (tgt := 52) (pc := 44) dX6_readsParcel_44 (by decide) (fun h44 => ?_) (fun h44 => ?_)
      · exact absurd h44 (by decide)
      · refine kw_bipush (v := 60) (pc := 47) dX6_readsParcel_47 (by decide) ?_
        refine kw_goto (tgt := 54) (pc := 49) dX6_readsParcel_49 (by decide) ?_
        refine kw_callVw1 (pc := 54) dX6_readsParcel_54 lX6_149 (c_number (i := i0) hT hT60 hi (by omega) (most 0)) mM_0 rfl rfl rfl ⟨by decide, by decide, Nat.le_of_ble_eq_true rfl⟩ (fun w1 hw1 => ?_)
        have hw1 : w1 = _ := hw1
        subst hw1
        refine kw_iastoreN (pc := 57) (i := (675 + 0)) dX6_readsParcel_57 mM_1 (kA (a := 675) (b := 0) (rfl : (675 : Int32) = nI 675) (rfl : (0 : Int32) = nI 0)) (by omega) (by decide) (kW.eq mMs_1 rfl ?_)
        refine kw_aload_n (pc := 58) dX6_readsParcel_58 rfl ?_
        refine kw_getfield (pc := 59) kfw dX6_readsParcel_59 fX6_7 mM_0 rfl ?_
        refine kw_sipush (v := 675) (pc := 62) dX6_readsParcel_62 (by decide) ?_
        refine kw_iload_n (pc := 65) dX6_readsParcel_65 rfl ?_
        refine kw_iadd (pc := 66) dX6_readsParcel_66 ?_
        refine kw_ialoadN (pc := 67) (i := (675 + 0)) dX6_readsParcel_67 mM_1 (kA (a := 675) (b := 0) (rfl : (675 : Int32) = nI 675) (rfl : (0 : Int32) = nI 0)) (by omega) (by decide) ?_
        refine kw_iconst (v := -1) (pc := 68) dX6_readsParcel_68 (by decide) ?_
        refine kw_icmp_ne (tgt := 74) (pc := 69) dX6_readsParcel_69 (by decide) (fun h69 => ?_) (fun h69 => ?_)
        · rw [kuf_eq] at h69
          obtain ⟨L1, H1, N1, E1⟩ := num_ok (bf := bf) (T := T) (i := i0) (p := 0) (u := u0) (by decide) V0 (by omega) h69
          obtain ⟨X, hX⟩ : ∃ z, z = nmV bf T i0 (most 0) := ⟨_, rfl⟩
          obtain ⟨i1, hI⟩ : ∃ z, z = nmI bf T i0 (most 0) := ⟨_, rfl⟩
          rw [← hI] at L1 H1 E1
          rw [← hX] at H1 N1 E1
          rw [← hX, ← hI]
          obtain ⟨s1, hsq⟩ : ∃ z, z = kuf s0 (675 + 0) X := ⟨_, rfl⟩
          obtain ⟨u1, huq⟩ : ∃ z, z = kuf u0 0 X := ⟨_, rfl⟩
          rw [← huq] at H1 E1
          rw [← hsq]
          replace N1 : ¬ u1 0 = 0 := by rw [huq, kuf_eq]; exact N1
          have G1 := G0.trans H1
          have A1 : agr s s1 := fun q hq => by rw [hsq, kuf_ne (by omega)]; exact A0 q hq
          have F1 : ∀ j, j < 1 → s1 (675 + j) = u1 j := by
            intro j hj
            rw [hsq, huq]
            by_cases e : j = 0
            · rw [e, kuf_eq, kuf_eq]
            · rw [kuf_ne (by omega), kuf_ne e]; exact F0 j (by omega)
          refine kw_iinc (pc := 74) dX6_readsParcel_74 (by decide) rfl rfl rfl ?_
          refine kw_goto (tgt := 2) (pc := 77) dX6_readsParcel_77 (by decide) ?_
          refine kW.locs (L' := [(0, .ref mo), (1, .int 1)]) ?_ ⟨rfl, rfl, trivial⟩
          refine kw_iload_n (pc := 2) dX6_readsParcel_2 rfl ?_
          refine kw_iconst (v := 4) (pc := 3) dX6_readsParcel_3 (by decide) ?_
          refine kw_icmp_ge (tgt := 80) (pc := 4) dX6_readsParcel_4 (by decide) (fun h4 => ?_) (fun h4 => ?_)
          · exact absurd h4 (by decide)
          · refine kw_iload_n (pc := 7) dX6_readsParcel_7 rfl ?_
            refine kw_if_le (tgt := 32) (pc := 8) dX6_readsParcel_8 (by decide) (fun h8 => ?_) (fun h8 => ?_)
            · exact absurd h8 (by decide)
            · refine kw_aload_n (pc := 11) dX6_readsParcel_11 rfl ?_
              refine kw_iload_n (pc := 12) dX6_readsParcel_12 rfl ?_
              refine kw_iconst (v := 3) (pc := 13) dX6_readsParcel_13 (by decide) ?_
              refine kw_icmp_ge (tgt := 22) (pc := 14) dX6_readsParcel_14 (by decide) (fun h14 => ?_) (fun h14 => ?_)
              · exact absurd h14 (by decide)
              · refine kw_bipush (v := 120) (pc := 17) dX6_readsParcel_17 (by decide) ?_
                refine kw_goto (tgt := 24) (pc := 19) dX6_readsParcel_19 (by decide) ?_
                by_cases hs24 : hereF bf T i1 (endC 0) (endC 0)
                · refine kw_callVw1 (pc := 24) dX6_readsParcel_24 lX6_145 (c_takesT (i := i1) hT hT60 rfl (by omega) hs24) mM_0 rfl rfl rfl ⟨by decide, by decide, Nat.le_of_ble_eq_true rfl⟩ (fun w1 hw1 => ?_)
                  have hw1 : w1 = _ := hw1
                  subst hw1
                  have hJT : i1 < T := hs24.1
                  have hcc : bf i1 = endC 0 := Int32.le_antisymm hs24.2.2 hs24.2.1
                  have GJ1 : go bf T (0, v) i = go bf T (1, kuf u1 1 0) (i1 + 1) := G1.trans (go_one hs24.1 (show ¬ (0 : Nat) = 6 by decide) (by rw [hcc]; exact stp_end (by decide) N1))
                  refine kw_if_ne (tgt := 32) (pc := 27) dX6_readsParcel_27 (by decide) (fun h27 => ?_) (fun h27 => ?_)
                  · refine kw_aload_n (pc := 32) dX6_readsParcel_32 rfl ?_
                    refine kw_getfield (pc := 33) kfw dX6_readsParcel_33 fX6_7 mM_0 rfl ?_
                    refine kw_sipush (v := 675) (pc := 36) dX6_readsParcel_36 (by decide) ?_
                    refine kw_iload_n (pc := 39) dX6_readsParcel_39 rfl ?_
                    refine kw_iadd (pc := 40) dX6_readsParcel_40 ?_
                    refine kw_aload_n (pc := 41) dX6_readsParcel_41 rfl ?_
                    refine kw_iload_n (pc := 42) dX6_readsParcel_42 rfl ?_
                    refine kw_iconst (v := 3) (pc := 43) dX6_readsParcel_43 (by decide) ?_
                    refine kw_icmp_ge (tgt := 52) (pc := 44) dX6_readsParcel_44 (by decide) (fun h44 => ?_) (fun h44 => ?_)
                    · exact absurd h44 (by decide)
                    · refine kw_bipush (v := 60) (pc := 47) dX6_readsParcel_47 (by decide) ?_
                      refine kw_goto (tgt := 54) (pc := 49) dX6_readsParcel_49 (by decide) ?_
                      refine kw_callVw1 (pc := 54) dX6_readsParcel_54 lX6_149 (c_number (i := (i1 + 1)) hT hT60 rfl (by omega) (most 1)) mM_0 rfl rfl rfl ⟨by decide, by decide, Nat.le_of_ble_eq_true rfl⟩ (fun w1 hw1 => ?_)
                      have hw1 : w1 = _ := hw1
                      subst hw1
                      refine kw_iastoreN (pc := 57) (i := (675 + 1)) dX6_readsParcel_57 mM_1 (kA (a := 675) (b := 1) (rfl : (675 : Int32) = nI 675) (rfl : (1 : Int32) = nI 1)) (by omega) (by decide) (kW.eq mMs_1 rfl ?_)
                      refine kw_aload_n (pc := 58) dX6_readsParcel_58 rfl ?_
                      refine kw_getfield (pc := 59) kfw dX6_readsParcel_59 fX6_7 mM_0 rfl ?_
                      refine kw_sipush (v := 675) (pc := 62) dX6_readsParcel_62 (by decide) ?_
                      refine kw_iload_n (pc := 65) dX6_readsParcel_65 rfl ?_
                      refine kw_iadd (pc := 66) dX6_readsParcel_66 ?_
                      refine kw_ialoadN (pc := 67) (i := (675 + 1)) dX6_readsParcel_67 mM_1 (kA (a := 675) (b := 1) (rfl : (675 : Int32) = nI 675) (rfl : (1 : Int32) = nI 1)) (by omega) (by decide) ?_
                      refine kw_iconst (v := -1) (pc := 68) dX6_readsParcel_68 (by decide) ?_
                      refine kw_icmp_ne (tgt := 74) (pc := 69) dX6_readsParcel_69 (by decide) (fun h69 => ?_) (fun h69 => ?_)
                      · rw [kuf_eq] at h69
                        obtain ⟨L2, H2, N2, E2⟩ := num_ok (bf := bf) (T := T) (i := (i1 + 1)) (p := 1) (u := (kuf u1 1 0)) (by decide) (kuf_eq _ _ _) (by omega) h69
                        obtain ⟨X, hX⟩ : ∃ z, z = nmV bf T (i1 + 1) (most 1) := ⟨_, rfl⟩
                        obtain ⟨i2, hI⟩ : ∃ z, z = nmI bf T (i1 + 1) (most 1) := ⟨_, rfl⟩
                        rw [← hI] at L2 H2 E2
                        rw [← hX] at H2 N2 E2
                        rw [← hX, ← hI]
                        obtain ⟨s2, hsq⟩ : ∃ z, z = kuf s1 (675 + 1) X := ⟨_, rfl⟩
                        obtain ⟨u2, huq⟩ : ∃ z, z = kuf (kuf u1 1 0) 1 X := ⟨_, rfl⟩
                        rw [← huq] at H2 E2
                        rw [← hsq]
                        replace N2 : ¬ u2 1 = 0 := by rw [huq, kuf_eq]; exact N2
                        have G2 := GJ1.trans H2
                        have A2 : agr s s2 := fun q hq => by rw [hsq, kuf_ne (by omega)]; exact A1 q hq
                        have F2 : ∀ j, j < 2 → s2 (675 + j) = u2 j := by
                          intro j hj
                          rw [hsq, huq]
                          by_cases e : j = 1
                          · rw [e, kuf_eq, kuf_eq]
                          · rw [kuf_ne (by omega), kuf_ne e, kuf_ne e]; exact F1 j (by omega)
                        refine kw_iinc (pc := 74) dX6_readsParcel_74 (by decide) rfl rfl rfl ?_
                        refine kw_goto (tgt := 2) (pc := 77) dX6_readsParcel_77 (by decide) ?_
                        refine kW.locs (L' := [(0, .ref mo), (1, .int 2)]) ?_ ⟨rfl, rfl, trivial⟩
                        refine kw_iload_n (pc := 2) dX6_readsParcel_2 rfl ?_
                        refine kw_iconst (v := 4) (pc := 3) dX6_readsParcel_3 (by decide) ?_
                        refine kw_icmp_ge (tgt := 80) (pc := 4) dX6_readsParcel_4 (by decide) (fun h4 => ?_) (fun h4 => ?_)
                        · exact absurd h4 (by decide)
                        · refine kw_iload_n (pc := 7) dX6_readsParcel_7 rfl ?_
                          refine kw_if_le (tgt := 32) (pc := 8) dX6_readsParcel_8 (by decide) (fun h8 => ?_) (fun h8 => ?_)
                          · exact absurd h8 (by decide)
                          · refine kw_aload_n (pc := 11) dX6_readsParcel_11 rfl ?_
                            refine kw_iload_n (pc := 12) dX6_readsParcel_12 rfl ?_
                            refine kw_iconst (v := 3) (pc := 13) dX6_readsParcel_13 (by decide) ?_
                            refine kw_icmp_ge (tgt := 22) (pc := 14) dX6_readsParcel_14 (by decide) (fun h14 => ?_) (fun h14 => ?_)
                            · exact absurd h14 (by decide)
                            · refine kw_bipush (v := 120) (pc := 17) dX6_readsParcel_17 (by decide) ?_
                              refine kw_goto (tgt := 24) (pc := 19) dX6_readsParcel_19 (by decide) ?_
                              by_cases hs24 : hereF bf T i2 (endC 1) (endC 1)
                              · refine kw_callVw1 (pc := 24) dX6_readsParcel_24 lX6_145 (c_takesT (i := i2) hT hT60 rfl (by omega) hs24) mM_0 rfl rfl rfl ⟨by decide, by decide, Nat.le_of_ble_eq_true rfl⟩ (fun w1 hw1 => ?_)
                                have hw1 : w1 = _ := hw1
                                subst hw1
                                have hJT : i2 < T := hs24.1
                                have hcc : bf i2 = endC 1 := Int32.le_antisymm hs24.2.2 hs24.2.1
                                have GJ2 : go bf T (0, v) i = go bf T (2, kuf u2 2 0) (i2 + 1) := G2.trans (go_one hs24.1 (show ¬ (1 : Nat) = 6 by decide) (by rw [hcc]; exact stp_end (by decide) N2))
                                refine kw_if_ne (tgt := 32) (pc := 27) dX6_readsParcel_27 (by decide) (fun h27 => ?_) (fun h27 => ?_)
                                · refine kw_aload_n (pc := 32) dX6_readsParcel_32 rfl ?_
                                  refine kw_getfield (pc := 33) kfw dX6_readsParcel_33 fX6_7 mM_0 rfl ?_
                                  refine kw_sipush (v := 675) (pc := 36) dX6_readsParcel_36 (by decide) ?_
                                  refine kw_iload_n (pc := 39) dX6_readsParcel_39 rfl ?_
                                  refine kw_iadd (pc := 40) dX6_readsParcel_40 ?_
                                  refine kw_aload_n (pc := 41) dX6_readsParcel_41 rfl ?_
                                  refine kw_iload_n (pc := 42) dX6_readsParcel_42 rfl ?_
                                  refine kw_iconst (v := 3) (pc := 43) dX6_readsParcel_43 (by decide) ?_
                                  refine kw_icmp_ge (tgt := 52) (pc := 44) dX6_readsParcel_44 (by decide) (fun h44 => ?_) (fun h44 => ?_)
                                  · exact absurd h44 (by decide)
                                  · refine kw_bipush (v := 60) (pc := 47) dX6_readsParcel_47 (by decide) ?_
                                    refine kw_goto (tgt := 54) (pc := 49) dX6_readsParcel_49 (by decide) ?_
                                    refine kw_callVw1 (pc := 54) dX6_readsParcel_54 lX6_149 (c_number (i := (i2 + 1)) hT hT60 rfl (by omega) (most 2)) mM_0 rfl rfl rfl ⟨by decide, by decide, Nat.le_of_ble_eq_true rfl⟩ (fun w1 hw1 => ?_)
                                    have hw1 : w1 = _ := hw1
                                    subst hw1
                                    refine kw_iastoreN (pc := 57) (i := (675 + 2)) dX6_readsParcel_57 mM_1 (kA (a := 675) (b := 2) (rfl : (675 : Int32) = nI 675) (rfl : (2 : Int32) = nI 2)) (by omega) (by decide) (kW.eq mMs_1 rfl ?_)
                                    refine kw_aload_n (pc := 58) dX6_readsParcel_58 rfl ?_
                                    refine kw_getfield (pc := 59) kfw dX6_readsParcel_59 fX6_7 mM_0 rfl ?_
                                    refine kw_sipush (v := 675) (pc := 62) dX6_readsParcel_62 (by decide) ?_
                                    refine kw_iload_n (pc := 65) dX6_readsParcel_65 rfl ?_
                                    refine kw_iadd (pc := 66) dX6_readsParcel_66 ?_
                                    refine kw_ialoadN (pc := 67) (i := (675 + 2)) dX6_readsParcel_67 mM_1 (kA (a := 675) (b := 2) (rfl : (675 : Int32) = nI 675) (rfl : (2 : Int32) = nI 2)) (by omega) (by decide) ?_
                                    refine kw_iconst (v := -1) (pc := 68) dX6_readsParcel_68 (by decide) ?_
                                    refine kw_icmp_ne (tgt := 74) (pc := 69) dX6_readsParcel_69 (by decide) (fun h69 => ?_) (fun h69 => ?_)
                                    · rw [kuf_eq] at h69
                                      obtain ⟨L3, H3, N3, E3⟩ := num_ok (bf := bf) (T := T) (i := (i2 + 1)) (p := 2) (u := (kuf u2 2 0)) (by decide) (kuf_eq _ _ _) (by omega) h69
                                      obtain ⟨X, hX⟩ : ∃ z, z = nmV bf T (i2 + 1) (most 2) := ⟨_, rfl⟩
                                      obtain ⟨i3, hI⟩ : ∃ z, z = nmI bf T (i2 + 1) (most 2) := ⟨_, rfl⟩
                                      rw [← hI] at L3 H3 E3
                                      rw [← hX] at H3 N3 E3
                                      rw [← hX, ← hI]
                                      obtain ⟨s3, hsq⟩ : ∃ z, z = kuf s2 (675 + 2) X := ⟨_, rfl⟩
                                      obtain ⟨u3, huq⟩ : ∃ z, z = kuf (kuf u2 2 0) 2 X := ⟨_, rfl⟩
                                      rw [← huq] at H3 E3
                                      rw [← hsq]
                                      replace N3 : ¬ u3 2 = 0 := by rw [huq, kuf_eq]; exact N3
                                      have G3 := GJ2.trans H3
                                      have A3 : agr s s3 := fun q hq => by rw [hsq, kuf_ne (by omega)]; exact A2 q hq
                                      have F3 : ∀ j, j < 3 → s3 (675 + j) = u3 j := by
                                        intro j hj
                                        rw [hsq, huq]
                                        by_cases e : j = 2
                                        · rw [e, kuf_eq, kuf_eq]
                                        · rw [kuf_ne (by omega), kuf_ne e, kuf_ne e]; exact F2 j (by omega)
                                      refine kw_iinc (pc := 74) dX6_readsParcel_74 (by decide) rfl rfl rfl ?_
                                      refine kw_goto (tgt := 2) (pc := 77) dX6_readsParcel_77 (by decide) ?_
                                      refine kW.locs (L' := [(0, .ref mo), (1, .int 3)]) ?_ ⟨rfl, rfl, trivial⟩
                                      refine kw_iload_n (pc := 2) dX6_readsParcel_2 rfl ?_
                                      refine kw_iconst (v := 4) (pc := 3) dX6_readsParcel_3 (by decide) ?_
                                      refine kw_icmp_ge (tgt := 80) (pc := 4) dX6_readsParcel_4 (by decide) (fun h4 => ?_) (fun h4 => ?_)
                                      · exact absurd h4 (by decide)
                                      · refine kw_iload_n (pc := 7) dX6_readsParcel_7 rfl ?_
                                        refine kw_if_le (tgt := 32) (pc := 8) dX6_readsParcel_8 (by decide) (fun h8 => ?_) (fun h8 => ?_)
                                        · exact absurd h8 (by decide)
                                        · refine kw_aload_n (pc := 11) dX6_readsParcel_11 rfl ?_
                                          refine kw_iload_n (pc := 12) dX6_readsParcel_12 rfl ?_
                                          refine kw_iconst (v := 3) (pc := 13) dX6_readsParcel_13 (by decide) ?_
                                          refine kw_icmp_ge (tgt := 22) (pc := 14) dX6_readsParcel_14 (by decide) (fun h14 => ?_) (fun h14 => ?_)
                                          · refine kw_bipush (v := 42) (pc := 22) dX6_readsParcel_22 (by decide) ?_
                                            by_cases hs24 : hereF bf T i3 (endC 2) (endC 2)
                                            · refine kw_callVw1 (pc := 24) dX6_readsParcel_24 lX6_145 (c_takesT (i := i3) hT hT60 rfl (by omega) hs24) mM_0 rfl rfl rfl ⟨by decide, by decide, Nat.le_of_ble_eq_true rfl⟩ (fun w1 hw1 => ?_)
                                              have hw1 : w1 = _ := hw1
                                              subst hw1
                                              have hJT : i3 < T := hs24.1
                                              have hcc : bf i3 = endC 2 := Int32.le_antisymm hs24.2.2 hs24.2.1
                                              have GJ3 : go bf T (0, v) i = go bf T (3, kuf u3 3 0) (i3 + 1) := G3.trans (go_one hs24.1 (show ¬ (2 : Nat) = 6 by decide) (by rw [hcc]; exact stp_end (by decide) N3))
                                              refine kw_if_ne (tgt := 32) (pc := 27) dX6_readsParcel_27 (by decide) (fun h27 => ?_) (fun h27 => ?_)
                                              · refine kw_aload_n (pc := 32) dX6_readsParcel_32 rfl ?_
                                                refine kw_getfield (pc := 33) kfw dX6_readsParcel_33 fX6_7 mM_0 rfl ?_
                                                refine kw_sipush (v := 675) (pc := 36) dX6_readsParcel_36 (by decide) ?_
                                                refine kw_iload_n (pc := 39) dX6_readsParcel_39 rfl ?_
                                                refine kw_iadd (pc := 40) dX6_readsParcel_40 ?_
                                                refine kw_aload_n (pc := 41) dX6_readsParcel_41 rfl ?_
                                                refine kw_iload_n (pc := 42) dX6_readsParcel_42 rfl ?_
                                                refine kw_iconst (v := 3) (pc := 43) dX6_readsParcel_43 (by decide) ?_
                                                refine kw_icmp_ge (tgt := 52) (pc := 44) dX6_readsParcel_44 (by decide) (fun h44 => ?_) (fun h44 => ?_)
                                                · refine kw_bipush (v := 99) (pc := 52) dX6_readsParcel_52 (by decide) ?_
                                                  refine kw_callVw1 (pc := 54) dX6_readsParcel_54 lX6_149 (c_number (i := (i3 + 1)) hT hT60 rfl (by omega) (most 3)) mM_0 rfl rfl rfl ⟨by decide, by decide, Nat.le_of_ble_eq_true rfl⟩ (fun w1 hw1 => ?_)
                                                  have hw1 : w1 = _ := hw1
                                                  subst hw1
                                                  refine kw_iastoreN (pc := 57) (i := (675 + 3)) dX6_readsParcel_57 mM_1 (kA (a := 675) (b := 3) (rfl : (675 : Int32) = nI 675) (rfl : (3 : Int32) = nI 3)) (by omega) (by decide) (kW.eq mMs_1 rfl ?_)
                                                  refine kw_aload_n (pc := 58) dX6_readsParcel_58 rfl ?_
                                                  refine kw_getfield (pc := 59) kfw dX6_readsParcel_59 fX6_7 mM_0 rfl ?_
                                                  refine kw_sipush (v := 675) (pc := 62) dX6_readsParcel_62 (by decide) ?_
                                                  refine kw_iload_n (pc := 65) dX6_readsParcel_65 rfl ?_
                                                  refine kw_iadd (pc := 66) dX6_readsParcel_66 ?_
                                                  refine kw_ialoadN (pc := 67) (i := (675 + 3)) dX6_readsParcel_67 mM_1 (kA (a := 675) (b := 3) (rfl : (675 : Int32) = nI 675) (rfl : (3 : Int32) = nI 3)) (by omega) (by decide) ?_
                                                  refine kw_iconst (v := -1) (pc := 68) dX6_readsParcel_68 (by decide) ?_
                                                  refine kw_icmp_ne (tgt := 74) (pc := 69) dX6_readsParcel_69 (by decide) (fun h69 => ?_) (fun h69 => ?_)
                                                  · rw [kuf_eq] at h69
                                                    obtain ⟨L4, H4, N4, E4⟩ := num_ok (bf := bf) (T := T) (i := (i3 + 1)) (p := 3) (u := (kuf u3 3 0)) (by decide) (kuf_eq _ _ _) (by omega) h69
                                                    obtain ⟨X, hX⟩ : ∃ z, z = nmV bf T (i3 + 1) (most 3) := ⟨_, rfl⟩
                                                    obtain ⟨i4, hI⟩ : ∃ z, z = nmI bf T (i3 + 1) (most 3) := ⟨_, rfl⟩
                                                    rw [← hI] at L4 H4 E4
                                                    rw [← hX] at H4 N4 E4
                                                    rw [← hX, ← hI]
                                                    obtain ⟨s4, hsq⟩ : ∃ z, z = kuf s3 (675 + 3) X := ⟨_, rfl⟩
                                                    obtain ⟨u4, huq⟩ : ∃ z, z = kuf (kuf u3 3 0) 3 X := ⟨_, rfl⟩
                                                    rw [← huq] at H4 E4
                                                    rw [← hsq]
                                                    replace N4 : ¬ u4 3 = 0 := by rw [huq, kuf_eq]; exact N4
                                                    have G4 := GJ3.trans H4
                                                    have A4 : agr s s4 := fun q hq => by rw [hsq, kuf_ne (by omega)]; exact A3 q hq
                                                    have F4 : ∀ j, j < 4 → s4 (675 + j) = u4 j := by
                                                      intro j hj
                                                      rw [hsq, huq]
                                                      by_cases e : j = 3
                                                      · rw [e, kuf_eq, kuf_eq]
                                                      · rw [kuf_ne (by omega), kuf_ne e, kuf_ne e]; exact F3 j (by omega)
                                                    refine kw_iinc (pc := 74) dX6_readsParcel_74 (by decide) rfl rfl rfl ?_
                                                    refine kw_goto (tgt := 2) (pc := 77) dX6_readsParcel_77 (by decide) ?_
                                                    refine kW.locs (L' := [(0, .ref mo), (1, .int 4)]) ?_ ⟨rfl, rfl, trivial⟩
                                                    refine kw_iload_n (pc := 2) dX6_readsParcel_2 rfl ?_
                                                    refine kw_iconst (v := 4) (pc := 3) dX6_readsParcel_3 (by decide) ?_
                                                    refine kw_icmp_ge (tgt := 80) (pc := 4) dX6_readsParcel_4 (by decide) (fun h4 => ?_) (fun h4 => ?_)
                                                    · refine kw_aload_n (pc := 80) dX6_readsParcel_80 rfl ?_
                                                      refine kw_bipush (v := 122) (pc := 81) dX6_readsParcel_81 (by decide) ?_
                                                      by_cases hs83 : hereF bf T i4 (endC 3) (endC 3)
                                                      · refine kw_callVw1 (pc := 83) dX6_readsParcel_83 lX6_145 (c_takesT (i := i4) hT hT60 rfl (by omega) hs83) mM_0 rfl rfl rfl ⟨by decide, by decide, Nat.le_of_ble_eq_true rfl⟩ (fun w1 hw1 => ?_)
                                                        have hw1 : w1 = _ := hw1
                                                        subst hw1
                                                        have hJT : i4 < T := hs83.1
                                                        have hcc : bf i4 = endC 3 := Int32.le_antisymm hs83.2.2 hs83.2.1
                                                        have GJ : go bf T (0, v) i = go bf T (4, kuf u4 4 0) (i4 + 1) := G4.trans (go_one hs83.1 (show ¬ (3 : Nat) = 6 by decide) (by rw [hcc]; exact stp_end (by decide) N4))
                                                        refine kw_if_eq (tgt := 100) (pc := 86) dX6_readsParcel_86 (by decide) (fun h86 => ?_) (fun h86 => ?_)
                                                        · exact absurd h86 (by decide)
                                                        · refine kw_aload_n (pc := 89) dX6_readsParcel_89 rfl ?_
                                                          refine kw_bipush (v := 48) (pc := 90) dX6_readsParcel_90 (by decide) ?_
                                                          refine kw_bipush (v := 51) (pc := 92) dX6_readsParcel_92 (by decide) ?_
                                                          by_cases hs94 : hereF bf T (i4 + 1) 48 51
                                                          · refine kw_callVr (pc := 94) dX6_readsParcel_94 lX6_141 (c_isHereT (i := (i4 + 1)) hT hT60 rfl (by omega) hs94) mM_0 rfl rfl rfl ⟨by decide, by decide, Nat.le_of_ble_eq_true rfl⟩ ?_
                                                            have hJ2 : i4 + 1 < T := hs94.1
                                                            have GZ : go bf T (0, v) i = go bf T (5, kuf (kuf u4 4 0) 4 (bf (i4 + 1) - 48)) (i4 + 1 + 1) := GJ.trans (go_one hs94.1 (show ¬ (4 : Nat) = 6 by decide) (stp_zone hs94.2))
                                                            refine kw_if_ne (tgt := 102) (pc := 97) dX6_readsParcel_97 (by decide) (fun h97 => ?_) (fun h97 => ?_)
                                                            · refine kw_aload_n (pc := 102) dX6_readsParcel_102 rfl ?_
                                                              refine kw_getfield (pc := 103) kfw dX6_readsParcel_103 fX6_7 mM_0 rfl ?_
                                                              refine kw_sipush (v := 679) (pc := 106) dX6_readsParcel_106 (by decide) ?_
                                                              refine kw_aload_n (pc := 109) dX6_readsParcel_109 rfl ?_
                                                              refine kw_getfield (pc := 110) kfw dX6_readsParcel_110 fX6_17 mM_0 rfl ?_
                                                              refine kw_aload_n (pc := 113) dX6_readsParcel_113 rfl ?_
                                                              refine kw_getfield (pc := 114) kfw dX6_readsParcel_114 fX6_138 mM_0 rfl ?_
                                                              refine kw_caloadN (pc := 117) (i := (i4 + 1)) dX6_readsParcel_117 mM_3 rfl (by omega) (by decide) ?_
                                                              refine kw_bipush (v := 48) (pc := 118) dX6_readsParcel_118 (by decide) ?_
                                                              refine kw_isub (pc := 120) dX6_readsParcel_120 ?_
                                                              refine kw_iastoreN (pc := 121) (i := 679) dX6_readsParcel_121 mM_1 (rfl : (679 : Int32) = nI 679) (by omega) (by decide) (kW.eq mMs_1 rfl ?_)
                                                              refine kw_aload_n (pc := 122) dX6_readsParcel_122 rfl ?_
                                                              refine kw_dup (pc := 123) dX6_readsParcel_123 rfl ?_
                                                              refine kw_getfield (pc := 124) kfw dX6_readsParcel_124 fX6_138 mM_0 rfl ?_
                                                              refine kw_iconst (v := 1) (pc := 127) dX6_readsParcel_127 (by decide) ?_
                                                              refine kw_iadd (pc := 128) dX6_readsParcel_128 ?_
                                                              refine kw_putfield (pc := 129) kfw dX6_readsParcel_129 fX6_138 mM_0 (fun _ _ => rfl) (fun _ _ => rfl) (kW.eq mMf_8 rfl ?_)
                                                              refine kw_aload_n (pc := 132) dX6_readsParcel_132 rfl ?_
                                                              refine kw_getfield (pc := 133) kfw dX6_readsParcel_133 fX6_7 mM_0 rfl ?_
                                                              refine kw_sipush (v := 681) (pc := 136) dX6_readsParcel_136 (by decide) ?_
                                                              refine kw_aload_n (pc := 139) dX6_readsParcel_139 rfl ?_
                                                              refine kw_bipush (v := 114) (pc := 140) dX6_readsParcel_140 (by decide) ?_
                                                              by_cases hs142 : hereF bf T (i4 + 1 + 1) 114 114
                                                              · refine kw_callVw1 (pc := 142) dX6_readsParcel_142 lX6_145 (c_takesT (i := ((i4 + 1) + 1)) hT hT60 (kA (a := (i4 + 1)) (b := 1) rfl (rfl : (1 : Int32) = nI 1)) (by omega) hs142) mM_0 rfl rfl rfl ⟨by decide, by decide, Nat.le_of_ble_eq_true rfl⟩ (fun w1 hw1 => ?_)
                                                                have hw1 : w1 = _ := hw1
                                                                subst hw1
                                                                have hcc : bf (i4 + 1 + 1) = 114 := Int32.le_antisymm hs142.2.2 hs142.2.1
                                                                have hR : go bf T (0, v) i = (i4 + 1 + 1 + 1, (6, kuf (kuf (kuf u4 4 0) 4 (bf (i4 + 1) - 48)) 5 0)) := (GZ.trans (go_one hs142.1 (show ¬ (5 : Nat) = 6 by decide) (by rw [hcc]; rfl))).trans (go_six rfl)
                                                                refine kw_if_eq (tgt := 152) (pc := 145) dX6_readsParcel_145 (by decide) (fun h145 => ?_) (fun h145 => ?_)
                                                                · exact absurd h145 (by decide)
                                                                · refine kw_iconst (v := 0) (pc := 148) dX6_readsParcel_148 (by decide) ?_
                                                                  refine kw_goto (tgt := 179) (pc := 149) dX6_readsParcel_149 (by decide) ?_
                                                                  refine kw_iastoreN (pc := 179) (i := 681) dX6_readsParcel_179 mM_1 (rfl : (681 : Int32) = nI 681) (by omega) (by decide) (kW.eq mMs_1 rfl ?_)
                                                                  refine kw_aload_n (pc := 180) dX6_readsParcel_180 rfl ?_
                                                                  refine kw_getfield (pc := 181) kfw dX6_readsParcel_181 fX6_7 mM_0 rfl ?_
                                                                  refine kw_sipush (v := 681) (pc := 184) dX6_readsParcel_184 (by decide) ?_
                                                                  refine kw_ialoadN (pc := 187) (i := 681) dX6_readsParcel_187 mM_1 (rfl : (681 : Int32) = nI 681) (by omega) (by decide) ?_
                                                                  refine kW.eq (st' := [.int (0)]) rfl (by rw [kuf_eq]) ?_
                                                                  refine kw_iconst (v := -1) (pc := 188) dX6_readsParcel_188 (by decide) ?_
                                                                  refine kw_icmp_eq (tgt := 196) (pc := 189) dX6_readsParcel_189 (by decide) (fun h189 => ?_) (fun h189 => ?_)
                                                                  · exact absurd h189 (by decide)
                                                                  · refine kw_iconst (v := 1) (pc := 192) dX6_readsParcel_192 (by decide) ?_
                                                                    refine kw_goto (tgt := 197) (pc := 193) dX6_readsParcel_193 (by decide) ?_
                                                                    exact kw_ireturn nlX6_readsParcel (pc := 197) dX6_readsParcel_197 rfl (by first | rfl | exact b2i_z _ | exact hbool) ⟨kv_eq (by rw [hR]; exact (b2i_t (show (6 : Nat) = 6 by decide)).symm), ⟨_, by rw [hR] <;> rfl, fun q hq => by rw [kuf_ne (by omega), kuf_ne (by omega)]; exact A4 q hq, fun _ => by rw [hR]; exact rp_fin F4⟩, rfl⟩
                                                              · refine kw_callVw1 (pc := 142) dX6_readsParcel_142 lX6_145 (c_takesF (i := ((i4 + 1) + 1)) hT hT60 (kA (a := (i4 + 1)) (b := 1) rfl (rfl : (1 : Int32) = nI 1)) (by omega) hs142) mM_0 rfl rfl rfl ⟨by decide, by decide, Nat.le_of_ble_eq_true rfl⟩ (fun w1 hw1 => ?_)
                                                                have hw1 : w1 = _ := hw1
                                                                subst hw1
                                                                refine kw_if_eq (tgt := 152) (pc := 145) dX6_readsParcel_145 (by decide) (fun h145 => ?_) (fun h145 => ?_)
                                                                · refine kw_aload_n (pc := 152) dX6_readsParcel_152 rfl ?_
                                                                  refine kw_bipush (v := 99) (pc := 153) dX6_readsParcel_153 (by decide) ?_
                                                                  by_cases hs155 : hereF bf T (i4 + 1 + 1) 99 99
                                                                  · refine kw_callVw1 (pc := 155) dX6_readsParcel_155 lX6_145 (c_takesT (i := ((i4 + 1) + 1)) hT hT60 rfl (by omega) hs155) mM_0 rfl rfl rfl ⟨by decide, by decide, Nat.le_of_ble_eq_true rfl⟩ (fun w1 hw1 => ?_)
                                                                    have hw1 : w1 = _ := hw1
                                                                    subst hw1
                                                                    have hcc : bf (i4 + 1 + 1) = 99 := Int32.le_antisymm hs155.2.2 hs155.2.1
                                                                    have hR : go bf T (0, v) i = (i4 + 1 + 1 + 1, (6, kuf (kuf (kuf u4 4 0) 4 (bf (i4 + 1) - 48)) 5 1)) := (GZ.trans (go_one hs155.1 (show ¬ (5 : Nat) = 6 by decide) (by rw [hcc]; rfl))).trans (go_six rfl)
                                                                    refine kw_if_eq (tgt := 165) (pc := 158) dX6_readsParcel_158 (by decide) (fun h158 => ?_) (fun h158 => ?_)
                                                                    · exact absurd h158 (by decide)
                                                                    · refine kw_iconst (v := 1) (pc := 161) dX6_readsParcel_161 (by decide) ?_
                                                                      refine kw_goto (tgt := 179) (pc := 162) dX6_readsParcel_162 (by decide) ?_
                                                                      refine kw_iastoreN (pc := 179) (i := 681) dX6_readsParcel_179 mM_1 (rfl : (681 : Int32) = nI 681) (by omega) (by decide) (kW.eq mMs_1 rfl ?_)
                                                                      refine kw_aload_n (pc := 180) dX6_readsParcel_180 rfl ?_
                                                                      refine kw_getfield (pc := 181) kfw dX6_readsParcel_181 fX6_7 mM_0 rfl ?_
                                                                      refine kw_sipush (v := 681) (pc := 184) dX6_readsParcel_184 (by decide) ?_
                                                                      refine kw_ialoadN (pc := 187) (i := 681) dX6_readsParcel_187 mM_1 (rfl : (681 : Int32) = nI 681) (by omega) (by decide) ?_
                                                                      refine kW.eq (st' := [.int (1)]) rfl (by rw [kuf_eq]) ?_
                                                                      refine kw_iconst (v := -1) (pc := 188) dX6_readsParcel_188 (by decide) ?_
                                                                      refine kw_icmp_eq (tgt := 196) (pc := 189) dX6_readsParcel_189 (by decide) (fun h189 => ?_) (fun h189 => ?_)
                                                                      · exact absurd h189 (by decide)
                                                                      · refine kw_iconst (v := 1) (pc := 192) dX6_readsParcel_192 (by decide) ?_
                                                                        refine kw_goto (tgt := 197) (pc := 193) dX6_readsParcel_193 (by decide) ?_
                                                                        exact kw_ireturn nlX6_readsParcel (pc := 197) dX6_readsParcel_197 rfl (by first | rfl | exact b2i_z _ | exact hbool) ⟨kv_eq (by rw [hR]; exact (b2i_t (show (6 : Nat) = 6 by decide)).symm), ⟨_, by rw [hR] <;> rfl, fun q hq => by rw [kuf_ne (by omega), kuf_ne (by omega)]; exact A4 q hq, fun _ => by rw [hR]; exact rp_fin F4⟩, rfl⟩
                                                                  · refine kw_callVw1 (pc := 155) dX6_readsParcel_155 lX6_145 (c_takesF (i := ((i4 + 1) + 1)) hT hT60 rfl (by omega) hs155) mM_0 rfl rfl rfl ⟨by decide, by decide, Nat.le_of_ble_eq_true rfl⟩ (fun w1 hw1 => ?_)
                                                                    have hw1 : w1 = _ := hw1
                                                                    subst hw1
                                                                    refine kw_if_eq (tgt := 165) (pc := 158) dX6_readsParcel_158 (by decide) (fun h158 => ?_) (fun h158 => ?_)
                                                                    · refine kw_aload_n (pc := 165) dX6_readsParcel_165 rfl ?_
                                                                      refine kw_bipush (v := 100) (pc := 166) dX6_readsParcel_166 (by decide) ?_
                                                                      by_cases hs168 : hereF bf T (i4 + 1 + 1) 100 100
                                                                      · refine kw_callVw1 (pc := 168) dX6_readsParcel_168 lX6_145 (c_takesT (i := ((i4 + 1) + 1)) hT hT60 rfl (by omega) hs168) mM_0 rfl rfl rfl ⟨by decide, by decide, Nat.le_of_ble_eq_true rfl⟩ (fun w1 hw1 => ?_)
                                                                        have hw1 : w1 = _ := hw1
                                                                        subst hw1
                                                                        have hcc : bf (i4 + 1 + 1) = 100 := Int32.le_antisymm hs168.2.2 hs168.2.1
                                                                        have hR : go bf T (0, v) i = (i4 + 1 + 1 + 1, (6, kuf (kuf (kuf u4 4 0) 4 (bf (i4 + 1) - 48)) 5 2)) := (GZ.trans (go_one hs168.1 (show ¬ (5 : Nat) = 6 by decide) (by rw [hcc]; rfl))).trans (go_six rfl)
                                                                        refine kw_if_eq (tgt := 178) (pc := 171) dX6_readsParcel_171 (by decide) (fun h171 => ?_) (fun h171 => ?_)
                                                                        · exact absurd h171 (by decide)
                                                                        · refine kw_iconst (v := 2) (pc := 174) dX6_readsParcel_174 (by decide) ?_
                                                                          refine kw_goto (tgt := 179) (pc := 175) dX6_readsParcel_175 (by decide) ?_
                                                                          refine kw_iastoreN (pc := 179) (i := 681) dX6_readsParcel_179 mM_1 (rfl : (681 : Int32) = nI 681) (by omega) (by decide) (kW.eq mMs_1 rfl ?_)
                                                                          refine kw_aload_n (pc := 180) dX6_readsParcel_180 rfl ?_
                                                                          refine kw_getfield (pc := 181) kfw dX6_readsParcel_181 fX6_7 mM_0 rfl ?_
                                                                          refine kw_sipush (v := 681) (pc := 184) dX6_readsParcel_184 (by decide) ?_
                                                                          refine kw_ialoadN (pc := 187) (i := 681) dX6_readsParcel_187 mM_1 (rfl : (681 : Int32) = nI 681) (by omega) (by decide) ?_
                                                                          refine kW.eq (st' := [.int (2)]) rfl (by rw [kuf_eq]) ?_
                                                                          refine kw_iconst (v := -1) (pc := 188) dX6_readsParcel_188 (by decide) ?_
                                                                          refine kw_icmp_eq (tgt := 196) (pc := 189) dX6_readsParcel_189 (by decide) (fun h189 => ?_) (fun h189 => ?_)
                                                                          · exact absurd h189 (by decide)
                                                                          · refine kw_iconst (v := 1) (pc := 192) dX6_readsParcel_192 (by decide) ?_
                                                                            refine kw_goto (tgt := 197) (pc := 193) dX6_readsParcel_193 (by decide) ?_
                                                                            exact kw_ireturn nlX6_readsParcel (pc := 197) dX6_readsParcel_197 rfl (by first | rfl | exact b2i_z _ | exact hbool) ⟨kv_eq (by rw [hR]; exact (b2i_t (show (6 : Nat) = 6 by decide)).symm), ⟨_, by rw [hR] <;> rfl, fun q hq => by rw [kuf_ne (by omega), kuf_ne (by omega)]; exact A4 q hq, fun _ => by rw [hR]; exact rp_fin F4⟩, rfl⟩
                                                                      · refine kw_callVw1 (pc := 168) dX6_readsParcel_168 lX6_145 (c_takesF (i := ((i4 + 1) + 1)) hT hT60 rfl (by omega) hs168) mM_0 rfl rfl rfl ⟨by decide, by decide, Nat.le_of_ble_eq_true rfl⟩ (fun w1 hw1 => ?_)
                                                                        have hw1 : w1 = _ := hw1
                                                                        subst hw1
                                                                        have hR : go bf T (0, v) i = _ := GZ.trans (go_not2 hs168 (fun q h => stp_way_no (fun e => hs142 ⟨q, by rw [e]; exact ⟨Int32.le_refl _, Int32.le_refl _⟩⟩) (fun e => hs155 ⟨q, by rw [e]; exact ⟨Int32.le_refl _, Int32.le_refl _⟩⟩) (fun e => h (by rw [e]; exact ⟨Int32.le_refl _, Int32.le_refl _⟩))))
                                                                        refine kw_if_eq (tgt := 178) (pc := 171) dX6_readsParcel_171 (by decide) (fun h171 => ?_) (fun h171 => ?_)
                                                                        · refine kw_iconst (v := -1) (pc := 178) dX6_readsParcel_178 (by decide) ?_
                                                                          refine kw_iastoreN (pc := 179) (i := 681) dX6_readsParcel_179 mM_1 (rfl : (681 : Int32) = nI 681) (by omega) (by decide) (kW.eq mMs_1 rfl ?_)
                                                                          refine kw_aload_n (pc := 180) dX6_readsParcel_180 rfl ?_
                                                                          refine kw_getfield (pc := 181) kfw dX6_readsParcel_181 fX6_7 mM_0 rfl ?_
                                                                          refine kw_sipush (v := 681) (pc := 184) dX6_readsParcel_184 (by decide) ?_
                                                                          refine kw_ialoadN (pc := 187) (i := 681) dX6_readsParcel_187 mM_1 (rfl : (681 : Int32) = nI 681) (by omega) (by decide) ?_
                                                                          refine kW.eq (st' := [.int (-1)]) rfl (by rw [kuf_eq]) ?_
                                                                          refine kw_iconst (v := -1) (pc := 188) dX6_readsParcel_188 (by decide) ?_
                                                                          refine kw_icmp_eq (tgt := 196) (pc := 189) dX6_readsParcel_189 (by decide) (fun h189 => ?_) (fun h189 => ?_)
                                                                          · refine kw_iconst (v := 0) (pc := 196) dX6_readsParcel_196 (by decide) ?_
                                                                            exact kw_ireturn nlX6_readsParcel (pc := 197) dX6_readsParcel_197 rfl (by first | rfl | exact b2i_z _ | exact hbool) ⟨kv_eq (by rw [hR]; exact (b2i_f (show ¬ (5 : Nat) = 6 by decide)).symm), ⟨_, by rw [hR] <;> rfl, fun q hq => by rw [kuf_ne (by omega), kuf_ne (by omega)]; exact A4 q hq, fun h => absurd (by rw [hR] at h; exact h) (show ¬ (5 : Nat) = 6 by decide)⟩, rfl⟩
                                                                          · exact absurd (by decide) h189
                                                                        · exact absurd (by decide) h171
                                                                    · exact absurd (by decide) h158
                                                                · exact absurd (by decide) h145
                                                            · exact absurd h97 (by decide)
                                                          · refine kw_callVr (pc := 94) dX6_readsParcel_94 lX6_141 (c_isHereF (i := (i4 + 1)) hT hT60 rfl (by omega) hs94) mM_0 rfl rfl rfl ⟨by decide, by decide, Nat.le_of_ble_eq_true rfl⟩ ?_
                                                            have hR : go bf T (0, v) i = _ := GJ.trans (go_not2 hs94 (fun q h => stp_zone_no h (hB _ q)))
                                                            refine kw_if_ne (tgt := 102) (pc := 97) dX6_readsParcel_97 (by decide) (fun h97 => ?_) (fun h97 => ?_)
                                                            · exact absurd (by decide) h97
                                                            · have hA := A4
                                                              refine kw_iconst (v := 0) (pc := 100) dX6_readsParcel_100 (by decide) ?_
                                                              exact kw_ireturn nlX6_readsParcel (pc := 101) dX6_readsParcel_101 rfl (by first | rfl | exact b2i_z _ | exact hbool) ⟨kv_eq (by rw [hR]; exact (b2i_f (show ¬ (4 : Nat) = 6 by decide)).symm), ⟨_, by rw [hR] <;> rfl, hA, fun h => absurd (by rw [hR] at h; exact h) (show ¬ (4 : Nat) = 6 by decide)⟩, rfl⟩
                                                      · refine kw_callVw1 (pc := 83) dX6_readsParcel_83 lX6_145 (c_takesF (i := i4) hT hT60 rfl (by omega) hs83) mM_0 rfl rfl rfl ⟨by decide, by decide, Nat.le_of_ble_eq_true rfl⟩ (fun w1 hw1 => ?_)
                                                        have hw1 : w1 = _ := hw1
                                                        subst hw1
                                                        have hR : go bf T (0, v) i = _ := G4.trans (go_not hs83 E4)
                                                        refine kw_if_eq (tgt := 100) (pc := 86) dX6_readsParcel_86 (by decide) (fun h86 => ?_) (fun h86 => ?_)
                                                        · have hA := A4
                                                          refine kw_iconst (v := 0) (pc := 100) dX6_readsParcel_100 (by decide) ?_
                                                          exact kw_ireturn nlX6_readsParcel (pc := 101) dX6_readsParcel_101 rfl (by first | rfl | exact b2i_z _ | exact hbool) ⟨kv_eq (by rw [hR]; exact (b2i_f (show ¬ (3 : Nat) = 6 by decide)).symm), ⟨_, by rw [hR] <;> rfl, hA, fun h => absurd (by rw [hR] at h; exact h) (show ¬ (3 : Nat) = 6 by decide)⟩, rfl⟩
                                                        · exact absurd (by decide) h86
                                                    · exact absurd (by decide) h4
                                                  · rw [kuf_eq] at h69
                                                    obtain ⟨hn1, hn2⟩ := num_no (bf := bf) (T := T) (i := (i3 + 1)) (p := 3) (u := (kuf u3 3 0)) (by decide) (kuf_eq _ _ _) h69
                                                    have hR : go bf T (0, v) i = _ := GJ3.trans hn2
                                                    have hA : agr s (kuf s3 (675 + 3) (nmV bf T (i3 + 1) (most 3))) := fun q hq => by rw [kuf_ne (by omega)]; exact A3 q hq
                                                    refine kw_iconst (v := 0) (pc := 72) dX6_readsParcel_72 (by decide) ?_
                                                    exact kw_ireturn nlX6_readsParcel (pc := 73) dX6_readsParcel_73 rfl (by first | rfl | exact b2i_z _ | exact hbool) ⟨kv_eq (by rw [hR]; exact (b2i_f (show ¬ (3 : Nat) = 6 by decide)).symm), ⟨_, by rw [hR, hn1] <;> rfl, hA, fun h => absurd (by rw [hR] at h; exact h) (show ¬ (3 : Nat) = 6 by decide)⟩, rfl⟩
                                                · exact absurd (by decide) h44
                                              · exact absurd h27 (by decide)
                                            · refine kw_callVw1 (pc := 24) dX6_readsParcel_24 lX6_145 (c_takesF (i := i3) hT hT60 rfl (by omega) hs24) mM_0 rfl rfl rfl ⟨by decide, by decide, Nat.le_of_ble_eq_true rfl⟩ (fun w1 hw1 => ?_)
                                              have hw1 : w1 = _ := hw1
                                              subst hw1
                                              have hR : go bf T (0, v) i = _ := G3.trans (go_not hs24 E3)
                                              refine kw_if_ne (tgt := 32) (pc := 27) dX6_readsParcel_27 (by decide) (fun h27 => ?_) (fun h27 => ?_)
                                              · exact absurd (by decide) h27
                                              · have hA := A3
                                                refine kw_iconst (v := 0) (pc := 30) dX6_readsParcel_30 (by decide) ?_
                                                exact kw_ireturn nlX6_readsParcel (pc := 31) dX6_readsParcel_31 rfl (by first | rfl | exact b2i_z _ | exact hbool) ⟨kv_eq (by rw [hR]; exact (b2i_f (show ¬ (2 : Nat) = 6 by decide)).symm), ⟨_, by rw [hR] <;> rfl, hA, fun h => absurd (by rw [hR] at h; exact h) (show ¬ (2 : Nat) = 6 by decide)⟩, rfl⟩
                                          · exact absurd (by decide) h14
                                    · rw [kuf_eq] at h69
                                      obtain ⟨hn1, hn2⟩ := num_no (bf := bf) (T := T) (i := (i2 + 1)) (p := 2) (u := (kuf u2 2 0)) (by decide) (kuf_eq _ _ _) h69
                                      have hR : go bf T (0, v) i = _ := GJ2.trans hn2
                                      have hA : agr s (kuf s2 (675 + 2) (nmV bf T (i2 + 1) (most 2))) := fun q hq => by rw [kuf_ne (by omega)]; exact A2 q hq
                                      refine kw_iconst (v := 0) (pc := 72) dX6_readsParcel_72 (by decide) ?_
                                      exact kw_ireturn nlX6_readsParcel (pc := 73) dX6_readsParcel_73 rfl (by first | rfl | exact b2i_z _ | exact hbool) ⟨kv_eq (by rw [hR]; exact (b2i_f (show ¬ (2 : Nat) = 6 by decide)).symm), ⟨_, by rw [hR, hn1] <;> rfl, hA, fun h => absurd (by rw [hR] at h; exact h) (show ¬ (2 : Nat) = 6 by decide)⟩, rfl⟩
                                · exact absurd h27 (by decide)
                              · refine kw_callVw1 (pc := 24) dX6_readsParcel_24 lX6_145 (c_takesF (i := i2) hT hT60 rfl (by omega) hs24) mM_0 rfl rfl rfl ⟨by decide, by decide, Nat.le_of_ble_eq_true rfl⟩ (fun w1 hw1 => ?_)
                                have hw1 : w1 = _ := hw1
                                subst hw1
                                have hR : go bf T (0, v) i = _ := G2.trans (go_not hs24 E2)
                                refine kw_if_ne (tgt := 32) (pc := 27) dX6_readsParcel_27 (by decide) (fun h27 => ?_) (fun h27 => ?_)
                                · exact absurd (by decide) h27
                                · have hA := A2
                                  refine kw_iconst (v := 0) (pc := 30) dX6_readsParcel_30 (by decide) ?_
                                  exact kw_ireturn nlX6_readsParcel (pc := 31) dX6_readsParcel_31 rfl (by first | rfl | exact b2i_z _ | exact hbool) ⟨kv_eq (by rw [hR]; exact (b2i_f (show ¬ (1 : Nat) = 6 by decide)).symm), ⟨_, by rw [hR] <;> rfl, hA, fun h => absurd (by rw [hR] at h; exact h) (show ¬ (1 : Nat) = 6 by decide)⟩, rfl⟩
                      · rw [kuf_eq] at h69
                        obtain ⟨hn1, hn2⟩ := num_no (bf := bf) (T := T) (i := (i1 + 1)) (p := 1) (u := (kuf u1 1 0)) (by decide) (kuf_eq _ _ _) h69
                        have hR : go bf T (0, v) i = _ := GJ1.trans hn2
                        have hA : agr s (kuf s1 (675 + 1) (nmV bf T (i1 + 1) (most 1))) := fun q hq => by rw [kuf_ne (by omega)]; exact A1 q hq
                        refine kw_iconst (v := 0) (pc := 72) dX6_readsParcel_72 (by decide) ?_
                        exact kw_ireturn nlX6_readsParcel (pc := 73) dX6_readsParcel_73 rfl (by first | rfl | exact b2i_z _ | exact hbool) ⟨kv_eq (by rw [hR]; exact (b2i_f (show ¬ (1 : Nat) = 6 by decide)).symm), ⟨_, by rw [hR, hn1] <;> rfl, hA, fun h => absurd (by rw [hR] at h; exact h) (show ¬ (1 : Nat) = 6 by decide)⟩, rfl⟩
                  · exact absurd h27 (by decide)
                · refine kw_callVw1 (pc := 24) dX6_readsParcel_24 lX6_145 (c_takesF (i := i1) hT hT60 rfl (by omega) hs24) mM_0 rfl rfl rfl ⟨by decide, by decide, Nat.le_of_ble_eq_true rfl⟩ (fun w1 hw1 => ?_)
                  have hw1 : w1 = _ := hw1
                  subst hw1
                  have hR : go bf T (0, v) i = _ := G1.trans (go_not hs24 E1)
                  refine kw_if_ne (tgt := 32) (pc := 27) dX6_readsParcel_27 (by decide) (fun h27 => ?_) (fun h27 => ?_)
                  · exact absurd (by decide) h27
                  · have hA := A1
                    refine kw_iconst (v := 0) (pc := 30) dX6_readsParcel_30 (by decide) ?_
                    exact kw_ireturn nlX6_readsParcel (pc := 31) dX6_readsParcel_31 rfl (by first | rfl | exact b2i_z _ | exact hbool) ⟨kv_eq (by rw [hR]; exact (b2i_f (show ¬ (0 : Nat) = 6 by decide)).symm), ⟨_, by rw [hR] <;> rfl, hA, fun h => absurd (by rw [hR] at h; exact h) (show ¬ (0 : Nat) = 6 by decide)⟩, rfl⟩
        · rw [kuf_eq] at h69
          obtain ⟨hn1, hn2⟩ := num_no (bf := bf) (T := T) (i := i0) (p := 0) (u := u0) (by decide) V0 h69
          have hR : go bf T (0, v) i = _ := G0.trans hn2
          have hA : agr s (kuf s0 (675 + 0) (nmV bf T i0 (most 0))) := fun q hq => by rw [kuf_ne (by omega)]; exact A0 q hq
          refine kw_iconst (v := 0) (pc := 72) dX6_readsParcel_72 (by decide) ?_
          exact kw_ireturn nlX6_readsParcel (pc := 73) dX6_readsParcel_73 rfl (by first | rfl | exact b2i_z _ | exact hbool) ⟨kv_eq (by rw [hR]; exact (b2i_f (show ¬ (0 : Nat) = 6 by decide)).symm), ⟨_, by rw [hR, hn1] <;> rfl, hA, fun h => absurd (by rw [hR] at h; exact h) (show ¬ (0 : Nat) = 6 by decide)⟩, rfl⟩
    · exact absurd (by decide) h8
