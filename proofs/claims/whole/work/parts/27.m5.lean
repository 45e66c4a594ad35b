set_option maxRecDepth 100000 in
set_option maxHeartbeats 4000000 in
theorem c_wayFor {w0 : kM} {mo : Nat} {s : Nat → Int32} {sv : Int32} {kp bf : Nat → Int32} {ty th : Int32} {co ma : Nat → Int32} {sp : Int32}  {k : Nat} (hk : k < 7) (hf : ∀ v, v < 3 → fineP s (wyP (pa s (21 + 7 * k)) (nI v))) : kCtrW mX6_wayFor 4 [.ref mo, .int (nI k)] (mM w0 mo s sv kp bf ty th co ma sp) (some (.int (wyF s (pa s (21 + 7 * k))))) (fun w' => ∃ s', w' = (mM w0 mo s' sv kp bf ty th co ma sp) ∧ agr s s') := by
  refine kCtrW.of pl6 nlX6_wayFor rfl (Nat.le_of_ble_eq_true rfl) (fun n => ?_)
  have loop2 : ∀ (m v : Nat) (s1 : Nat → Int32), m = 3 - v → v ≤ 3 → agr s s1 → (∀ q, q < 6 → s1 (675 + q) = (pa s (21 + 7 * k)) q) → kW (0, fun _ => 0) mX6_wayFor 4 (fun o w' n' => o = .inl (some (.int (wyF s (pa s (21 + 7 * k))))) ∧ (fun w' => ∃ s', w' = (mM w0 mo s' sv kp bf ty th co ma sp) ∧ agr s s') w' ∧ n' = n) 0 0 n (mM w0 mo s1 sv kp bf ty th co ma sp) 46 [(0, .ref mo), (1, .int (nI k)), (2, .int (wyR s (pa s (21 + 7 * k)) v).1), (3, .int (wyR s (pa s (21 + 7 * k)) v).2), (4, .int (nI v))] [] := by
    intro m
    induction m using Nat.strongRecOn with
    | _ m ih =>
      intro v s1 hm hv ha1 hb1
      refine kw_iload (pc := 46) dX6_wayFor_46 rfl ?_
      refine kw_iconst (v := 3) (pc := 48) dX6_wayFor_48 (by decide) ?_
      refine kw_icmp_ge (tgt := 130) (pc := 49) dX6_wayFor_49 (by decide) (fun h49 => ?_) (fun h49 => ?_)
      · have h49 := (kLeI (a := 3) (b := v) (by omega) (by omega) (rfl : (3 : Int32) = nI 3) rfl).mp h49
        refine kw_iload_n (pc := 130) dX6_wayFor_130 rfl ?_
        exact kw_ireturn nlX6_wayFor (pc := 131) dX6_wayFor_131 rfl rfl ⟨kv_eq (by rw [show v = 3 by omega]; rfl), ⟨s1, rfl, ha1⟩, rfl⟩
      · have h49 := mt (kLeI (a := 3) (b := v) (by omega) (by omega) (rfl : (3 : Int32) = nI 3) rfl).mpr h49
        refine kw_aload_n (pc := 52) dX6_wayFor_52 rfl ?_
        refine kw_getfield (pc := 53) kfw dX6_wayFor_53 fX6_7 mM_0 rfl ?_
        refine kw_sipush (v := 681) (pc := 56) dX6_wayFor_56 (by decide) ?_
        refine kw_iload (pc := 59) dX6_wayFor_59 rfl ?_
        refine kw_iastoreN (pc := 61) (i := 681) dX6_wayFor_61 mM_1 (rfl : (681 : Int32) = nI 681) (by omega) (by decide) (kW.eq mMs_1 rfl ?_)
        obtain ⟨s2, hs2⟩ : ∃ z, z = kuf s1 681 (nI v) := ⟨_, rfl⟩
        rw [← hs2]
        have ha2 : agr s s2 := fun q hq => by rw [hs2, kuf_ne (by omega)]; exact ha1 q hq
        have hb2 : ∀ q, q < 7 → pa s2 675 q = wyP (pa s (21 + 7 * k)) (nI v) q := fun q hq => by
          show s2 (675 + q) = wyP (pa s (21 + 7 * k)) (nI v) q
          unfold wyP
          by_cases h6 : q = 6
          · rw [if_pos h6, h6, hs2, kuf_eq]
          · rw [if_neg h6, hs2, kuf_ne (by omega), hb1 q (by omega)]
        have f2 : fineP s2 (pa s2 675) := fineP_congr ha2.lo hb2 (hf v (by omega))
        have r2 : pR s2 (pa s2 675) = pR s (wyP (pa s (21 + 7 * k)) (nI v)) := pR_congr ha2.lo hb2
        have p2 : pP s2 (pa s2 675) = pP s (wyP (pa s (21 + 7 * k)) (nI v)) := pP_congr ha2.lo hb2 (hf v (by omega))
        refine kw_aload_n (pc := 62) dX6_wayFor_62 rfl ?_
        refine kw_sipush (v := 675) (pc := 63) dX6_wayFor_63 (by decide) ?_
        refine kw_callVr (pc := 66) dX6_wayFor_66 lX6_76 (c_reason (p := 675) (by decide)) mM_0 rfl rfl rfl ⟨by decide, by decide, Nat.le_of_ble_eq_true rfl⟩ ?_
        refine kw_if_ne (tgt := 92) (pc := 69) dX6_wayFor_69 (by decide) (fun h69 => ?_) (fun h69 => ?_)
        · refine kw_iconst (v := 0) (pc := 92) dX6_wayFor_92 (by decide) ?_
          refine kw_istore (pc := 93) dX6_wayFor_93 (by decide) rfl ?_
          refine kw_iload (pc := 95) dX6_wayFor_95 rfl ?_
          refine kw_if_eq (tgt := 105) (pc := 97) dX6_wayFor_97 (by decide) (fun h97 => ?_) (fun h97 => ?_)
          · refine kw_iload_n (pc := 105) dX6_wayFor_105 rfl ?_
            refine kw_istore_n (pc := 106) dX6_wayFor_106 (by decide) rfl ?_
            refine kw_iload (pc := 107) dX6_wayFor_107 rfl ?_
            refine kw_if_eq (tgt := 122) (pc := 109) dX6_wayFor_109 (by decide) (fun h109 => ?_) (fun h109 => ?_)
            · refine kw_iload_n (pc := 122) dX6_wayFor_122 rfl ?_
              refine kw_istore_n (pc := 123) dX6_wayFor_123 (by decide) rfl ?_
              refine kw_iinc (pc := 124) dX6_wayFor_124 (by decide) rfl rfl rfl ?_
              refine kw_goto (tgt := 46) (pc := 127) dX6_wayFor_127 (by decide) ?_
              exact kW.locs (ih (3 - (v + 1)) (by omega) (v + 1) s2 rfl (by omega) ha2 (fun q hq => by rw [hs2, kuf_ne (by omega)]; exact hb1 q hq)) ⟨rfl, rfl, kgE rfl (by show _ = (wyS s (pa s (21 + 7 * k)) (nI v) (wyR s (pa s (21 + 7 * k)) v)).1; grind [wyS]), kgE rfl (by show _ = (wyS s (pa s (21 + 7 * k)) (nI v) (wyR s (pa s (21 + 7 * k)) v)).2; grind [wyS]), kgE rfl (kA (a := v) (b := 1) rfl (rfl : (Int32.ofInt 1) = nI 1)), trivial⟩
            · exact absurd (by decide) h109
          · exact absurd (by decide) h97
        · refine kw_iload_n (pc := 72) dX6_wayFor_72 rfl ?_
          refine kw_iconst (v := -1) (pc := 73) dX6_wayFor_73 (by decide) ?_
          refine kw_icmp_eq (tgt := 88) (pc := 74) dX6_wayFor_74 (by decide) (fun h74 => ?_) (fun h74 => ?_)
          · refine kw_iconst (v := 1) (pc := 88) dX6_wayFor_88 (by decide) ?_
            refine kw_goto (tgt := 93) (pc := 89) dX6_wayFor_89 (by decide) ?_
            refine kw_istore (pc := 93) dX6_wayFor_93 (by decide) rfl ?_
            refine kw_iload (pc := 95) dX6_wayFor_95 rfl ?_
            refine kw_if_eq (tgt := 105) (pc := 97) dX6_wayFor_97 (by decide) (fun h97 => ?_) (fun h97 => ?_)
            · exact absurd h97 (by decide)
            · refine kw_iload (pc := 100) dX6_wayFor_100 rfl ?_
              refine kw_goto (tgt := 106) (pc := 102) dX6_wayFor_102 (by decide) ?_
              refine kw_istore_n (pc := 106) dX6_wayFor_106 (by decide) rfl ?_
              refine kw_iload (pc := 107) dX6_wayFor_107 rfl ?_
              refine kw_if_eq (tgt := 122) (pc := 109) dX6_wayFor_109 (by decide) (fun h109 => ?_) (fun h109 => ?_)
              · exact absurd h109 (by decide)
              · refine kw_aload_n (pc := 112) dX6_wayFor_112 rfl ?_
                refine kw_sipush (v := 675) (pc := 113) dX6_wayFor_113 (by decide) ?_
                refine kw_callVr (pc := 116) dX6_wayFor_116 lX6_83 (c_postage (p := 675) (by decide) f2) mM_0 rfl rfl rfl ⟨by decide, by decide, Nat.le_of_ble_eq_true rfl⟩ ?_
                refine kw_goto (tgt := 123) (pc := 119) dX6_wayFor_119 (by decide) ?_
                refine kw_istore_n (pc := 123) dX6_wayFor_123 (by decide) rfl ?_
                refine kw_iinc (pc := 124) dX6_wayFor_124 (by decide) rfl rfl rfl ?_
                refine kw_goto (tgt := 46) (pc := 127) dX6_wayFor_127 (by decide) ?_
                exact kW.locs (ih (3 - (v + 1)) (by omega) (v + 1) s2 rfl (by omega) ha2 (fun q hq => by rw [hs2, kuf_ne (by omega)]; exact hb1 q hq)) ⟨rfl, rfl, kgE rfl (by show _ = (wyS s (pa s (21 + 7 * k)) (nI v) (wyR s (pa s (21 + 7 * k)) v)).1; grind [wyS]), kgE rfl (by show _ = (wyS s (pa s (21 + 7 * k)) (nI v) (wyR s (pa s (21 + 7 * k)) v)).2; grind [wyS]), kgE rfl (kA (a := v) (b := 1) rfl (rfl : (Int32.ofInt 1) = nI 1)), trivial⟩
          · refine kw_aload_n (pc := 77) dX6_wayFor_77 rfl ?_
            refine kw_sipush (v := 675) (pc := 78) dX6_wayFor_78 (by decide) ?_
            refine kw_callVr (pc := 81) dX6_wayFor_81 lX6_83 (c_postage (p := 675) (by decide) f2) mM_0 rfl rfl rfl ⟨by decide, by decide, Nat.le_of_ble_eq_true rfl⟩ ?_
            refine kw_iload_n (pc := 84) dX6_wayFor_84 rfl ?_
            refine kw_icmp_ge (tgt := 92) (pc := 85) dX6_wayFor_85 (by decide) (fun h85 => ?_) (fun h85 => ?_)
            · refine kw_iconst (v := 0) (pc := 92) dX6_wayFor_92 (by decide) ?_
              refine kw_istore (pc := 93) dX6_wayFor_93 (by decide) rfl ?_
              refine kw_iload (pc := 95) dX6_wayFor_95 rfl ?_
              refine kw_if_eq (tgt := 105) (pc := 97) dX6_wayFor_97 (by decide) (fun h97 => ?_) (fun h97 => ?_)
              · refine kw_iload_n (pc := 105) dX6_wayFor_105 rfl ?_
                refine kw_istore_n (pc := 106) dX6_wayFor_106 (by decide) rfl ?_
                refine kw_iload (pc := 107) dX6_wayFor_107 rfl ?_
                refine kw_if_eq (tgt := 122) (pc := 109) dX6_wayFor_109 (by decide) (fun h109 => ?_) (fun h109 => ?_)
                · refine kw_iload_n (pc := 122) dX6_wayFor_122 rfl ?_
                  refine kw_istore_n (pc := 123) dX6_wayFor_123 (by decide) rfl ?_
                  refine kw_iinc (pc := 124) dX6_wayFor_124 (by decide) rfl rfl rfl ?_
                  refine kw_goto (tgt := 46) (pc := 127) dX6_wayFor_127 (by decide) ?_
                  exact kW.locs (ih (3 - (v + 1)) (by omega) (v + 1) s2 rfl (by omega) ha2 (fun q hq => by rw [hs2, kuf_ne (by omega)]; exact hb1 q hq)) ⟨rfl, rfl, kgE rfl (by show _ = (wyS s (pa s (21 + 7 * k)) (nI v) (wyR s (pa s (21 + 7 * k)) v)).1; grind [wyS]), kgE rfl (by show _ = (wyS s (pa s (21 + 7 * k)) (nI v) (wyR s (pa s (21 + 7 * k)) v)).2; grind [wyS]), kgE rfl (kA (a := v) (b := 1) rfl (rfl : (Int32.ofInt 1) = nI 1)), trivial⟩
                · exact absurd (by decide) h109
              · exact absurd (by decide) h97
            · refine kw_iconst (v := 1) (pc := 88) dX6_wayFor_88 (by decide) ?_
              refine kw_goto (tgt := 93) (pc := 89) dX6_wayFor_89 (by decide) ?_
              refine kw_istore (pc := 93) dX6_wayFor_93 (by decide) rfl ?_
              refine kw_iload (pc := 95) dX6_wayFor_95 rfl ?_
              refine kw_if_eq (tgt := 105) (pc := 97) dX6_wayFor_97 (by decide) (fun h97 => ?_) (fun h97 => ?_)
              · exact absurd h97 (by decide)
              · refine kw_iload (pc := 100) dX6_wayFor_100 rfl ?_
                refine kw_goto (tgt := 106) (pc := 102) dX6_wayFor_102 (by decide) ?_
                refine kw_istore_n (pc := 106) dX6_wayFor_106 (by decide) rfl ?_
                refine kw_iload (pc := 107) dX6_wayFor_107 rfl ?_
                refine kw_if_eq (tgt := 122) (pc := 109) dX6_wayFor_109 (by decide) (fun h109 => ?_) (fun h109 => ?_)
                · exact absurd h109 (by decide)
                · refine kw_aload_n (pc := 112) dX6_wayFor_112 rfl ?_
                  refine kw_sipush (v := 675) (pc := 113) dX6_wayFor_113 (by decide) ?_
                  refine kw_callVr (pc := 116) dX6_wayFor_116 lX6_83 (c_postage (p := 675) (by decide) f2) mM_0 rfl rfl rfl ⟨by decide, by decide, Nat.le_of_ble_eq_true rfl⟩ ?_
                  refine kw_goto (tgt := 123) (pc := 119) dX6_wayFor_119 (by decide) ?_
                  refine kw_istore_n (pc := 123) dX6_wayFor_123 (by decide) rfl ?_
                  refine kw_iinc (pc := 124) dX6_wayFor_124 (by decide) rfl rfl rfl ?_
                  refine kw_goto (tgt := 46) (pc := 127) dX6_wayFor_127 (by decide) ?_
                  exact kW.locs (ih (3 - (v + 1)) (by omega) (v + 1) s2 rfl (by omega) ha2 (fun q hq => by rw [hs2, kuf_ne (by omega)]; exact hb1 q hq)) ⟨rfl, rfl, kgE rfl (by show _ = (wyS s (pa s (21 + 7 * k)) (nI v) (wyR s (pa s (21 + 7 * k)) v)).1; grind [wyS]), kgE rfl (by show _ = (wyS s (pa s (21 + 7 * k)) (nI v) (wyR s (pa s (21 + 7 * k)) v)).2; grind [wyS]), kgE rfl (kA (a := v) (b := 1) rfl (rfl : (Int32.ofInt 1) = nI 1)), trivial⟩
  have loop : ∀ (m : Nat) (i : Nat), m = 7 - i → i ≤ 7 → kW (0, fun _ => 0) mX6_wayFor 4 (fun o w' n' => o = .inl (some (.int (wyF s (pa s (21 + 7 * k))))) ∧ (fun w' => ∃ s', w' = (mM w0 mo s' sv kp bf ty th co ma sp) ∧ agr s s') w' ∧ n' = n) 0 0 n (mM w0 mo (layP s (21 + 7 * k) i) sv kp bf ty th co ma sp) 7 [(0, .ref mo), (1, .int (nI k)), (2, .int (-1)), (3, .int 0), (4, .int (nI i))] [] := by
    intro m
    induction m using Nat.strongRecOn with
    | _ m ih =>
      intro i hm hi
      refine kw_iload (pc := 7) dX6_wayFor_7 rfl ?_
      refine kw_bipush (v := 7) (pc := 9) dX6_wayFor_9 (by decide) ?_
      refine kw_icmp_ge (tgt := 43) (pc := 11) dX6_wayFor_11 (by decide) (fun h11 => ?_) (fun h11 => ?_)
      · have h11 := (kLeI (a := 7) (b := i) (by omega) (by omega) (rfl : (7 : Int32) = nI 7) rfl).mp h11
        refine kw_iconst (v := 0) (pc := 43) dX6_wayFor_43 (by decide) ?_
        refine kw_istore (pc := 44) dX6_wayFor_44 (by decide) rfl ?_
        exact kW.locs (loop2 (3 - 0) 0 _ rfl (by decide) (fun q hq => by unfold layP; rw [if_neg (by omega)]) (fun q hq => by unfold layP; rw [if_pos (by omega), show 675 + q - 675 = q by omega])) ⟨rfl, rfl, rfl, rfl, rfl, trivial⟩
      · have h11 := Nat.lt_of_not_le <| mt (kLeI (a := 7) (b := i) (by omega) (by omega) (rfl : (7 : Int32) = nI 7) rfl).mpr h11
        refine kw_aload_n (pc := 14) dX6_wayFor_14 rfl ?_
        refine kw_getfield (pc := 15) kfw dX6_wayFor_15 fX6_7 mM_0 rfl ?_
        refine kw_sipush (v := 675) (pc := 18) dX6_wayFor_18 (by decide) ?_
        refine kw_iload (pc := 21) dX6_wayFor_21 rfl ?_
        refine kw_iadd (pc := 23) dX6_wayFor_23 ?_
        refine kw_aload_n (pc := 24) dX6_wayFor_24 rfl ?_
        refine kw_getfield (pc := 25) kfw dX6_wayFor_25 fX6_7 mM_0 rfl ?_
        refine kw_iload_n (pc := 28) dX6_wayFor_28 rfl ?_
        refine kw_callSr (pc := 29) dX6_wayFor_29 lX6_69 (c_atE (p := k) rfl) rfl rfl ⟨by decide, by decide, Nat.le_of_ble_eq_true rfl⟩ ?_
        refine kw_iload (pc := 32) dX6_wayFor_32 rfl ?_
        refine kw_iadd (pc := 34) dX6_wayFor_34 ?_
        refine kw_ialoadN (pc := 35) (i := ((21 + 7 * k) + i)) dX6_wayFor_35 mM_1 (kA (a := (21 + 7 * k)) (b := i) rfl rfl) (by omega) (by decide) ?_
        refine kw_iastoreN (pc := 36) (i := (675 + i)) dX6_wayFor_36 mM_1 (kA (a := 675) (b := i) (rfl : (675 : Int32) = nI 675) rfl) (by omega) (by decide) (kW.eq mMs_1 rfl ?_)
        refine kw_iinc (pc := 37) dX6_wayFor_37 (by decide) rfl rfl rfl ?_
        refine kw_goto (tgt := 7) (pc := 40) dX6_wayFor_40 (by decide) ?_
        refine kW.eq (w' := (mM w0 mo (layP s (21 + 7 * k) (i + 1)) sv kp bf ty th co ma sp)) (by rw [layP_step (by omega) h11]) rfl ?_
        exact kW.locs (ih (7 - (i + 1)) (by omega) (i + 1) rfl (by omega)) ⟨rfl, rfl, rfl, rfl, kgE rfl (kA (a := i) (b := 1) rfl (rfl : (Int32.ofInt 1) = nI 1)), trivial⟩
  refine kw_iconst (v := -1) (pc := 0) dX6_wayFor_0 (by decide) ?_
  refine kw_istore_n (pc := 1) dX6_wayFor_1 (by decide) rfl ?_
  refine kw_iconst (v := 0) (pc := 2) dX6_wayFor_2 (by decide) ?_
  refine kw_istore_n (pc := 3) dX6_wayFor_3 (by decide) rfl ?_
  refine kw_iconst (v := 0) (pc := 4) dX6_wayFor_4 (by decide) ?_
  refine kw_istore (pc := 5) dX6_wayFor_5 (by decide) rfl ?_
  refine kW.eq (w' := (mM w0 mo (layP s (21 + 7 * k) 0) sv kp bf ty th co ma sp)) (by rw [layP_0]) rfl ?_
  exact kW.locs (loop (7 - 0) 0 rfl (by omega)) ⟨rfl, rfl, rfl, rfl, rfl, trivial⟩
set_option maxRecDepth 100000 in
set_option maxHeartbeats 4000000 in
theorem c_dearestParcel {w0 : kM} {mo : Nat} {s : Nat → Int32} {sv : Int32} {kp bf : Nat → Int32} {ty th : Int32} {co ma : Nat → Int32} {sp : Int32}  {c : Nat} (hc : s 20 = nI c) (hc7 : c ≤ 7) (hfin : ∀ k, k < c → fineP s (pa s (21 + 7 * k))) : kCtrR mX6_dearestParcel 4 [.ref mo] (mM w0 mo s sv kp bf ty th co ma sp) (.int (oI (dpN s c))) := by
  refine kCtrR.of pl6 nlX6_dearestParcel rfl (Nat.le_of_ble_eq_true rfl) (fun n => ?_)
  have loop : ∀ (m : Nat) (k : Nat), m = c - k → k ≤ c → kW (0, fun _ => 0) mX6_dearestParcel 4 (fun o w' n' => o = .inl (some (.int (oI (dpN s c)))) ∧ w' = (mM w0 mo s sv kp bf ty th co ma sp) ∧ n' = n) 0 0 n (mM w0 mo s sv kp bf ty th co ma sp) 4 [(0, .ref mo), (1, .int (oI (dpN s k))), (2, .int (nI k))] [] := by
    intro m
    induction m using Nat.strongRecOn with
    | _ m ih =>
      intro k hm hk
      refine kw_iload_n (pc := 4) dX6_dearestParcel_4 rfl ?_
      refine kw_aload_n (pc := 5) dX6_dearestParcel_5 rfl ?_
      refine kw_getfield (pc := 6) kfw dX6_dearestParcel_6 fX6_7 mM_0 rfl ?_
      refine kw_bipush (v := 20) (pc := 9) dX6_dearestParcel_9 (by decide) ?_
      refine kw_ialoadN (pc := 11) (i := 20) dX6_dearestParcel_11 mM_1 (rfl : (20 : Int32) = nI 20) (by omega) (by decide) ?_
      refine kw_icmp_ge (tgt := 62) (pc := 12) dX6_dearestParcel_12 (by decide) (fun h12 => ?_) (fun h12 => ?_)
      · have h12 := (kLeI (a := c) (b := k) (by omega) (by omega) hc rfl).mp h12
        refine kw_iload_n (pc := 62) dX6_dearestParcel_62 rfl ?_
        exact kw_ireturn nlX6_dearestParcel (pc := 63) dX6_dearestParcel_63 rfl rfl ⟨kv_eq (by rw [show k = c by omega]), rfl, rfl⟩
      · have h12 := mt (kLeI (a := c) (b := k) (by omega) (by omega) hc rfl).mpr h12
        refine kw_aload_n (pc := 15) dX6_dearestParcel_15 rfl ?_
        refine kw_iload_n (pc := 16) dX6_dearestParcel_16 rfl ?_
        refine kw_callSr (pc := 17) dX6_dearestParcel_17 lX6_69 (c_atE (p := k) rfl) rfl rfl ⟨by decide, by decide, Nat.le_of_ble_eq_true rfl⟩ ?_
        refine kw_callVr (pc := 20) dX6_dearestParcel_20 lX6_76 (c_reason (by omega)) mM_0 rfl rfl rfl ⟨by decide, by decide, Nat.le_of_ble_eq_true rfl⟩ ?_
        refine kw_if_ne (tgt := 54) (pc := 23) dX6_dearestParcel_23 (by decide) (fun h23 => ?_) (fun h23 => ?_)
        · refine kw_iload_n (pc := 54) dX6_dearestParcel_54 rfl ?_
          refine kw_istore_n (pc := 55) dX6_dearestParcel_55 (by decide) rfl ?_
          refine kw_iinc (pc := 56) dX6_dearestParcel_56 (by decide) rfl rfl rfl ?_
          refine kw_goto (tgt := 4) (pc := 59) dX6_dearestParcel_59 (by decide) ?_
          exact kW.locs (ih (c - (k + 1)) (by omega) (k + 1) rfl (by omega)) ⟨rfl, kgE rfl (by have hnone := oI_none (o := dpN s k) (fun f h => by have := dpN_lt h; omega); grind [dpN, oI]), kgE rfl (kA (a := k) (b := 1) rfl (rfl : (Int32.ofInt 1) = nI 1)), trivial⟩
        · refine kw_iload_n (pc := 26) dX6_dearestParcel_26 rfl ?_
          refine kw_iconst (v := -1) (pc := 27) dX6_dearestParcel_27 (by decide) ?_
          refine kw_icmp_eq (tgt := 50) (pc := 28) dX6_dearestParcel_28 (by decide) (fun h28 => ?_) (fun h28 => ?_)
          · refine kw_iload_n (pc := 50) dX6_dearestParcel_50 rfl ?_
            refine kw_goto (tgt := 55) (pc := 51) dX6_dearestParcel_51 (by decide) ?_
            refine kw_istore_n (pc := 55) dX6_dearestParcel_55 (by decide) rfl ?_
            refine kw_iinc (pc := 56) dX6_dearestParcel_56 (by decide) rfl rfl rfl ?_
            refine kw_goto (tgt := 4) (pc := 59) dX6_dearestParcel_59 (by decide) ?_
            exact kW.locs (ih (c - (k + 1)) (by omega) (k + 1) rfl (by omega)) ⟨rfl, kgE rfl (by have hnone := oI_none (o := dpN s k) (fun f h => by have := dpN_lt h; omega); grind [dpN, oI]), kgE rfl (kA (a := k) (b := 1) rfl (rfl : (Int32.ofInt 1) = nI 1)), trivial⟩
          · obtain ⟨f, hf1⟩ : ∃ f, dpN s k = some f := by
              cases hd : dpN s k with
              | none => exact absurd (by rw [hd]; rfl) h28
              | some f => exact ⟨f, rfl⟩
            have hof : oI (dpN s k) = nI f := by rw [hf1]; rfl
            have hfk := dpN_lt hf1
            refine kw_aload_n (pc := 31) dX6_dearestParcel_31 rfl ?_
            refine kw_iload_n (pc := 32) dX6_dearestParcel_32 rfl ?_
            refine kw_callSr (pc := 33) dX6_dearestParcel_33 lX6_69 (c_atE (p := k) rfl) rfl rfl ⟨by decide, by decide, Nat.le_of_ble_eq_true rfl⟩ ?_
            refine kw_callVr (pc := 36) dX6_dearestParcel_36 lX6_83 (c_postage (by omega) (hfin k (by omega))) mM_0 rfl rfl rfl ⟨by decide, by decide, Nat.le_of_ble_eq_true rfl⟩ ?_
            refine kw_aload_n (pc := 39) dX6_dearestParcel_39 rfl ?_
            refine kw_iload_n (pc := 40) dX6_dearestParcel_40 rfl ?_
            refine kw_callSr (pc := 41) dX6_dearestParcel_41 lX6_69 (c_atE (p := f) hof) rfl rfl ⟨by decide, by decide, Nat.le_of_ble_eq_true rfl⟩ ?_
            refine kw_callVr (pc := 44) dX6_dearestParcel_44 lX6_83 (c_postage (by omega) (hfin f (by omega))) mM_0 rfl rfl rfl ⟨by decide, by decide, Nat.le_of_ble_eq_true rfl⟩ ?_
            refine kw_icmp_le (tgt := 54) (pc := 47) dX6_dearestParcel_47 (by decide) (fun h47 => ?_) (fun h47 => ?_)
            · refine kw_iload_n (pc := 54) dX6_dearestParcel_54 rfl ?_
              refine kw_istore_n (pc := 55) dX6_dearestParcel_55 (by decide) rfl ?_
              refine kw_iinc (pc := 56) dX6_dearestParcel_56 (by decide) rfl rfl rfl ?_
              refine kw_goto (tgt := 4) (pc := 59) dX6_dearestParcel_59 (by decide) ?_
              exact kW.locs (ih (c - (k + 1)) (by omega) (k + 1) rfl (by omega)) ⟨rfl, kgE rfl (by have hnone := oI_none (o := dpN s k) (fun f h => by have := dpN_lt h; omega); grind [dpN, oI]), kgE rfl (kA (a := k) (b := 1) rfl (rfl : (Int32.ofInt 1) = nI 1)), trivial⟩
            · refine kw_iload_n (pc := 50) dX6_dearestParcel_50 rfl ?_
              refine kw_goto (tgt := 55) (pc := 51) dX6_dearestParcel_51 (by decide) ?_
              refine kw_istore_n (pc := 55) dX6_dearestParcel_55 (by decide) rfl ?_
              refine kw_iinc (pc := 56) dX6_dearestParcel_56 (by decide) rfl rfl rfl ?_
              refine kw_goto (tgt := 4) (pc := 59) dX6_dearestParcel_59 (by decide) ?_
              exact kW.locs (ih (c - (k + 1)) (by omega) (k + 1) rfl (by omega)) ⟨rfl, kgE rfl (by have hnone := oI_none (o := dpN s k) (fun f h => by have := dpN_lt h; omega); grind [dpN, oI]), kgE rfl (kA (a := k) (b := 1) rfl (rfl : (Int32.ofInt 1) = nI 1)), trivial⟩
  refine kw_iconst (v := -1) (pc := 0) dX6_dearestParcel_0 (by decide) ?_
  refine kw_istore_n (pc := 1) dX6_dearestParcel_1 (by decide) rfl ?_
  refine kw_iconst (v := 0) (pc := 2) dX6_dearestParcel_2 (by decide) ?_
  refine kw_istore_n (pc := 3) dX6_dearestParcel_3 (by decide) rfl ?_
  exact kW.locs (loop (c - 0) 0 rfl (by omega)) ⟨rfl, rfl, rfl, trivial⟩
set_option maxRecDepth 100000 in
set_option maxHeartbeats 4000000 in
theorem c_isFree {w0 : kM} {mo : Nat} {s : Nat → Int32} {sv : Int32} {kp bf : Nat → Int32} {ty th : Int32} {co ma : Nat → Int32} {sp : Int32}  (p : Int32) {c : Nat} (hc7 : c ≤ 7) : kCtrR mX6_isFree 0 [.ref mo, .int p, .int (nI c)] (mM w0 mo s sv kp bf ty th co ma sp) (.int (b2i (frB ma p c = true))) := by
  refine kCtrR.of pl6 nlX6_isFree rfl (Nat.le_of_ble_eq_true rfl) (fun n => ?_)
  have loop : ∀ (m : Nat) (k : Nat), m = c - k → k ≤ c → kW (0, fun _ => 0) mX6_isFree 0 (fun o w' n' => o = .inl (some (.int (b2i (frB ma p c = true)))) ∧ w' = (mM w0 mo s sv kp bf ty th co ma sp) ∧ n' = n) 0 0 n (mM w0 mo s sv kp bf ty th co ma sp) 5 [(0, .ref mo), (1, .int p), (2, .int (nI c)), (3, .int (b2i (frB ma p k = true))), (4, .int (nI k))] [] := by
    intro m
    induction m using Nat.strongRecOn with
    | _ m ih =>
      intro k hm hk
      refine kw_iload (pc := 5) dX6_isFree_5 rfl ?_
      refine kw_iload_n (pc := 7) dX6_isFree_7 rfl ?_
      refine kw_icmp_ge (tgt := 38) (pc := 8) dX6_isFree_8 (by decide) (fun h8 => ?_) (fun h8 => ?_)
      · have h8 := (kLeI (a := c) (b := k) (by omega) (by omega) rfl rfl).mp h8
        refine kw_iload_n (pc := 38) dX6_isFree_38 rfl ?_
        exact kw_ireturn nlX6_isFree (pc := 39) dX6_isFree_39 rfl (by first | rfl | exact b2i_z _ | exact hbool) ⟨kv_eq (by rw [show k = c by omega]), rfl, rfl⟩
      · have h8 := mt (kLeI (a := c) (b := k) (by omega) (by omega) rfl rfl).mpr h8
        refine kw_iload_n (pc := 11) dX6_isFree_11 rfl ?_
        refine kw_if_eq (tgt := 30) (pc := 12) dX6_isFree_12 (by decide) (fun h12 => ?_) (fun h12 => ?_)
        · refine kw_iconst (v := 0) (pc := 30) dX6_isFree_30 (by decide) ?_
          refine kw_istore_n (pc := 31) dX6_isFree_31 (by decide) rfl ?_
          refine kw_iinc (pc := 32) dX6_isFree_32 (by decide) rfl rfl rfl ?_
          refine kw_goto (tgt := 5) (pc := 35) dX6_isFree_35 (by decide) ?_
          exact kW.locs (ih (c - (k + 1)) (by omega) (k + 1) rfl (by omega)) ⟨rfl, rfl, rfl, kgE rfl (by grind [frB, b2i]), kgE rfl (kA (a := k) (b := 1) rfl (rfl : (Int32.ofInt 1) = nI 1)), trivial⟩
        · refine kw_aload_n (pc := 15) dX6_isFree_15 rfl ?_
          refine kw_getfield (pc := 16) kfw dX6_isFree_16 fX6_24 mM_0 rfl ?_
          refine kw_iload (pc := 19) dX6_isFree_19 rfl ?_
          refine kw_ialoadN (pc := 21) (i := k) dX6_isFree_21 mM_5 rfl (by omega) (by decide) ?_
          refine kw_iload_n (pc := 22) dX6_isFree_22 rfl ?_
          refine kw_icmp_eq (tgt := 30) (pc := 23) dX6_isFree_23 (by decide) (fun h23 => ?_) (fun h23 => ?_)
          · refine kw_iconst (v := 0) (pc := 30) dX6_isFree_30 (by decide) ?_
            refine kw_istore_n (pc := 31) dX6_isFree_31 (by decide) rfl ?_
            refine kw_iinc (pc := 32) dX6_isFree_32 (by decide) rfl rfl rfl ?_
            refine kw_goto (tgt := 5) (pc := 35) dX6_isFree_35 (by decide) ?_
            exact kW.locs (ih (c - (k + 1)) (by omega) (k + 1) rfl (by omega)) ⟨rfl, rfl, rfl, kgE rfl (by grind [frB, b2i]), kgE rfl (kA (a := k) (b := 1) rfl (rfl : (Int32.ofInt 1) = nI 1)), trivial⟩
          · refine kw_iconst (v := 1) (pc := 26) dX6_isFree_26 (by decide) ?_
            refine kw_goto (tgt := 31) (pc := 27) dX6_isFree_27 (by decide) ?_
            refine kw_istore_n (pc := 31) dX6_isFree_31 (by decide) rfl ?_
            refine kw_iinc (pc := 32) dX6_isFree_32 (by decide) rfl rfl rfl ?_
            refine kw_goto (tgt := 5) (pc := 35) dX6_isFree_35 (by decide) ?_
            exact kW.locs (ih (c - (k + 1)) (by omega) (k + 1) rfl (by omega)) ⟨rfl, rfl, rfl, kgE rfl (by grind [frB, b2i]), kgE rfl (kA (a := k) (b := 1) rfl (rfl : (Int32.ofInt 1) = nI 1)), trivial⟩
  refine kw_iconst (v := 1) (pc := 0) dX6_isFree_0 (by decide) ?_
  refine kw_istore_n (pc := 1) dX6_isFree_1 (by decide) rfl ?_
  refine kw_iconst (v := 0) (pc := 2) dX6_isFree_2 (by decide) ?_
  refine kw_istore (pc := 3) dX6_isFree_3 (by decide) rfl ?_
  exact kW.locs (loop (c - 0) 0 rfl (by omega)) ⟨rfl, rfl, rfl, rfl, rfl, trivial⟩
