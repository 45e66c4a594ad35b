theorem c_bundledE {w0 : kM} {mo : Nat} {s : Nat → Int32} {sv : Int32} {kp bf : Nat → Int32} {ty th : Int32} {co ma : Nat → Int32} {sp : Int32} {x y : Int32} {k j : Nat} (hx : x = nI k) (hy : y = nI j) (hk : k < 7) (hj : j < 7) (hf : bOK s (pa s (21 + 7 * k)) (pa s (21 + 7 * j)) → fineP s (bnP (pa s (21 + 7 * k)) (pa s (21 + 7 * j)))) : kCtrW mX6_bundled 4 [.ref mo, .int x, .int y] (mM w0 mo s sv kp bf ty th co ma sp) (some (.int (bdF s (pa s (21 + 7 * k)) (pa s (21 + 7 * j))))) (fun w' => ∃ s', w' = (mM w0 mo s' sv kp bf ty th co ma sp) ∧ agr s s') := by
  subst hx; subst hy
  exact c_bundled hk hj hf
theorem c_aloneE {w0 : kM} {mo : Nat} {s : Nat → Int32} {sv : Int32} {kp bf : Nat → Int32} {ty th : Int32} {co ma : Nat → Int32} {sp : Int32} {x : Int32} {k : Nat} (hx : x = nI k) (hk : k < 7) (hf : fineP s (pa s (21 + 7 * k))) : kCtrR mX6_alone 4 [.ref mo, .int x] (mM w0 mo s sv kp bf ty th co ma sp) (.int (pAl s (pa s (21 + 7 * k)))) := by
  subst hx
  exact c_alone hk hf
set_option maxRecDepth 100000 in
set_option maxHeartbeats 4000000 in
theorem c_canHave {w0 : kM} {mo : Nat} {s : Nat → Int32} {sv : Int32} {kp bf : Nat → Int32} {ty th : Int32} {co ma : Nat → Int32} {sp : Int32}  {c k j : Nat} (H : fineS s c) (hk : k < c) (hj : j < c) : kCtrW mX6_canHave 5 [.ref mo, .int (nI k), .int (nI j)] (mM w0 mo s sv kp bf ty th co ma sp) (some (.int (b2i (chH s ma k j)))) (fun w' => ∃ s', w' = (mM w0 mo s' sv kp bf ty th co ma sp) ∧ agr s s') := by
  refine kCtrW.of pl6 nlX6_canHave rfl (Nat.le_of_ble_eq_true rfl) (fun n => ?_)
  have hc7 := H.1
  refine kw_iload_n (pc := 0) dX6_canHave_0 rfl ?_
  refine kw_iload_n (pc := 1) dX6_canHave_1 rfl ?_
  refine kw_icmp_ge (tgt := 21) (pc := 2) dX6_canHave_2 (by decide) (fun h2 => ?_) (fun h2 => ?_)
  · have h2 := (kLeI (a := k) (b := j) (by omega) (by omega) rfl rfl).mp h2
    refine kw_aload_n (pc := 21) dX6_canHave_21 rfl ?_
    refine kw_iload_n (pc := 22) dX6_canHave_22 rfl ?_
    refine kw_iload_n (pc := 23) dX6_canHave_23 rfl ?_
    refine kw_callVr (pc := 24) dX6_canHave_24 lX6_92 (c_isFree _ (c := k) (by omega)) mM_0 rfl rfl rfl ⟨by decide, by decide, Nat.le_of_ble_eq_true rfl⟩ ?_
    refine kw_if_eq (tgt := 58) (pc := 27) dX6_canHave_27 (by decide) (fun h27 => ?_) (fun h27 => ?_)
    · refine kw_iconst (v := 0) (pc := 58) dX6_canHave_58 (by decide) ?_
      exact kw_ireturn nlX6_canHave (pc := 59) dX6_canHave_59 rfl (by first | rfl | exact b2i_z _ | exact hbool) ⟨kv_eq (by first | (rw [b2i_t]; unfold chH; grind [b2i]) | (rw [b2i_f]; unfold chH; grind [b2i])), (by first | exact ⟨s1, rfl, hs1⟩ | exact ⟨s, rfl, agr.rf⟩), rfl⟩
    · refine kw_iload_n (pc := 30) dX6_canHave_30 rfl ?_
      refine kw_iload_n (pc := 31) dX6_canHave_31 rfl ?_
      refine kw_icmp_eq (tgt := 54) (pc := 32) dX6_canHave_32 (by decide) (fun h32 => ?_) (fun h32 => ?_)
      · have h32 := (kEqI (a := j) (b := k) (by omega) (by omega) rfl rfl).mp h32
        refine kw_iconst (v := 1) (pc := 54) dX6_canHave_54 (by decide) ?_
        refine kw_goto (tgt := 59) (pc := 55) dX6_canHave_55 (by decide) ?_
        exact kw_ireturn nlX6_canHave (pc := 59) dX6_canHave_59 rfl (by first | rfl | exact b2i_z _ | exact hbool) ⟨kv_eq (by first | (rw [b2i_t]; unfold chH; grind [b2i]) | (rw [b2i_f]; unfold chH; grind [b2i])), (by first | exact ⟨s1, rfl, hs1⟩ | exact ⟨s, rfl, agr.rf⟩), rfl⟩
      · have h32 := mt (kEqI (a := j) (b := k) (by omega) (by omega) rfl rfl).mpr h32
        refine kw_aload_n (pc := 35) dX6_canHave_35 rfl ?_
        refine kw_iload_n (pc := 36) dX6_canHave_36 rfl ?_
        refine kw_iload_n (pc := 37) dX6_canHave_37 rfl ?_
        refine kw_callVr (pc := 38) dX6_canHave_38 lX6_92 (c_isFree _ (c := k) (by omega)) mM_0 rfl rfl rfl ⟨by decide, by decide, Nat.le_of_ble_eq_true rfl⟩ ?_
        refine kw_if_eq (tgt := 58) (pc := 41) dX6_canHave_41 (by decide) (fun h41 => ?_) (fun h41 => ?_)
        · refine kw_iconst (v := 0) (pc := 58) dX6_canHave_58 (by decide) ?_
          exact kw_ireturn nlX6_canHave (pc := 59) dX6_canHave_59 rfl (by first | rfl | exact b2i_z _ | exact hbool) ⟨kv_eq (by first | (rw [b2i_t]; unfold chH; grind [b2i]) | (rw [b2i_f]; unfold chH; grind [b2i])), (by first | exact ⟨s1, rfl, hs1⟩ | exact ⟨s, rfl, agr.rf⟩), rfl⟩
        · refine kw_aload_n (pc := 44) dX6_canHave_44 rfl ?_
          refine kw_iload_n (pc := 45) dX6_canHave_45 rfl ?_
          refine kw_iload_n (pc := 46) dX6_canHave_46 rfl ?_
          refine kw_callVw1 (pc := 47) dX6_canHave_47 lX6_89 (c_bundled (by omega) (by omega) (H.2.2.2 k hk j hj (by omega))) mM_0 rfl rfl rfl ⟨by decide, by decide, Nat.le_of_ble_eq_true rfl⟩ (fun w1 hw1 => ?_)
          obtain ⟨s1, hw1, hs1⟩ := hw1
          subst hw1
          refine kw_iconst (v := -1) (pc := 50) dX6_canHave_50 (by decide) ?_
          refine kw_icmp_eq (tgt := 58) (pc := 51) dX6_canHave_51 (by decide) (fun h51 => ?_) (fun h51 => ?_)
          · refine kw_iconst (v := 0) (pc := 58) dX6_canHave_58 (by decide) ?_
            exact kw_ireturn nlX6_canHave (pc := 59) dX6_canHave_59 rfl (by first | rfl | exact b2i_z _ | exact hbool) ⟨kv_eq (by first | (rw [b2i_t]; unfold chH; grind [b2i]) | (rw [b2i_f]; unfold chH; grind [b2i])), (by first | exact ⟨s1, rfl, hs1⟩ | exact ⟨s, rfl, agr.rf⟩), rfl⟩
          · refine kw_iconst (v := 1) (pc := 54) dX6_canHave_54 (by decide) ?_
            refine kw_goto (tgt := 59) (pc := 55) dX6_canHave_55 (by decide) ?_
            exact kw_ireturn nlX6_canHave (pc := 59) dX6_canHave_59 rfl (by first | rfl | exact b2i_z _ | exact hbool) ⟨kv_eq (by first | (rw [b2i_t]; unfold chH; grind [b2i]) | (rw [b2i_f]; unfold chH; grind [b2i])), (by first | exact ⟨s1, rfl, hs1⟩ | exact ⟨s, rfl, agr.rf⟩), rfl⟩
  · have h2 := mt (kLeI (a := k) (b := j) (by omega) (by omega) rfl rfl).mpr h2
    refine kw_aload_n (pc := 5) dX6_canHave_5 rfl ?_
    refine kw_getfield (pc := 6) kfw dX6_canHave_6 fX6_24 mM_0 rfl ?_
    refine kw_iload_n (pc := 9) dX6_canHave_9 rfl ?_
    refine kw_ialoadN (pc := 10) (i := j) dX6_canHave_10 mM_5 rfl (by omega) (by decide) ?_
    refine kw_iload_n (pc := 11) dX6_canHave_11 rfl ?_
    refine kw_icmp_ne (tgt := 19) (pc := 12) dX6_canHave_12 (by decide) (fun h12 => ?_) (fun h12 => ?_)
    · refine kw_iconst (v := 0) (pc := 19) dX6_canHave_19 (by decide) ?_
      exact kw_ireturn nlX6_canHave (pc := 20) dX6_canHave_20 rfl (by first | rfl | exact b2i_z _ | exact hbool) ⟨kv_eq (by first | (rw [b2i_t]; unfold chH; grind [b2i]) | (rw [b2i_f]; unfold chH; grind [b2i])), (by first | exact ⟨s1, rfl, hs1⟩ | exact ⟨s, rfl, agr.rf⟩), rfl⟩
    · refine kw_iconst (v := 1) (pc := 15) dX6_canHave_15 (by decide) ?_
      refine kw_goto (tgt := 20) (pc := 16) dX6_canHave_16 (by decide) ?_
      exact kw_ireturn nlX6_canHave (pc := 20) dX6_canHave_20 rfl (by first | rfl | exact b2i_z _ | exact hbool) ⟨kv_eq (by first | (rw [b2i_t]; unfold chH; grind [b2i]) | (rw [b2i_f]; unfold chH; grind [b2i])), (by first | exact ⟨s1, rfl, hs1⟩ | exact ⟨s, rfl, agr.rf⟩), rfl⟩
set_option maxRecDepth 100000 in
set_option maxHeartbeats 4000000 in
theorem c_costOf {w0 : kM} {mo : Nat} {s : Nat → Int32} {sv : Int32} {kp bf : Nat → Int32} {ty th : Int32} {co ma : Nat → Int32} {sp : Int32}  {c : Nat} {mu : Nat → Nat} (H : fineS s c) (hmu : ∀ k, k < c → ma k = nI (mu k) ∧ mu k < c) : kCtrW mX6_costOf 5 [.ref mo, .int (nI c)] (mM w0 mo s sv kp bf ty th co ma sp) (some (.int (cosN s mu c))) (fun w' => ∃ s', w' = (mM w0 mo s' sv kp bf ty th co ma sp) ∧ agr s s') := by
  refine kCtrW.of pl6 nlX6_costOf rfl (Nat.le_of_ble_eq_true rfl) (fun n => ?_)
  have hc7 := H.1
  have loop : ∀ (m k : Nat) (s1 : Nat → Int32), m = c - k → k ≤ c → agr s s1 → kW (0, fun _ => 0) mX6_costOf 5 (fun o w' n' => o = .inl (some (.int (cosN s mu c))) ∧ (fun w' => ∃ s', w' = (mM w0 mo s' sv kp bf ty th co ma sp) ∧ agr s s') w' ∧ n' = n) 0 0 n (mM w0 mo s1 sv kp bf ty th co ma sp) 4 [(0, .ref mo), (1, .int (nI c)), (2, .int (cosN s mu k)), (3, .int (nI k))] [] := by
    intro m
    induction m using Nat.strongRecOn with
    | _ m ih =>
      intro k s1 hm hk ha1
      have H1 := H.agr ha1
      refine kw_iload_n (pc := 4) dX6_costOf_4 rfl ?_
      refine kw_iload_n (pc := 5) dX6_costOf_5 rfl ?_
      refine kw_icmp_ge (tgt := 61) (pc := 6) dX6_costOf_6 (by decide) (fun h6 => ?_) (fun h6 => ?_)
      · have h6 := (kLeI (a := c) (b := k) (by omega) (by omega) rfl rfl).mp h6
        refine kw_iload_n (pc := 61) dX6_costOf_61 rfl ?_
        exact kw_ireturn nlX6_costOf (pc := 62) dX6_costOf_62 rfl rfl ⟨kv_eq (by rw [show k = c by omega]), ⟨s1, rfl, ha1⟩, rfl⟩
      · have h6 := mt (kLeI (a := c) (b := k) (by omega) (by omega) rfl rfl).mpr h6
        refine kw_iload_n (pc := 9) dX6_costOf_9 rfl ?_
        have hmk := (hmu k (by omega)).1
        have hmk2 := (hmu k (by omega)).2
        have e1 : pAl s1 (pa s1 (21 + 7 * k)) = alS s k := alS_agr H ha1 (by omega)
        refine kw_aload_n (pc := 10) dX6_costOf_10 rfl ?_
        refine kw_getfield (pc := 11) kfw dX6_costOf_11 fX6_24 mM_0 rfl ?_
        refine kw_iload_n (pc := 14) dX6_costOf_14 rfl ?_
        refine kw_ialoadN (pc := 15) (i := k) dX6_costOf_15 mM_5 rfl (by omega) (by decide) ?_
        refine kw_iload_n (pc := 16) dX6_costOf_16 rfl ?_
        refine kw_icmp_ne (tgt := 28) (pc := 17) dX6_costOf_17 (by decide) (fun h17 => ?_) (fun h17 => ?_)
        · have h17 := mt (kEqI (a := (mu k)) (b := k) (by omega) (by omega) hmk rfl).mpr h17
          refine kw_aload_n (pc := 28) dX6_costOf_28 rfl ?_
          refine kw_getfield (pc := 29) kfw dX6_costOf_29 fX6_24 mM_0 rfl ?_
          refine kw_iload_n (pc := 32) dX6_costOf_32 rfl ?_
          refine kw_ialoadN (pc := 33) (i := k) dX6_costOf_33 mM_5 rfl (by omega) (by decide) ?_
          refine kw_iload_n (pc := 34) dX6_costOf_34 rfl ?_
          refine kw_icmp_le (tgt := 52) (pc := 35) dX6_costOf_35 (by decide) (fun h35 => ?_) (fun h35 => ?_)
          · have h35 := (kLeI (a := (mu k)) (b := k) (by omega) (by omega) hmk rfl).mp h35
            refine kw_iconst (v := 0) (pc := 52) dX6_costOf_52 (by decide) ?_
            refine kw_iadd (pc := 53) dX6_costOf_53 ?_
            refine kw_istore_n (pc := 54) dX6_costOf_54 (by decide) rfl ?_
            refine kw_iinc (pc := 55) dX6_costOf_55 (by decide) rfl rfl rfl ?_
            refine kw_goto (tgt := 4) (pc := 58) dX6_costOf_58 (by decide) ?_
            exact kW.locs (ih (c - (k + 1)) (by omega) (k + 1) s1 rfl (by omega) ha1) ⟨rfl, rfl, kgE rfl (by show _ = cosN s mu k + _; grind), kgE rfl (kA (a := k) (b := 1) rfl (rfl : (Int32.ofInt 1) = nI 1)), trivial⟩
          · have h35 := mt (kLeI (a := (mu k)) (b := k) (by omega) (by omega) hmk rfl).mpr h35
            refine kw_aload_n (pc := 38) dX6_costOf_38 rfl ?_
            refine kw_iload_n (pc := 39) dX6_costOf_39 rfl ?_
            refine kw_aload_n (pc := 40) dX6_costOf_40 rfl ?_
            refine kw_getfield (pc := 41) kfw dX6_costOf_41 fX6_24 mM_0 rfl ?_
            refine kw_iload_n (pc := 44) dX6_costOf_44 rfl ?_
            refine kw_ialoadN (pc := 45) (i := k) dX6_costOf_45 mM_5 rfl (by omega) (by decide) ?_
            refine kw_callVw1 (pc := 46) dX6_costOf_46 lX6_89 (c_bundledE (k := k) (j := mu k) rfl hmk (by omega) (by omega) (H1.2.2.2 k (by omega) (mu k) hmk2 (by omega))) mM_0 rfl rfl rfl ⟨by decide, by decide, Nat.le_of_ble_eq_true rfl⟩ (fun w1 hw1 => ?_)
            obtain ⟨s2, hw1, hs2⟩ := hw1
            subst hw1
            refine kw_goto (tgt := 53) (pc := 49) dX6_costOf_49 (by decide) ?_
            refine kw_iadd (pc := 53) dX6_costOf_53 ?_
            refine kw_istore_n (pc := 54) dX6_costOf_54 (by decide) rfl ?_
            refine kw_iinc (pc := 55) dX6_costOf_55 (by decide) rfl rfl rfl ?_
            refine kw_goto (tgt := 4) (pc := 58) dX6_costOf_58 (by decide) ?_
            exact kW.locs (ih (c - (k + 1)) (by omega) (k + 1) s2 rfl (by omega) (ha1.tr hs2)) ⟨rfl, rfl, kgE rfl (by show _ = cosN s mu k + _; have e2 : bdF s1 (pa s1 (21 + 7 * k)) (pa s1 (21 + 7 * (mu k))) = bdS s k (mu k) := bdS_agr H ha1 (by omega) hmk2 (by omega); grind), kgE rfl (kA (a := k) (b := 1) rfl (rfl : (Int32.ofInt 1) = nI 1)), trivial⟩
        · have h17 := (kEqI (a := (mu k)) (b := k) (by omega) (by omega) hmk rfl).mp h17
          refine kw_aload_n (pc := 20) dX6_costOf_20 rfl ?_
          refine kw_iload_n (pc := 21) dX6_costOf_21 rfl ?_
          refine kw_callVr (pc := 22) dX6_costOf_22 lX6_86 (c_alone (by omega) (H1.2.2.1 k (by omega)).1) mM_0 rfl rfl rfl ⟨by decide, by decide, Nat.le_of_ble_eq_true rfl⟩ ?_
          refine kw_goto (tgt := 53) (pc := 25) dX6_costOf_25 (by decide) ?_
          refine kw_iadd (pc := 53) dX6_costOf_53 ?_
          refine kw_istore_n (pc := 54) dX6_costOf_54 (by decide) rfl ?_
          refine kw_iinc (pc := 55) dX6_costOf_55 (by decide) rfl rfl rfl ?_
          refine kw_goto (tgt := 4) (pc := 58) dX6_costOf_58 (by decide) ?_
          exact kW.locs (ih (c - (k + 1)) (by omega) (k + 1) s1 rfl (by omega) ha1) ⟨rfl, rfl, kgE rfl (by show _ = cosN s mu k + _; grind), kgE rfl (kA (a := k) (b := 1) rfl (rfl : (Int32.ofInt 1) = nI 1)), trivial⟩
  refine kw_iconst (v := 0) (pc := 0) dX6_costOf_0 (by decide) ?_
  refine kw_istore_n (pc := 1) dX6_costOf_1 (by decide) rfl ?_
  refine kw_iconst (v := 0) (pc := 2) dX6_costOf_2 (by decide) ?_
  refine kw_istore_n (pc := 3) dX6_costOf_3 (by decide) rfl ?_
  exact kW.locs (loop (c - 0) 0 s rfl (by omega) agr.rf) ⟨rfl, rfl, rfl, rfl, trivial⟩
