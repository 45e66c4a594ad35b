theorem kv_eqd {a b : UInt64} (h : a = b) : (Sum.inl (some (Value.double a)) : Option Value ⊕ String) = .inl (some (.double b)) := by rw [h]
theorem kv_eql {a b : Int64} (h : a = b) : (Sum.inl (some (Value.long a)) : Option Value ⊕ String) = .inl (some (.long b)) := by rw [h]
theorem bdH_skip {bd : Nat → Int32} {k j : Nat} {x : Int64} (h : j = k) : bdH bd k (j + 1) x = bdH bd k j x := if_pos h
theorem bdH_add {bd : Nat → Int32} {k j : Nat} {x : Int64} (h : ¬ j = k) : bdH bd k (j + 1) x = fo (bdH bd k j x) (bd j) := if_neg h
theorem kgEl {L : List (Nat × Value)} {i : Nat} {x y : Int64} (h : kget L i = some (.long x)) (p : x = y) : kget L i = some (.long y) := by rw [h, p]
set_option maxRecDepth 100000 in
set_option maxHeartbeats 4000000 in
theorem c_savedShare {w0 : kM} {mo : Nat} {s : Nat → Int32} {sv : Int32} {kp bf : Nat → Int32} {ty th : Int32} {co ma : Nat → Int32} {sp : Int32}  {c : Nat} (H : fineS s c) : kCtrW mX6_savedShare 7 [.ref mo] (mM w0 mo s sv kp bf ty th co ma sp) (some (.double (shS s c))) (fun w' => mSt w0 mo s sv kp bf ty 0 w') := by
  refine kCtrW.of pl6 nlX6_savedShare rfl (Nat.le_of_ble_eq_true rfl) (fun n => ?_)
  have hc := H.2.1
  have hc7 := H.1
  have loop : ∀ (m : Nat) (k : Nat), m = c - k → k ≤ c → kW (0, fun _ => 0) mX6_savedShare 7 (fun o w' n' => o = .inl (some (.double (shS s c))) ∧ (fun w' => mSt w0 mo s sv kp bf ty 0 w') w' ∧ n' = n) 0 0 n (mM w0 mo s sv kp bf ty 0 co ma sp) 9 [(0, .ref mo), (1, .int (sumF (alS s) k)), (2, .int (nI k))] [] := by
    intro m
    induction m using Nat.strongRecOn with
    | _ m ih =>
      intro k hm hk
      refine kw_iload_n (pc := 9) dX6_savedShare_9 rfl ?_
      refine kw_aload_n (pc := 10) dX6_savedShare_10 rfl ?_
      refine kw_getfield (pc := 11) kfw dX6_savedShare_11 fX6_7 mM_0 rfl ?_
      refine kw_bipush (v := 20) (pc := 14) dX6_savedShare_14 (by decide) ?_
      refine kw_ialoadN (pc := 16) (i := 20) dX6_savedShare_16 mM_1 (rfl : (20 : Int32) = nI 20) (by omega) (by decide) ?_
      refine kw_icmp_ge (tgt := 34) (pc := 17) dX6_savedShare_17 (by decide) (fun h17 => ?_) (fun h17 => ?_)
      · have h17 := (kLeI (a := c) (b := k) (by omega) (by omega) hc rfl).mp h17
        obtain rfl : k = c := by omega
        refine kw_iload_n (pc := 34) dX6_savedShare_34 rfl ?_
        refine kw_if_ne (tgt := 42) (pc := 35) dX6_savedShare_35 (by decide) (fun h35 => ?_) (fun h35 => ?_)
        · refine kw_iload_n (pc := 42) dX6_savedShare_42 rfl ?_
          refine kw_aload_n (pc := 43) dX6_savedShare_43 rfl ?_
          refine kw_callVw1 (pc := 44) dX6_savedShare_44 lX6_101 (c_bySets H) mM_0 rfl rfl rfl ⟨by decide, by decide, Nat.le_of_ble_eq_true rfl⟩ (fun w1 hw1 => ?_)
          obtain ⟨s1, co1, rfl, ha1⟩ := hw1
          refine kw_isub (pc := 47) dX6_savedShare_47 ?_
          refine kw_i2d (pc := 48) dX6_savedShare_48 ?_
          refine kw_iload_n (pc := 49) dX6_savedShare_49 rfl ?_
          refine kw_i2d (pc := 50) dX6_savedShare_50 ?_
          refine kw_ddiv (pc := 51) dX6_savedShare_51 (n64_of (ddiv_ok h35)) ?_
          exact kw_dreturn nlX6_savedShare (pc := 52) dX6_savedShare_52 rfl ⟨kv_eqd (by unfold shS shV; first | rw [if_neg h35] | rw [if_pos h35]), ⟨_, _, _, _, rfl, ha1⟩, rfl⟩
        · refine kw_dconst0 (pc := 38) dX6_savedShare_38 ?_
          refine kw_goto (tgt := 52) (pc := 39) dX6_savedShare_39 (by decide) ?_
          exact kw_dreturn nlX6_savedShare (pc := 52) dX6_savedShare_52 rfl ⟨kv_eqd (by unfold shS shV; first | rw [if_neg h35] | rw [if_pos h35]), ⟨_, _, _, _, rfl, agr.rf⟩, rfl⟩
      · have h17 := mt (kLeI (a := c) (b := k) (by omega) (by omega) hc rfl).mpr h17
        refine kw_iload_n (pc := 20) dX6_savedShare_20 rfl ?_
        refine kw_aload_n (pc := 21) dX6_savedShare_21 rfl ?_
        refine kw_iload_n (pc := 22) dX6_savedShare_22 rfl ?_
        refine kw_callVr (pc := 23) dX6_savedShare_23 lX6_86 (c_alone (by omega) (H.2.2.1 k (by omega)).1) mM_0 rfl rfl rfl ⟨by decide, by decide, Nat.le_of_ble_eq_true rfl⟩ ?_
        refine kw_iadd (pc := 26) dX6_savedShare_26 ?_
        refine kw_istore_n (pc := 27) dX6_savedShare_27 (by decide) rfl ?_
        refine kw_iinc (pc := 28) dX6_savedShare_28 (by decide) rfl rfl rfl ?_
        refine kw_goto (tgt := 9) (pc := 31) dX6_savedShare_31 (by decide) ?_
        exact kW.locs (ih (c - (k + 1)) (by omega) (k + 1) rfl (by omega)) ⟨rfl, kgE rfl rfl, kgE rfl (kA (a := k) (b := 1) rfl (rfl : (Int32.ofInt 1) = nI 1)), trivial⟩
  refine kw_aload_n (pc := 0) dX6_savedShare_0 rfl ?_
  refine kw_iconst (v := 0) (pc := 1) dX6_savedShare_1 (by decide) ?_
  refine kw_putfield (pc := 2) kfw dX6_savedShare_2 fX6_27 mM_0 (fun _ _ => rfl) (fun _ _ => rfl) (kW.eq mMf_5 rfl ?_)
  refine kw_iconst (v := 0) (pc := 5) dX6_savedShare_5 (by decide) ?_
  refine kw_istore_n (pc := 6) dX6_savedShare_6 (by decide) rfl ?_
  refine kw_iconst (v := 0) (pc := 7) dX6_savedShare_7 (by decide) ?_
  refine kw_istore_n (pc := 8) dX6_savedShare_8 (by decide) rfl ?_
  exact kW.locs (loop (c - 0) 0 rfl (by omega)) ⟨rfl, rfl, rfl, trivial⟩
set_option maxRecDepth 100000 in
set_option maxHeartbeats 4000000 in
theorem c_ofParcel {w0 : kM} {mo : Nat} {s : Nat → Int32} {sv : Int32} {kp bf : Nat → Int32} {ty th : Int32} {co ma : Nat → Int32} {sp : Int32}  {c k : Nat} (H : fineS s c) (hk : k < c) (x : Int64) : kCtrW mX6_ofParcel 5 [.ref mo, .long x, .int (nI k)] (mM w0 mo s sv kp bf ty th co ma sp) (some (.long (opF s c x k))) (fun w' => ∃ s', w' = (mM w0 mo s' sv kp bf ty th co ma sp) ∧ agr s s') := by
  refine kCtrW.of pl6 nlX6_ofParcel rfl (Nat.le_of_ble_eq_true rfl) (fun n => ?_)
  have hc := H.2.1
  have hc7 := H.1
  have loop2 : ∀ (m j : Nat) (s1 : Nat → Int32), m = c - j → j ≤ c → agr s s1 → kW (0, fun _ => 0) mX6_ofParcel 5 (fun o w' n' => o = .inl (some (.long (opF s c x k))) ∧ (fun w' => ∃ s', w' = (mM w0 mo s' sv kp bf ty th co ma sp) ∧ agr s s') w' ∧ n' = n) 0 0 n (mM w0 mo s1 sv kp bf ty th co ma sp) 54 [(0, .ref mo), (1, .long x), (3, .int (nI k)), (4, .long (bdH (fun j => bdS s k j) k j (fo (prH s (pa s (21 + 7 * k)) 11 x) (wyF s (pa s (21 + 7 * k)))))), (6, .int (nI j))] [] := by
    intro m
    induction m using Nat.strongRecOn with
    | _ m ih =>
      intro j s1 hm hj ha1
      refine kw_iload (pc := 54) dX6_ofParcel_54 rfl ?_
      refine kw_aload_n (pc := 56) dX6_ofParcel_56 rfl ?_
      refine kw_getfield (pc := 57) kfw dX6_ofParcel_57 fX6_7 mM_0 rfl ?_
      refine kw_bipush (v := 20) (pc := 60) dX6_ofParcel_60 (by decide) ?_
      refine kw_ialoadN (pc := 62) (i := 20) dX6_ofParcel_62 mM_1 (rfl : (20 : Int32) = nI 20) (by omega) (by decide) ?_
      refine kw_icmp_ge (tgt := 100) (pc := 63) dX6_ofParcel_63 (by decide) (fun h63 => ?_) (fun h63 => ?_)
      · have h63 := (kLeI (a := c) (b := j) (by omega) (by omega) ((ha1 20 (by decide)).trans hc) rfl).mp h63
        refine kw_lload (pc := 100) dX6_ofParcel_100 rfl ?_
        exact kw_lreturn nlX6_ofParcel (pc := 102) dX6_ofParcel_102 rfl ⟨kv_eql (by rw [show j = c by omega]; rfl), ⟨s1, rfl, ha1⟩, rfl⟩
      · have h63 := mt (kLeI (a := c) (b := j) (by omega) (by omega) ((ha1 20 (by decide)).trans hc) rfl).mpr h63
        refine kw_iload (pc := 66) dX6_ofParcel_66 rfl ?_
        refine kw_iload_n (pc := 68) dX6_ofParcel_68 rfl ?_
        refine kw_icmp_ne (tgt := 77) (pc := 69) dX6_ofParcel_69 (by decide) (fun h69 => ?_) (fun h69 => ?_)
        · have h69 := mt (kEqI (a := j) (b := k) (by omega) (by omega) rfl rfl).mpr h69
          refine kw_ldc2 (pc := 77) dX6_ofParcel_77 gX6_190 ?_
          refine kw_lload (pc := 80) dX6_ofParcel_80 rfl ?_
          refine kw_lmul (pc := 82) dX6_ofParcel_82 ?_
          refine kw_aload_n (pc := 83) dX6_ofParcel_83 rfl ?_
          refine kw_iload_n (pc := 84) dX6_ofParcel_84 rfl ?_
          refine kw_iload (pc := 85) dX6_ofParcel_85 rfl ?_
          refine kw_callVw1 (pc := 87) dX6_ofParcel_87 lX6_89 (c_bundled (s := s1) (by omega) (by omega) ((H.agr ha1).2.2.2 k hk j (by omega) (fun e => h69 e.symm))) mM_0 rfl rfl rfl ⟨by decide, by decide, Nat.le_of_ble_eq_true rfl⟩ (fun w1 hw1 => ?_)
          obtain ⟨s2, rfl, ha2⟩ := hw1
          refine kw_i2l (pc := 90) dX6_ofParcel_90 ?_
          refine kw_ladd (pc := 91) dX6_ofParcel_91 ?_
          refine kw_lstore (pc := 92) dX6_ofParcel_92 (by decide) rfl ?_
          refine kw_iinc (pc := 94) dX6_ofParcel_94 (by decide) rfl rfl rfl ?_
          refine kw_goto (tgt := 54) (pc := 97) dX6_ofParcel_97 (by decide) ?_
          exact kW.locs (ih (c - (j + 1)) (by omega) (j + 1) s2 rfl (by omega) (ha1.tr ha2)) ⟨rfl, rfl, rfl, kgEl rfl (by rw [bdH_add h69]; show 31 * _ + (bdS s1 k j).toInt64 = 31 * _ + (bdS s k j).toInt64; rw [bdS_agr H ha1 hk (by omega) (fun e => h69 e.symm)]), kgE rfl (kA (a := j) (b := 1) rfl (rfl : (Int32.ofInt 1) = nI 1)), trivial⟩
        · have h69 := (kEqI (a := j) (b := k) (by omega) (by omega) rfl rfl).mp h69
          refine kw_lload (pc := 72) dX6_ofParcel_72 rfl ?_
          refine kw_goto (tgt := 92) (pc := 74) dX6_ofParcel_74 (by decide) ?_
          refine kw_lstore (pc := 92) dX6_ofParcel_92 (by decide) rfl ?_
          refine kw_iinc (pc := 94) dX6_ofParcel_94 (by decide) rfl rfl rfl ?_
          refine kw_goto (tgt := 54) (pc := 97) dX6_ofParcel_97 (by decide) ?_
          exact kW.locs (ih (c - (j + 1)) (by omega) (j + 1) s1 rfl (by omega) ha1) ⟨rfl, rfl, rfl, kgEl rfl (bdH_skip h69).symm, kgE rfl (kA (a := j) (b := 1) rfl (rfl : (Int32.ofInt 1) = nI 1)), trivial⟩
  have loop : ∀ (m : Nat) (i : Nat), m = 11 - i → i ≤ 11 → kW (0, fun _ => 0) mX6_ofParcel 5 (fun o w' n' => o = .inl (some (.long (opF s c x k))) ∧ (fun w' => ∃ s', w' = (mM w0 mo s' sv kp bf ty th co ma sp) ∧ agr s s') w' ∧ n' = n) 0 0 n (mM w0 mo s sv kp bf ty th co ma sp) 6 [(0, .ref mo), (1, .long x), (3, .int (nI k)), (4, .long (prH s (pa s (21 + 7 * k)) i x)), (6, .int (nI i))] [] := by
    intro m
    induction m using Nat.strongRecOn with
    | _ m ih =>
      intro i hm hi
      refine kw_iload (pc := 6) dX6_ofParcel_6 rfl ?_
      refine kw_bipush (v := 11) (pc := 8) dX6_ofParcel_8 (by decide) ?_
      refine kw_icmp_ge (tgt := 36) (pc := 10) dX6_ofParcel_10 (by decide) (fun h10 => ?_) (fun h10 => ?_)
      · have h10 := (kLeI (a := 11) (b := i) (by omega) (by omega) (rfl : (11 : Int32) = nI 11) rfl).mp h10
        refine kw_ldc2 (pc := 36) dX6_ofParcel_36 gX6_190 ?_
        refine kw_lload (pc := 39) dX6_ofParcel_39 rfl ?_
        refine kw_lmul (pc := 41) dX6_ofParcel_41 ?_
        refine kw_aload_n (pc := 42) dX6_ofParcel_42 rfl ?_
        refine kw_iload_n (pc := 43) dX6_ofParcel_43 rfl ?_
        refine kw_callVw1 (pc := 44) dX6_ofParcel_44 lX6_181 (c_wayFor (by omega) (H.2.2.1 k hk).2) mM_0 rfl rfl rfl ⟨by decide, by decide, Nat.le_of_ble_eq_true rfl⟩ (fun w1 hw1 => ?_)
        obtain ⟨s1, rfl, ha1⟩ := hw1
        refine kw_i2l (pc := 47) dX6_ofParcel_47 ?_
        refine kw_ladd (pc := 48) dX6_ofParcel_48 ?_
        refine kw_lstore (pc := 49) dX6_ofParcel_49 (by decide) rfl ?_
        refine kw_iconst (v := 0) (pc := 51) dX6_ofParcel_51 (by decide) ?_
        refine kw_istore (pc := 52) dX6_ofParcel_52 (by decide) rfl ?_
        exact kW.locs (loop2 (c - 0) 0 s1 rfl (Nat.zero_le _) ha1) ⟨rfl, rfl, rfl, kgEl rfl (by rw [show i = 11 by omega]; rfl), rfl, trivial⟩
      · have h10 := mt (kLeI (a := 11) (b := i) (by omega) (by omega) (rfl : (11 : Int32) = nI 11) rfl).mpr h10
        refine kw_ldc2 (pc := 13) dX6_ofParcel_13 gX6_190 ?_
        refine kw_lload (pc := 16) dX6_ofParcel_16 rfl ?_
        refine kw_lmul (pc := 18) dX6_ofParcel_18 ?_
        refine kw_aload_n (pc := 19) dX6_ofParcel_19 rfl ?_
        refine kw_iload_n (pc := 20) dX6_ofParcel_20 rfl ?_
        refine kw_iload (pc := 21) dX6_ofParcel_21 rfl ?_
        refine kw_callVr (pc := 23) dX6_ofParcel_23 lX6_162 (c_property (by omega) (H.2.2.1 k hk).1 (j := i) (by omega)) mM_0 rfl rfl rfl ⟨by decide, by decide, Nat.le_of_ble_eq_true rfl⟩ ?_
        refine kw_i2l (pc := 26) dX6_ofParcel_26 ?_
        refine kw_ladd (pc := 27) dX6_ofParcel_27 ?_
        refine kw_lstore (pc := 28) dX6_ofParcel_28 (by decide) rfl ?_
        refine kw_iinc (pc := 30) dX6_ofParcel_30 (by decide) rfl rfl rfl ?_
        refine kw_goto (tgt := 6) (pc := 33) dX6_ofParcel_33 (by decide) ?_
        exact kW.locs (ih (11 - (i + 1)) (by omega) (i + 1) rfl (by omega)) ⟨rfl, rfl, rfl, kgEl rfl rfl, kgE rfl (kA (a := i) (b := 1) rfl (rfl : (Int32.ofInt 1) = nI 1)), trivial⟩
  refine kw_lload_n (pc := 0) dX6_ofParcel_0 rfl ?_
  refine kw_lstore (pc := 1) dX6_ofParcel_1 (by decide) rfl ?_
  refine kw_iconst (v := 0) (pc := 3) dX6_ofParcel_3 (by decide) ?_
  refine kw_istore (pc := 4) dX6_ofParcel_4 (by decide) rfl ?_
  exact kW.locs (loop (11 - 0) 0 rfl (by omega)) ⟨rfl, rfl, rfl, rfl, rfl, trivial⟩
