theorem come_r20 {s : Nat → Int32} {p : Nat} {x y z wt zn wy : Int32} (hp : 21 ≤ p) : comeR s p x y z wt zn wy 20 = s 20 := by
  unfold comeR putS kuf
  rw [if_neg (by omega), if_neg (by omega), if_neg (by omega), if_neg (by omega), if_neg (by omega), if_neg (by omega), if_neg (by omega)]
theorem come_s {s : Nat → Int32} {c : Nat} {x y z wt zn wy : Int32} (hc : s 20 = nI c) (h : c < 7) : kuf (comeR s (21 + 7 * c) x y z wt zn wy) 20 (comeR s (21 + 7 * c) x y z wt zn wy 20 + 1) = kuf (comeR s (21 + 7 * c) x y z wt zn wy) 20 (nI (c + 1)) := by
  rw [come_r20 (by omega), kA hc (rfl : (1 : Int32) = nI 1)]
theorem come_v {s : Nat → Int32} {c : Nat} {x y z wt zn wy : Int32} (hc : s 20 = nI c) (h : c < 7) : kuf (comeR s (21 + 7 * c) x y z wt zn wy) 20 (comeR s (21 + 7 * c) x y z wt zn wy 20 + 1) 20 - 1 = nI c := by
  rw [come_s hc h]
  unfold kuf
  rw [if_pos rfl]
  exact kS (a := c + 1) (b := 1) rfl rfl (by omega)
theorem c_copiesE {w0 : kM} {mo : Nat} {s : Nat → Int32} {sv : Int32} {kp bf : Nat → Int32} {ty th : Int32} {co ma : Nat → Int32} {sp : Int32} {x y : Int32} {f t : Nat} (hx : x = nI f) (hy : y = nI t) (hf : f < 9) (ht : t < 9) (hft : f ≠ t) : kCtrW mX6_copies 0 [.ref mo, .int x, .int y] (mM w0 mo s sv kp bf ty th co ma sp) none (fun w' => w' = (mM w0 mo (cpR s f t 75) sv kp bf ty th co ma sp)) := by
  subst hx; subst hy
  exact c_copies hf ht hft
set_option maxRecDepth 100000 in
set_option maxHeartbeats 4000000 in
theorem c_saves {w0 : kM} {mo : Nat} {s : Nat → Int32} {sv : Int32} {kp bf : Nat → Int32} {ty th : Int32} {co ma : Nat → Int32} {sp : Int32}  {q : Nat} (hq : sv = nI q) (hq6 : q ≤ 6) : kCtrW mX6_saves 1 [.ref mo] (mM w0 mo s sv kp bf ty th co ma sp) none (fun w' => w' = (mM w0 mo (svS s q) (nI (svN q)) kp bf ty th co ma sp)) := by
  refine kCtrW.of pl6 nlX6_saves rfl (Nat.le_of_ble_eq_true rfl) (fun n => ?_)
  have tail : ∀ (s1 : Nat → Int32) (sv1 : Int32) (q1 : Nat), sv1 = nI q1 → q1 < 6 → (svS s q = cpR s1 0 (q1 + 1) 75 ∧ svN q = q1 + 1) → kW (0, fun _ => 0) mX6_saves 1 (fun o w' n' => o = .inl none ∧ (fun w' => w' = (mM w0 mo (svS s q) (nI (svN q)) kp bf ty th co ma sp)) w' ∧ n' = n) 0 0 n (mM w0 mo s1 sv1 kp bf ty th co ma sp) 41 [(0, .ref mo)] [] := by
    intro s1 sv1 q1 hq1 hlt hfin
    refine kw_aload_n (pc := 41) dX6_saves_41 rfl ?_
    refine kw_dup (pc := 42) dX6_saves_42 rfl ?_
    refine kw_getfield (pc := 43) kfw dX6_saves_43 fX6_31 mM_0 rfl ?_
    refine kw_iconst (v := 1) (pc := 46) dX6_saves_46 (by decide) ?_
    refine kw_iadd (pc := 47) dX6_saves_47 ?_
    refine kw_putfield (pc := 48) kfw dX6_saves_48 fX6_31 mM_0 (fun _ _ => rfl) (fun _ _ => rfl) (kW.eq mMf_1 rfl ?_)
    refine kw_aload_n (pc := 51) dX6_saves_51 rfl ?_
    refine kw_iconst (v := 0) (pc := 52) dX6_saves_52 (by decide) ?_
    refine kw_aload_n (pc := 53) dX6_saves_53 rfl ?_
    refine kw_getfield (pc := 54) kfw dX6_saves_54 fX6_31 mM_0 rfl ?_
    refine kw_callVw0 (pc := 57) dX6_saves_57 lX6_34 (c_copiesE (f := 0) (t := (q1 + 1)) (rfl : (0 : Int32) = nI 0) (kA (a := q1) (b := 1) hq1 (rfl : (1 : Int32) = nI 1)) (by omega) (by omega) (by omega)) mM_0 rfl rfl rfl ⟨by decide, by decide, Nat.le_of_ble_eq_true rfl⟩ (fun w1 hw1 => ?_)
    have hw1 : w1 = _ := hw1
    subst hw1
    exact kw_return nlX6_saves (pc := 60) dX6_saves_60 rfl ⟨rfl, by rw [hfin.1, hfin.2, kA hq1 (rfl : (1 : Int32) = nI 1)], rfl⟩
  have loop : ∀ (m : Nat) (j : Nat), m = 5 - j → j ≤ 5 → q = 6 → kW (0, fun _ => 0) mX6_saves 1 (fun o w' n' => o = .inl none ∧ (fun w' => w' = (mM w0 mo (svS s q) (nI (svN q)) kp bf ty th co ma sp)) w' ∧ n' = n) 0 0 n (mM w0 mo (shf s j) sv kp bf ty th co ma sp) 11 [(0, .ref mo), (1, .int (nI (j + 1)))] [] := by
    intro m
    induction m using Nat.strongRecOn with
    | _ m ih =>
      intro j hm hj h6
      refine kw_iload_n (pc := 11) dX6_saves_11 rfl ?_
      refine kw_bipush (v := 6) (pc := 12) dX6_saves_12 (by decide) ?_
      refine kw_icmp_ge (tgt := 31) (pc := 14) dX6_saves_14 (by decide) (fun h14 => ?_) (fun h14 => ?_)
      · have h14 := (kLeI (a := 6) (b := (j + 1)) (by omega) (by omega) (rfl : (6 : Int32) = nI 6) rfl).mp h14
        refine kw_aload_n (pc := 31) dX6_saves_31 rfl ?_
        refine kw_dup (pc := 32) dX6_saves_32 rfl ?_
        refine kw_getfield (pc := 33) kfw dX6_saves_33 fX6_31 mM_0 rfl ?_
        refine kw_iconst (v := 1) (pc := 36) dX6_saves_36 (by decide) ?_
        refine kw_isub (pc := 37) dX6_saves_37 ?_
        refine kw_putfield (pc := 38) kfw dX6_saves_38 fX6_31 mM_0 (fun _ _ => rfl) (fun _ _ => rfl) (kW.eq mMf_1 rfl ?_)
        have e5 : j = 5 := by omega
        subst e5
        exact kW.locs (tail (shf s 5) (sv - 1) 5 (kS (h6 ▸ hq) (rfl : (1 : Int32) = nI 1) (by decide)) (by decide) (by subst h6; exact ⟨rfl, rfl⟩)) ⟨rfl, trivial⟩
      · have h14 := mt (kLeI (a := 6) (b := (j + 1)) (by omega) (by omega) (rfl : (6 : Int32) = nI 6) rfl).mpr h14
        refine kw_aload_n (pc := 17) dX6_saves_17 rfl ?_
        refine kw_iload_n (pc := 18) dX6_saves_18 rfl ?_
        refine kw_iconst (v := 1) (pc := 19) dX6_saves_19 (by decide) ?_
        refine kw_iadd (pc := 20) dX6_saves_20 ?_
        refine kw_iload_n (pc := 21) dX6_saves_21 rfl ?_
        refine kw_callVw0 (pc := 22) dX6_saves_22 lX6_34 (c_copiesE (f := ((j + 1) + 1)) (t := (j + 1)) (kA (a := (j + 1)) (b := 1) rfl (rfl : (1 : Int32) = nI 1)) rfl (by omega) (by omega) (by omega)) mM_0 rfl rfl rfl ⟨by decide, by decide, Nat.le_of_ble_eq_true rfl⟩ (fun w1 hw1 => ?_)
        have hw1 : w1 = _ := hw1
        subst hw1
        refine kw_iinc (pc := 25) dX6_saves_25 (by decide) rfl rfl rfl ?_
        refine kw_goto (tgt := 11) (pc := 28) dX6_saves_28 (by decide) ?_
        exact kW.locs (ih (5 - (j + 1)) (by omega) (j + 1) rfl (by omega) h6) ⟨rfl, kgE rfl (kA (a := (j + 1)) (b := 1) rfl (rfl : (Int32.ofInt 1) = nI 1)), trivial⟩
  refine kw_aload_n (pc := 0) dX6_saves_0 rfl ?_
  refine kw_getfield (pc := 1) kfw dX6_saves_1 fX6_31 mM_0 rfl ?_
  refine kw_bipush (v := 6) (pc := 4) dX6_saves_4 (by decide) ?_
  refine kw_icmp_ne (tgt := 41) (pc := 6) dX6_saves_6 (by decide) (fun h6 => ?_) (fun h6 => ?_)
  · have h6 := mt (kEqI (a := q) (b := 6) (by omega) (by omega) hq (rfl : (6 : Int32) = nI 6)).mpr h6
    exact kW.locs (tail s sv q hq (by omega) ⟨by unfold svS; rw [if_neg h6], by unfold svN; rw [if_neg h6]⟩) ⟨rfl, trivial⟩
  · have h6 := (kEqI (a := q) (b := 6) (by omega) (by omega) hq (rfl : (6 : Int32) = nI 6)).mp h6
    refine kw_iconst (v := 1) (pc := 9) dX6_saves_9 (by decide) ?_
    refine kw_istore_n (pc := 10) dX6_saves_10 (by decide) rfl ?_
    exact kW.eq (w' := (mM w0 mo (shf s 0) sv kp bf ty th co ma sp)) rfl rfl (kW.locs (loop (5 - 0) 0 rfl (by omega) h6) ⟨rfl, kgE rfl rfl, trivial⟩)
set_option maxRecDepth 100000 in
set_option maxHeartbeats 4000000 in
theorem c_sets {w0 : kM} {mo : Nat} {s : Nat → Int32} {sv : Int32} {kp bf : Nat → Int32} {ty th : Int32} {co ma : Nat → Int32} {sp : Int32}  {q : Nat} (hq : sv = nI q) (hq6 : q ≤ 6) {pl : Nat} (hpl : pl < 75) (v : Int32) : kCtrW mX6_sets 2 [.ref mo, .int (nI pl), .int v] (mM w0 mo s sv kp bf ty th co ma sp) (some (.int (s pl))) (fun w' => w' = (mM w0 mo (kuf (svS s q) pl v) (nI (svN q)) kp bf ty th co ma sp)) := by
  refine kCtrW.of pl6 nlX6_sets rfl (Nat.le_of_ble_eq_true rfl) (fun n => ?_)
  refine kw_aload_n (pc := 0) dX6_sets_0 rfl ?_
  refine kw_callVw0 (pc := 1) dX6_sets_1 lX6_38 (c_saves hq hq6) mM_0 rfl rfl rfl ⟨by decide, by decide, Nat.le_of_ble_eq_true rfl⟩ (fun w1 hw1 => ?_)
  have hw1 : w1 = _ := hw1
  subst hw1
  refine kw_aload_n (pc := 4) dX6_sets_4 rfl ?_
  refine kw_getfield (pc := 5) kfw dX6_sets_5 fX6_7 mM_0 rfl ?_
  refine kw_iload_n (pc := 8) dX6_sets_8 rfl ?_
  refine kw_ialoadN (pc := 9) (i := pl) dX6_sets_9 mM_1 rfl (by omega) (by decide) ?_
  refine kw_istore_n (pc := 10) dX6_sets_10 (by decide) rfl ?_
  refine kw_aload_n (pc := 11) dX6_sets_11 rfl ?_
  refine kw_getfield (pc := 12) kfw dX6_sets_12 fX6_7 mM_0 rfl ?_
  refine kw_iload_n (pc := 15) dX6_sets_15 rfl ?_
  refine kw_iload_n (pc := 16) dX6_sets_16 rfl ?_
  refine kw_iastoreN (pc := 17) (i := pl) dX6_sets_17 mM_1 rfl (by omega) (by decide) (kW.eq mMs_1 rfl ?_)
  refine kw_iload_n (pc := 18) dX6_sets_18 rfl ?_
  exact kw_ireturn nlX6_sets (pc := 19) dX6_sets_19 rfl rfl ⟨kv_eq (svS_low hpl), rfl, rfl⟩
set_option maxRecDepth 100000 in
set_option maxHeartbeats 4000000 in
theorem c_isGone {w0 : kM} {mo : Nat} {s : Nat → Int32} {sv : Int32} {kp bf : Nat → Int32} {ty th : Int32} {co ma : Nat → Int32} {sp : Int32}  {k c : Nat} (hc : s 20 = nI c) (hc7 : c ≤ 7) (hkc : k < c) : kCtrW mX6_isGone 1 [.ref mo, .int (nI k)] (mM w0 mo s sv kp bf ty th co ma sp) none (fun w' => w' = (mM w0 mo (goneS s k c) sv kp bf ty th co ma sp)) := by
  refine kCtrW.of pl6 nlX6_isGone rfl (Nat.le_of_ble_eq_true rfl) (fun n => ?_)
  have loop : ∀ (m : Nat) (t : Nat), m = 21 + 7 * (c - 1) - t → 21 + 7 * k ≤ t → t ≤ 21 + 7 * (c - 1) → kW (0, fun _ => 0) mX6_isGone 1 (fun o w' n' => o = .inl none ∧ (fun w' => w' = (mM w0 mo (goneS s k c) sv kp bf ty th co ma sp)) w' ∧ n' = n) 0 0 n (mM w0 mo (goneP s k c t) sv kp bf ty th co ma sp) 16 [(0, .ref mo), (1, .int (nI k)), (2, .int (nI t))] [] := by
    intro m
    induction m using Nat.strongRecOn with
    | _ m ih =>
      intro t hm hk1 hk2
      refine kw_iload_n (pc := 16) dX6_isGone_16 rfl ?_
      refine kw_aload_n (pc := 17) dX6_isGone_17 rfl ?_
      refine kw_getfield (pc := 18) kfw dX6_isGone_18 fX6_7 mM_0 rfl ?_
      refine kw_bipush (v := 20) (pc := 21) dX6_isGone_21 (by decide) ?_
      refine kw_ialoadN (pc := 23) (i := 20) dX6_isGone_23 mM_1 (rfl : (20 : Int32) = nI 20) (by omega) (by decide) ?_
      refine kw_callSr (pc := 24) dX6_isGone_24 lX6_69 (c_atE (p := (c - 1)) goneP_20) rfl rfl ⟨by decide, by decide, Nat.le_of_ble_eq_true rfl⟩ ?_
      refine kw_icmp_ge (tgt := 51) (pc := 27) dX6_isGone_27 (by decide) (fun h27 => ?_) (fun h27 => ?_)
      · have h27 := (kLeI (a := (21 + 7 * (c - 1))) (b := t) (by omega) (by omega) rfl rfl).mp h27
        exact kw_return nlX6_isGone (pc := 51) dX6_isGone_51 rfl ⟨rfl, by rw [goneS, show t = 21 + 7 * (c - 1) by omega], rfl⟩
      · have h27 := mt (kLeI (a := (21 + 7 * (c - 1))) (b := t) (by omega) (by omega) rfl rfl).mpr h27
        refine kw_aload_n (pc := 30) dX6_isGone_30 rfl ?_
        refine kw_getfield (pc := 31) kfw dX6_isGone_31 fX6_7 mM_0 rfl ?_
        refine kw_iload_n (pc := 34) dX6_isGone_34 rfl ?_
        refine kw_aload_n (pc := 35) dX6_isGone_35 rfl ?_
        refine kw_getfield (pc := 36) kfw dX6_isGone_36 fX6_7 mM_0 rfl ?_
        refine kw_iload_n (pc := 39) dX6_isGone_39 rfl ?_
        refine kw_bipush (v := 7) (pc := 40) dX6_isGone_40 (by decide) ?_
        refine kw_iadd (pc := 42) dX6_isGone_42 ?_
        refine kw_ialoadN (pc := 43) (i := (t + 7)) dX6_isGone_43 mM_1 (kA (a := t) (b := 7) rfl (rfl : (7 : Int32) = nI 7)) (by omega) (by decide) ?_
        refine kw_iastoreN (pc := 44) (i := t) dX6_isGone_44 mM_1 rfl (by omega) (by decide) (kW.eq mMs_1 rfl ?_)
        refine kw_iinc (pc := 45) dX6_isGone_45 (by decide) rfl rfl rfl ?_
        refine kw_goto (tgt := 16) (pc := 48) dX6_isGone_48 (by decide) ?_
        refine kW.eq (w' := (mM w0 mo (goneP s k c (t + 1)) sv kp bf ty th co ma sp)) (by rw [goneP_step hk1]) rfl ?_
        exact kW.locs (ih (21 + 7 * (c - 1) - (t + 1)) (by omega) (t + 1) rfl (by omega) (by omega)) ⟨rfl, rfl, kgE rfl (kA (a := t) (b := 1) rfl (rfl : (Int32.ofInt 1) = nI 1)), trivial⟩
  refine kw_aload_n (pc := 0) dX6_isGone_0 rfl ?_
  refine kw_getfield (pc := 1) kfw dX6_isGone_1 fX6_7 mM_0 rfl ?_
  refine kw_bipush (v := 20) (pc := 4) dX6_isGone_4 (by decide) ?_
  refine kw_dup2 (pc := 6) dX6_isGone_6 rfl rfl ?_
  refine kw_ialoadN (pc := 7) (i := 20) dX6_isGone_7 mM_1 (rfl : (20 : Int32) = nI 20) (by omega) (by decide) ?_
  refine kw_iconst (v := 1) (pc := 8) dX6_isGone_8 (by decide) ?_
  refine kw_isub (pc := 9) dX6_isGone_9 ?_
  refine kw_iastoreN (pc := 10) (i := 20) dX6_isGone_10 mM_1 (rfl : (20 : Int32) = nI 20) (by omega) (by decide) (kW.eq mMs_1 rfl ?_)
  refine kW.eq (w' := (mM w0 mo (goneP s k c (21 + 7 * k)) sv kp bf ty th co ma sp)) (by rw [goneP_0 hc (by omega)]) rfl ?_
  refine kw_iload_n (pc := 11) dX6_isGone_11 rfl ?_
  refine kw_callSr (pc := 12) dX6_isGone_12 lX6_69 (c_atE (p := k) rfl) rfl rfl ⟨by decide, by decide, Nat.le_of_ble_eq_true rfl⟩ ?_
  refine kw_istore_n (pc := 15) dX6_isGone_15 (by decide) rfl ?_
  exact kW.locs (loop (21 + 7 * (c - 1) - (21 + 7 * k)) (21 + 7 * k) rfl (by omega) (by omega)) ⟨rfl, rfl, rfl, trivial⟩
set_option maxRecDepth 100000 in
set_option maxHeartbeats 4000000 in
theorem c_comes {w0 : kM} {mo : Nat} {s : Nat → Int32} {sv : Int32} {kp bf : Nat → Int32} {ty th : Int32} {co ma : Nat → Int32} {sp : Int32}  {c : Nat} (hc : s 20 = nI c) (hc7 : c ≤ 7) (x y z wt zn wy : Int32) : kCtrW mX6_comes 2 [.ref mo, .int x, .int y, .int z, .int wt, .int zn, .int wy] (mM w0 mo s sv kp bf ty th co ma sp) (some (.int (comeV c))) (fun w' => w' = (mM w0 mo (comeS s c x y z wt zn wy) sv kp bf ty th co ma sp)) := by
  refine kCtrW.of pl6 nlX6_comes rfl (Nat.le_of_ble_eq_true rfl) (fun n => ?_)
  refine kw_aload_n (pc := 0) dX6_comes_0 rfl ?_
  refine kw_getfield (pc := 1) kfw dX6_comes_1 fX6_7 mM_0 rfl ?_
  refine kw_bipush (v := 20) (pc := 4) dX6_comes_4 (by decide) ?_
  refine kw_ialoadN (pc := 6) (i := 20) dX6_comes_6 mM_1 (rfl : (20 : Int32) = nI 20) (by omega) (by decide) ?_
  refine kw_bipush (v := 7) (pc := 7) dX6_comes_7 (by decide) ?_
  refine kw_icmp_ne (tgt := 25) (pc := 9) dX6_comes_9 (by decide) (fun h9 => ?_) (fun h9 => ?_)
  · have h9 := mt (kEqI (a := c) (b := 7) (by omega) (by omega) hc (rfl : (7 : Int32) = nI 7)).mpr h9
    refine kw_aload_n (pc := 25) dX6_comes_25 rfl ?_
    refine kw_getfield (pc := 26) kfw dX6_comes_26 fX6_7 mM_0 rfl ?_
    refine kw_bipush (v := 20) (pc := 29) dX6_comes_29 (by decide) ?_
    refine kw_ialoadN (pc := 31) (i := 20) dX6_comes_31 mM_1 (rfl : (20 : Int32) = nI 20) (by omega) (by decide) ?_
    refine kw_callSr (pc := 32) dX6_comes_32 lX6_69 (c_atE (p := c) hc) rfl rfl ⟨by decide, by decide, Nat.le_of_ble_eq_true rfl⟩ ?_
    refine kw_istore (pc := 35) dX6_comes_35 (by decide) rfl ?_
    refine kw_aload_n (pc := 37) dX6_comes_37 rfl ?_
    refine kw_iload (pc := 38) dX6_comes_38 rfl ?_
    refine kw_iload_n (pc := 40) dX6_comes_40 rfl ?_
    refine kw_iload_n (pc := 41) dX6_comes_41 rfl ?_
    refine kw_iload_n (pc := 42) dX6_comes_42 rfl ?_
    refine kw_callVw0 (pc := 43) dX6_comes_43 lX6_72 (c_sorts (by omega) _ _ _) mM_0 rfl rfl rfl ⟨by decide, by decide, Nat.le_of_ble_eq_true rfl⟩ (fun w1 hw1 => ?_)
    have hw1 : w1 = _ := hw1
    subst hw1
    refine kw_aload_n (pc := 46) dX6_comes_46 rfl ?_
    refine kw_getfield (pc := 47) kfw dX6_comes_47 fX6_7 mM_0 rfl ?_
    refine kw_iload (pc := 50) dX6_comes_50 rfl ?_
    refine kw_iconst (v := 3) (pc := 52) dX6_comes_52 (by decide) ?_
    refine kw_iadd (pc := 53) dX6_comes_53 ?_
    refine kw_iload (pc := 54) dX6_comes_54 rfl ?_
    refine kw_iastoreN (pc := 56) (i := ((21 + 7 * c) + 3)) dX6_comes_56 mM_1 (kA (a := (21 + 7 * c)) (b := 3) rfl (rfl : (3 : Int32) = nI 3)) (by omega) (by decide) (kW.eq mMs_1 rfl ?_)
    refine kw_aload_n (pc := 57) dX6_comes_57 rfl ?_
    refine kw_getfield (pc := 58) kfw dX6_comes_58 fX6_7 mM_0 rfl ?_
    refine kw_iload (pc := 61) dX6_comes_61 rfl ?_
    refine kw_iconst (v := 4) (pc := 63) dX6_comes_63 (by decide) ?_
    refine kw_iadd (pc := 64) dX6_comes_64 ?_
    refine kw_iload (pc := 65) dX6_comes_65 rfl ?_
    refine kw_iastoreN (pc := 67) (i := ((21 + 7 * c) + 4)) dX6_comes_67 mM_1 (kA (a := (21 + 7 * c)) (b := 4) rfl (rfl : (4 : Int32) = nI 4)) (by omega) (by decide) (kW.eq mMs_1 rfl ?_)
    refine kw_aload_n (pc := 68) dX6_comes_68 rfl ?_
    refine kw_getfield (pc := 69) kfw dX6_comes_69 fX6_7 mM_0 rfl ?_
    refine kw_iload (pc := 72) dX6_comes_72 rfl ?_
    refine kw_iconst (v := 5) (pc := 74) dX6_comes_74 (by decide) ?_
    refine kw_iadd (pc := 75) dX6_comes_75 ?_
    refine kw_iconst (v := 0) (pc := 76) dX6_comes_76 (by decide) ?_
    refine kw_iastoreN (pc := 77) (i := ((21 + 7 * c) + 5)) dX6_comes_77 mM_1 (kA (a := (21 + 7 * c)) (b := 5) rfl (rfl : (5 : Int32) = nI 5)) (by omega) (by decide) (kW.eq mMs_1 rfl ?_)
    refine kw_aload_n (pc := 78) dX6_comes_78 rfl ?_
    refine kw_getfield (pc := 79) kfw dX6_comes_79 fX6_7 mM_0 rfl ?_
    refine kw_iload (pc := 82) dX6_comes_82 rfl ?_
    refine kw_bipush (v := 6) (pc := 84) dX6_comes_84 (by decide) ?_
    refine kw_iadd (pc := 86) dX6_comes_86 ?_
    refine kw_iload (pc := 87) dX6_comes_87 rfl ?_
    refine kw_iastoreN (pc := 89) (i := ((21 + 7 * c) + 6)) dX6_comes_89 mM_1 (kA (a := (21 + 7 * c)) (b := 6) rfl (rfl : (6 : Int32) = nI 6)) (by omega) (by decide) (kW.eq mMs_1 rfl ?_)
    refine kw_aload_n (pc := 90) dX6_comes_90 rfl ?_
    refine kw_getfield (pc := 91) kfw dX6_comes_91 fX6_7 mM_0 rfl ?_
    refine kw_bipush (v := 20) (pc := 94) dX6_comes_94 (by decide) ?_
    refine kw_dup2 (pc := 96) dX6_comes_96 rfl rfl ?_
    refine kw_ialoadN (pc := 97) (i := 20) dX6_comes_97 mM_1 (rfl : (20 : Int32) = nI 20) (by omega) (by decide) ?_
    refine kw_iconst (v := 1) (pc := 98) dX6_comes_98 (by decide) ?_
    refine kw_iadd (pc := 99) dX6_comes_99 ?_
    refine kw_iastoreN (pc := 100) (i := 20) dX6_comes_100 mM_1 (rfl : (20 : Int32) = nI 20) (by omega) (by decide) (kW.eq mMs_1 rfl ?_)
    refine kw_aload_n (pc := 101) dX6_comes_101 rfl ?_
    refine kw_getfield (pc := 102) kfw dX6_comes_102 fX6_7 mM_0 rfl ?_
    refine kw_bipush (v := 20) (pc := 105) dX6_comes_105 (by decide) ?_
    refine kw_ialoadN (pc := 107) (i := 20) dX6_comes_107 mM_1 (rfl : (20 : Int32) = nI 20) (by omega) (by decide) ?_
    refine kw_iconst (v := 1) (pc := 108) dX6_comes_108 (by decide) ?_
    refine kw_isub (pc := 109) dX6_comes_109 ?_
    exact kw_ireturn nlX6_comes (pc := 110) dX6_comes_110 rfl rfl ⟨kv_eq (by rw [comeV, if_neg h9]; exact come_v hc (by omega)), by rw [comeS, if_neg h9]; exact congrArg (fun z => mM w0 mo z sv kp bf ty th co ma sp) (come_s hc (by omega)), rfl⟩
  · have h9 := (kEqI (a := c) (b := 7) (by omega) (by omega) hc (rfl : (7 : Int32) = nI 7)).mp h9
    refine kw_aload_n (pc := 12) dX6_comes_12 rfl ?_
    refine kw_getfield (pc := 13) kfw dX6_comes_13 fX6_7 mM_0 rfl ?_
    refine kw_bipush (v := 74) (pc := 16) dX6_comes_16 (by decide) ?_
    refine kw_dup2 (pc := 18) dX6_comes_18 rfl rfl ?_
    refine kw_ialoadN (pc := 19) (i := 74) dX6_comes_19 mM_1 (rfl : (74 : Int32) = nI 74) (by omega) (by decide) ?_
    refine kw_iconst (v := 1) (pc := 20) dX6_comes_20 (by decide) ?_
    refine kw_iadd (pc := 21) dX6_comes_21 ?_
    refine kw_iastoreN (pc := 22) (i := 74) dX6_comes_22 mM_1 (rfl : (74 : Int32) = nI 74) (by omega) (by decide) (kW.eq mMs_1 rfl ?_)
    refine kw_iconst (v := -1) (pc := 23) dX6_comes_23 (by decide) ?_
    exact kw_ireturn nlX6_comes (pc := 24) dX6_comes_24 rfl rfl ⟨kv_eq (by rw [comeV, if_pos h9]), by rw [comeS, if_pos h9], rfl⟩
