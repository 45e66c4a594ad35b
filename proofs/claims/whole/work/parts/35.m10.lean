theorem c_reasonE {w0 : kM} {mo : Nat} {s : Nat → Int32} {sv : Int32} {kp bf : Nat → Int32} {ty th : Int32} {co ma : Nat → Int32} {sp : Int32} {x v : Int32} {p : Nat} (hx : x = nI p) (hp : p + 6 < 682) (e : pR s (pa s p) = v) : kCtrR mX6_reason 1 [.ref mo, .int x] (mM w0 mo s sv kp bf ty th co ma sp) (.int v) := by
  subst hx; subst e
  exact c_reason hp
theorem c_stringE {w0 : kM} {mo : Nat} {s : Nat → Int32} {sv : Int32} {kp bf : Nat → Int32} {ty th : Int32} {co ma : Nat → Int32} {sp : Int32} {x v : Int32} {p : Nat} (hx : x = nI p) (hp : p + 6 < 682) (e : pS s (pa s p) = v) : kCtrR mX6_string 0 [.ref mo, .int x] (mM w0 mo s sv kp bf ty th co ma sp) (.int v) := by
  subst hx; subst e
  exact c_string hp
theorem c_postageE {w0 : kM} {mo : Nat} {s : Nat → Int32} {sv : Int32} {kp bf : Nat → Int32} {ty th : Int32} {co ma : Nat → Int32} {sp : Int32} {x v : Int32} {p : Nat} (hx : x = nI p) (hp : p + 6 < 682) (hf : fineP s (pa s p)) (e : pP s (pa s p) = v) : kCtrR mX6_postage 3 [.ref mo, .int x] (mM w0 mo s sv kp bf ty th co ma sp) (.int v) := by
  subst hx; subst e
  exact c_postage hp hf
theorem c_postageWithE {w0 : kM} {mo : Nat} {s : Nat → Int32} {sv : Int32} {kp bf : Nat → Int32} {ty th : Int32} {co ma : Nat → Int32} {sp : Int32} {x v z : Int32} {p : Nat} (hx : x = nI p) (hp : p + 6 < 682) (h4 : fineZ (pa s p)) (h5 : fineB z) (e : pW s (pa s p) z = v) : kCtrR mX6_postageWith 2 [.ref mo, .int x, .int z] (mM w0 mo s sv kp bf ty th co ma sp) (.int v) := by
  subst hx; subst e
  exact c_postageWith hp z h4 h5
theorem kuf_add0 (f : Nat → Int32) (i : Nat) : kuf f i (f i + 0) = f := by
  funext j
  unfold kuf
  by_cases h : j = i
  · rw [if_pos h, h]; exact Int32.add_zero _
  · rw [if_neg h]
/-- the saved rows do not touch the present one -/
theorem sv_pa {s : Nat → Int32} {q k : Nat} (hk : k < 7) : ∀ i, i < 7 → pa (svS s q) (21 + 7 * k) i = pa s (21 + 7 * k) i := fun i hi => svS_low (by omega)
theorem kuf_lo {s s' : Nat → Int32} {i : Nat} {x : Int32} (hi : 70 ≤ i) (h : ∀ j, j < 70 → s' j = s j) : ∀ j, j < 70 → kuf s' i x j = s j := fun j hj => by rw [kuf_ne (by omega)]; exact h j hj
set_option maxRecDepth 100000 in
set_option maxHeartbeats 4000000 in
theorem c_takeBack {w0 : kM} {mo : Nat} {s : Nat → Int32} {sv : Int32} {kp bf : Nat → Int32} {ty th : Int32} {co ma : Nat → Int32} {sp : Int32}  {q : Nat} (hq : sv = nI q) (hq6 : q ≤ 6) {c : Nat} (hc : s 20 = nI c) (hc7 : c ≤ 7) {k : Nat} (hk : k < c) : kCtrW mX6_takeBack 3 [.ref mo, .int (nI k)] (mM w0 mo s sv kp bf ty th co ma sp) (some (.int (nI (c - 1)))) (fun w' => mSt w0 mo (goneS (svS s q) k c) (nI (svN q)) kp bf ty 0 w') := by
  refine kCtrW.of pl6 nlX6_takeBack rfl (Nat.le_of_ble_eq_true rfl) (fun n => ?_)
  refine kw_aload_n (pc := 0) dX6_takeBack_0 rfl ?_
  refine kw_aload_n (pc := 1) dX6_takeBack_1 rfl ?_
  refine kw_iload_n (pc := 2) dX6_takeBack_2 rfl ?_
  refine kw_callVr (pc := 3) dX6_takeBack_3 lX6_119 (c_isParcelT hc hc7 hk) mM_0 rfl rfl rfl ⟨by decide, by decide, Nat.le_of_ble_eq_true rfl⟩ ?_
  refine kw_iconst (v := 1) (pc := 6) dX6_takeBack_6 (by decide) ?_
  refine kw_callVw1 (pc := 7) dX6_takeBack_7 lX6_111 (c_goes1 (by decide) (by decide)) mM_0 rfl rfl rfl ⟨by decide, by decide, Nat.le_of_ble_eq_true rfl⟩ (fun w1 hw1 => ?_)
  have hw1 : w1 = _ := hw1
  subst hw1
  refine kw_if_ne (tgt := 15) (pc := 10) dX6_takeBack_10 (by decide) (fun h10 => ?_) (fun h10 => ?_)
  · refine kw_aload_n (pc := 15) dX6_takeBack_15 rfl ?_
    refine kw_callVw0 (pc := 16) dX6_takeBack_16 lX6_38 (c_saves hq hq6) mM_0 rfl rfl rfl ⟨by decide, by decide, Nat.le_of_ble_eq_true rfl⟩ (fun w1 hw1 => ?_)
    have hw1 : w1 = _ := hw1
    subst hw1
    refine kw_aload_n (pc := 19) dX6_takeBack_19 rfl ?_
    refine kw_iload_n (pc := 20) dX6_takeBack_20 rfl ?_
    refine kw_callVw0 (pc := 21) dX6_takeBack_21 lX6_125 (c_isGone ((svS_low (by decide)).trans hc) hc7 hk) mM_0 rfl rfl rfl ⟨by decide, by decide, Nat.le_of_ble_eq_true rfl⟩ (fun w1 hw1 => ?_)
    have hw1 : w1 = _ := hw1
    subst hw1
    refine kw_aload_n (pc := 24) dX6_takeBack_24 rfl ?_
    refine kw_getfield (pc := 25) kfw dX6_takeBack_25 fX6_7 mM_0 rfl ?_
    refine kw_bipush (v := 20) (pc := 28) dX6_takeBack_28 (by decide) ?_
    refine kw_ialoadN (pc := 30) (i := 20) dX6_takeBack_30 mM_1 (rfl : (20 : Int32) = nI 20) (by omega) (by decide) ?_
    exact kw_ireturn nlX6_takeBack (pc := 31) dX6_takeBack_31 rfl rfl ⟨kv_eq goneP_20, ⟨_, _, _, _, rfl, agr.rf⟩, rfl⟩
  · exact absurd h10 (by decide)
set_option maxRecDepth 100000 in
set_option maxHeartbeats 4000000 in
theorem c_takeBackA {w0 : kM} {mo : Nat} {s : Nat → Int32} {sv : Int32} {kp bf : Nat → Int32} {ty th : Int32} {co ma : Nat → Int32} {sp : Int32}  {c : Nat} (hc : s 20 = nI c) (hc7 : c ≤ 7) {p : Int32} (hp : ¬ ∃ k, k < c ∧ p = nI k) : kCtrW mX6_takeBack 3 [.ref mo, .int p] (mM w0 mo s sv kp bf ty th co ma sp) (some (.int 0)) (fun w' => mSt w0 mo s sv kp bf ty 1 w') := by
  refine kCtrW.of pl6 nlX6_takeBack rfl (Nat.le_of_ble_eq_true rfl) (fun n => ?_)
  refine kw_aload_n (pc := 0) dX6_takeBack_0 rfl ?_
  refine kw_aload_n (pc := 1) dX6_takeBack_1 rfl ?_
  refine kw_iload_n (pc := 2) dX6_takeBack_2 rfl ?_
  refine kw_callVr (pc := 3) dX6_takeBack_3 lX6_119 (c_isParcelF hc hc7 hp) mM_0 rfl rfl rfl ⟨by decide, by decide, Nat.le_of_ble_eq_true rfl⟩ ?_
  refine kw_iconst (v := 1) (pc := 6) dX6_takeBack_6 (by decide) ?_
  refine kw_callVw1 (pc := 7) dX6_takeBack_7 lX6_111 (c_goesA rfl) mM_0 rfl rfl rfl ⟨by decide, by decide, Nat.le_of_ble_eq_true rfl⟩ (fun w1 hw1 => ?_)
  have hw1 : w1 = _ := hw1
  subst hw1
  refine kw_if_ne (tgt := 15) (pc := 10) dX6_takeBack_10 (by decide) (fun h10 => ?_) (fun h10 => ?_)
  · exact absurd (by decide) h10
  · refine kw_iconst (v := 0) (pc := 13) dX6_takeBack_13 (by decide) ?_
    exact kw_ireturn nlX6_takeBack (pc := 14) dX6_takeBack_14 rfl rfl ⟨kv_eq rfl, ⟨_, _, _, _, rfl, agr.rf⟩, rfl⟩
set_option maxRecDepth 100000 in
set_option maxHeartbeats 4000000 in
theorem c_sends {w0 : kM} {mo : Nat} {s : Nat → Int32} {sv : Int32} {kp bf : Nat → Int32} {ty th : Int32} {co ma : Nat → Int32} {sp : Int32}  {c : Nat} (hc : s 20 = nI c) (hc7 : c ≤ 7) {k : Nat} (hk : k < c) (z : Int32) : kCtrW mX6_sends 2 [.ref mo, .int (nI k), .int z] (mM w0 mo s sv kp bf ty th co ma sp) (some (.int (10 + z))) (fun w' => w' = (mM w0 mo (sentS s k c z) sv kp bf ty th co ma sp)) := by
  refine kCtrW.of pl6 nlX6_sends rfl (Nat.le_of_ble_eq_true rfl) (fun n => ?_)
  refine kw_aload_n (pc := 0) dX6_sends_0 rfl ?_
  refine kw_getfield (pc := 1) kfw dX6_sends_1 fX6_7 mM_0 rfl ?_
  refine kw_bipush (v := 70) (pc := 4) dX6_sends_4 (by decide) ?_
  refine kw_dup2 (pc := 6) dX6_sends_6 rfl rfl ?_
  refine kw_ialoadN (pc := 7) (i := 70) dX6_sends_7 mM_1 (rfl : (70 : Int32) = nI 70) (by omega) (by decide) ?_
  refine kw_iload_n (pc := 8) dX6_sends_8 rfl ?_
  refine kw_iadd (pc := 9) dX6_sends_9 ?_
  refine kw_iastoreN (pc := 10) (i := 70) dX6_sends_10 mM_1 (rfl : (70 : Int32) = nI 70) (by omega) (by decide) (kW.eq mMs_1 rfl ?_)
  refine kw_aload_n (pc := 11) dX6_sends_11 rfl ?_
  refine kw_getfield (pc := 12) kfw dX6_sends_12 fX6_7 mM_0 rfl ?_
  refine kw_bipush (v := 71) (pc := 15) dX6_sends_15 (by decide) ?_
  refine kw_dup2 (pc := 17) dX6_sends_17 rfl rfl ?_
  refine kw_ialoadN (pc := 18) (i := 71) dX6_sends_18 mM_1 (rfl : (71 : Int32) = nI 71) (by omega) (by decide) ?_
  refine kw_iconst (v := 1) (pc := 19) dX6_sends_19 (by decide) ?_
  refine kw_iadd (pc := 20) dX6_sends_20 ?_
  refine kw_iastoreN (pc := 21) (i := 71) dX6_sends_21 mM_1 (rfl : (71 : Int32) = nI 71) (by omega) (by decide) (kW.eq mMs_1 rfl ?_)
  refine kw_aload_n (pc := 22) dX6_sends_22 rfl ?_
  refine kw_iload_n (pc := 23) dX6_sends_23 rfl ?_
  refine kw_callVw0 (pc := 24) dX6_sends_24 lX6_125 (c_isGone (by simp (disch := omega) only [kuf_ne]; exact hc) hc7 hk) mM_0 rfl rfl rfl ⟨by decide, by decide, Nat.le_of_ble_eq_true rfl⟩ (fun w1 hw1 => ?_)
  have hw1 : w1 = _ := hw1
  subst hw1
  refine kw_bipush (v := 10) (pc := 27) dX6_sends_27 (by decide) ?_
  refine kw_iload_n (pc := 29) dX6_sends_29 rfl ?_
  refine kw_iadd (pc := 30) dX6_sends_30 ?_
  exact kw_ireturn nlX6_sends (pc := 31) dX6_sends_31 rfl rfl ⟨rfl, rfl, rfl⟩
set_option maxRecDepth 100000 in
set_option maxHeartbeats 4000000 in
theorem c_sendT {w0 : kM} {mo : Nat} {s : Nat → Int32} {sv : Int32} {kp bf : Nat → Int32} {ty th : Int32} {co ma : Nat → Int32} {sp : Int32}  {q : Nat} (hq : sv = nI q) (hq6 : q ≤ 6) {c : Nat} (hc : s 20 = nI c) (hc7 : c ≤ 7) {k : Nat} (hk : k < c) (hf : fineP s (pa s (21 + 7 * k))) (ht : pR s (pa s (21 + 7 * k)) = 0) : kCtrW mX6_send 4 [.ref mo, .int (nI k)] (mM w0 mo s sv kp bf ty th co ma sp) (some (.int (10 + pP s (pa s (21 + 7 * k))))) (fun w' => mSt w0 mo (sentS (svS s q) k c (pP s (pa s (21 + 7 * k)))) (nI (svN q)) kp bf ty 0 w') := by
  refine kCtrW.of pl6 nlX6_send rfl (Nat.le_of_ble_eq_true rfl) (fun n => ?_)
  refine kw_aload_n (pc := 0) dX6_send_0 rfl ?_
  refine kw_aload_n (pc := 1) dX6_send_1 rfl ?_
  refine kw_iload_n (pc := 2) dX6_send_2 rfl ?_
  refine kw_callVr (pc := 3) dX6_send_3 lX6_119 (c_isParcelT hc hc7 hk) mM_0 rfl rfl rfl ⟨by decide, by decide, Nat.le_of_ble_eq_true rfl⟩ ?_
  refine kw_iconst (v := 1) (pc := 6) dX6_send_6 (by decide) ?_
  refine kw_callVw1 (pc := 7) dX6_send_7 lX6_111 (c_goes1 (by decide) (by decide)) mM_0 rfl rfl rfl ⟨by decide, by decide, Nat.le_of_ble_eq_true rfl⟩ (fun w1 hw1 => ?_)
  have hw1 : w1 = _ := hw1
  subst hw1
  refine kw_if_ne (tgt := 15) (pc := 10) dX6_send_10 (by decide) (fun h10 => ?_) (fun h10 => ?_)
  · refine kw_aload_n (pc := 15) dX6_send_15 rfl ?_
    refine kw_callVw0 (pc := 16) dX6_send_16 lX6_38 (c_saves hq hq6) mM_0 rfl rfl rfl ⟨by decide, by decide, Nat.le_of_ble_eq_true rfl⟩ (fun w1 hw1 => ?_)
    have hw1 : w1 = _ := hw1
    subst hw1
    refine kw_aload_n (pc := 19) dX6_send_19 rfl ?_
    refine kw_iload_n (pc := 20) dX6_send_20 rfl ?_
    refine kw_callSr (pc := 21) dX6_send_21 lX6_69 (c_atE (p := k) rfl) rfl rfl ⟨by decide, by decide, Nat.le_of_ble_eq_true rfl⟩ ?_
    refine kw_callVr (pc := 24) dX6_send_24 lX6_76 (c_reasonE rfl (by omega) ((pR_congr (fun i hi => svS_low hi) (sv_pa (by omega))).trans ht)) mM_0 rfl rfl rfl ⟨by decide, by decide, Nat.le_of_ble_eq_true rfl⟩ ?_
    refine kw_istore_n (pc := 27) dX6_send_27 (by decide) rfl ?_
    refine kw_aload_n (pc := 28) dX6_send_28 rfl ?_
    refine kw_getfield (pc := 29) kfw dX6_send_29 fX6_7 mM_0 rfl ?_
    refine kw_bipush (v := 74) (pc := 32) dX6_send_32 (by decide) ?_
    refine kw_dup2 (pc := 34) dX6_send_34 rfl rfl ?_
    refine kw_ialoadN (pc := 35) (i := 74) dX6_send_35 mM_1 (rfl : (74 : Int32) = nI 74) (by omega) (by decide) ?_
    refine kw_iload_n (pc := 36) dX6_send_36 rfl ?_
    refine kw_if_le (tgt := 44) (pc := 37) dX6_send_37 (by decide) (fun h37 => ?_) (fun h37 => ?_)
    · refine kw_iconst (v := 0) (pc := 44) dX6_send_44 (by decide) ?_
      refine kw_iadd (pc := 45) dX6_send_45 ?_
      refine kw_iastoreN (pc := 46) (i := 74) dX6_send_46 mM_1 (rfl : (74 : Int32) = nI 74) (by omega) (by decide) (kW.eq mMs_1 rfl ?_)
      refine kW.eq (w' := (mM w0 mo (svS s q) (nI (svN q)) kp bf ty 0 co ma sp)) (by rw [kuf_add0]) rfl ?_
      refine kw_iload_n (pc := 47) dX6_send_47 rfl ?_
      refine kw_if_le (tgt := 55) (pc := 48) dX6_send_48 (by decide) (fun h48 => ?_) (fun h48 => ?_)
      · refine kw_aload_n (pc := 55) dX6_send_55 rfl ?_
        refine kw_iload_n (pc := 56) dX6_send_56 rfl ?_
        refine kw_aload_n (pc := 57) dX6_send_57 rfl ?_
        refine kw_iload_n (pc := 58) dX6_send_58 rfl ?_
        refine kw_callSr (pc := 59) dX6_send_59 lX6_69 (c_atE (p := k) rfl) rfl rfl ⟨by decide, by decide, Nat.le_of_ble_eq_true rfl⟩ ?_
        refine kw_callVr (pc := 62) dX6_send_62 lX6_83 (c_postageE (v := pP s (pa s (21 + 7 * k))) rfl (by omega) (fineP_congr (fun i hi => svS_low hi) (sv_pa (by omega)) hf) (pP_congr (fun i hi => svS_low hi) (sv_pa (by omega)) hf)) mM_0 rfl rfl rfl ⟨by decide, by decide, Nat.le_of_ble_eq_true rfl⟩ ?_
        refine kw_callVw1 (pc := 65) dX6_send_65 lX6_129 (c_sends ((svS_low (by decide)).trans hc) hc7 hk _) mM_0 rfl rfl rfl ⟨by decide, by decide, Nat.le_of_ble_eq_true rfl⟩ (fun w1 hw1 => ?_)
        have hw1 : w1 = _ := hw1
        subst hw1
        exact kw_ireturn nlX6_send (pc := 68) dX6_send_68 rfl rfl ⟨kv_eq rfl, ⟨_, _, _, _, rfl, agr.rf⟩, rfl⟩
      · exact absurd (by decide) h48
    · exact absurd (by decide) h37
  · exact absurd h10 (by decide)
set_option maxRecDepth 100000 in
set_option maxHeartbeats 4000000 in
theorem c_sendR {w0 : kM} {mo : Nat} {s : Nat → Int32} {sv : Int32} {kp bf : Nat → Int32} {ty th : Int32} {co ma : Nat → Int32} {sp : Int32}  {q : Nat} (hq : sv = nI q) (hq6 : q ≤ 6) {c : Nat} (hc : s 20 = nI c) (hc7 : c ≤ 7) {k : Nat} (hk : k < c) {v : Int32} (ht : pR s (pa s (21 + 7 * k)) = v) (hv : 0 < v) : kCtrW mX6_send 4 [.ref mo, .int (nI k)] (mM w0 mo s sv kp bf ty th co ma sp) (some (.int v)) (fun w' => mSt w0 mo (kuf (svS s q) 74 (svS s q 74 + 1)) (nI (svN q)) kp bf ty 0 w') := by
  refine kCtrW.of pl6 nlX6_send rfl (Nat.le_of_ble_eq_true rfl) (fun n => ?_)
  refine kw_aload_n (pc := 0) dX6_send_0 rfl ?_
  refine kw_aload_n (pc := 1) dX6_send_1 rfl ?_
  refine kw_iload_n (pc := 2) dX6_send_2 rfl ?_
  refine kw_callVr (pc := 3) dX6_send_3 lX6_119 (c_isParcelT hc hc7 hk) mM_0 rfl rfl rfl ⟨by decide, by decide, Nat.le_of_ble_eq_true rfl⟩ ?_
  refine kw_iconst (v := 1) (pc := 6) dX6_send_6 (by decide) ?_
  refine kw_callVw1 (pc := 7) dX6_send_7 lX6_111 (c_goes1 (by decide) (by decide)) mM_0 rfl rfl rfl ⟨by decide, by decide, Nat.le_of_ble_eq_true rfl⟩ (fun w1 hw1 => ?_)
  have hw1 : w1 = _ := hw1
  subst hw1
  refine kw_if_ne (tgt := 15) (pc := 10) dX6_send_10 (by decide) (fun h10 => ?_) (fun h10 => ?_)
  · refine kw_aload_n (pc := 15) dX6_send_15 rfl ?_
    refine kw_callVw0 (pc := 16) dX6_send_16 lX6_38 (c_saves hq hq6) mM_0 rfl rfl rfl ⟨by decide, by decide, Nat.le_of_ble_eq_true rfl⟩ (fun w1 hw1 => ?_)
    have hw1 : w1 = _ := hw1
    subst hw1
    refine kw_aload_n (pc := 19) dX6_send_19 rfl ?_
    refine kw_iload_n (pc := 20) dX6_send_20 rfl ?_
    refine kw_callSr (pc := 21) dX6_send_21 lX6_69 (c_atE (p := k) rfl) rfl rfl ⟨by decide, by decide, Nat.le_of_ble_eq_true rfl⟩ ?_
    refine kw_callVr (pc := 24) dX6_send_24 lX6_76 (c_reasonE rfl (by omega) ((pR_congr (fun i hi => svS_low hi) (sv_pa (by omega))).trans ht)) mM_0 rfl rfl rfl ⟨by decide, by decide, Nat.le_of_ble_eq_true rfl⟩ ?_
    refine kw_istore_n (pc := 27) dX6_send_27 (by decide) rfl ?_
    refine kw_aload_n (pc := 28) dX6_send_28 rfl ?_
    refine kw_getfield (pc := 29) kfw dX6_send_29 fX6_7 mM_0 rfl ?_
    refine kw_bipush (v := 74) (pc := 32) dX6_send_32 (by decide) ?_
    refine kw_dup2 (pc := 34) dX6_send_34 rfl rfl ?_
    refine kw_ialoadN (pc := 35) (i := 74) dX6_send_35 mM_1 (rfl : (74 : Int32) = nI 74) (by omega) (by decide) ?_
    refine kw_iload_n (pc := 36) dX6_send_36 rfl ?_
    refine kw_if_le (tgt := 44) (pc := 37) dX6_send_37 (by decide) (fun h37 => ?_) (fun h37 => ?_)
    · exact absurd hv (Int32.not_lt.mpr h37)
    · refine kw_iconst (v := 1) (pc := 40) dX6_send_40 (by decide) ?_
      refine kw_goto (tgt := 45) (pc := 41) dX6_send_41 (by decide) ?_
      refine kw_iadd (pc := 45) dX6_send_45 ?_
      refine kw_iastoreN (pc := 46) (i := 74) dX6_send_46 mM_1 (rfl : (74 : Int32) = nI 74) (by omega) (by decide) (kW.eq mMs_1 rfl ?_)
      refine kw_iload_n (pc := 47) dX6_send_47 rfl ?_
      refine kw_if_le (tgt := 55) (pc := 48) dX6_send_48 (by decide) (fun h48 => ?_) (fun h48 => ?_)
      · exact absurd hv (Int32.not_lt.mpr h48)
      · refine kw_iload_n (pc := 51) dX6_send_51 rfl ?_
        refine kw_goto (tgt := 68) (pc := 52) dX6_send_52 (by decide) ?_
        exact kw_ireturn nlX6_send (pc := 68) dX6_send_68 rfl rfl ⟨kv_eq rfl, ⟨_, _, _, _, rfl, agr.rf⟩, rfl⟩
  · exact absurd h10 (by decide)
set_option maxRecDepth 100000 in
set_option maxHeartbeats 4000000 in
theorem c_sendA {w0 : kM} {mo : Nat} {s : Nat → Int32} {sv : Int32} {kp bf : Nat → Int32} {ty th : Int32} {co ma : Nat → Int32} {sp : Int32}  {c : Nat} (hc : s 20 = nI c) (hc7 : c ≤ 7) {p : Int32} (hp : ¬ ∃ k, k < c ∧ p = nI k) : kCtrW mX6_send 4 [.ref mo, .int p] (mM w0 mo s sv kp bf ty th co ma sp) (some (.int 0)) (fun w' => mSt w0 mo s sv kp bf ty 1 w') := by
  refine kCtrW.of pl6 nlX6_send rfl (Nat.le_of_ble_eq_true rfl) (fun n => ?_)
  refine kw_aload_n (pc := 0) dX6_send_0 rfl ?_
  refine kw_aload_n (pc := 1) dX6_send_1 rfl ?_
  refine kw_iload_n (pc := 2) dX6_send_2 rfl ?_
  refine kw_callVr (pc := 3) dX6_send_3 lX6_119 (c_isParcelF hc hc7 hp) mM_0 rfl rfl rfl ⟨by decide, by decide, Nat.le_of_ble_eq_true rfl⟩ ?_
  refine kw_iconst (v := 1) (pc := 6) dX6_send_6 (by decide) ?_
  refine kw_callVw1 (pc := 7) dX6_send_7 lX6_111 (c_goesA rfl) mM_0 rfl rfl rfl ⟨by decide, by decide, Nat.le_of_ble_eq_true rfl⟩ (fun w1 hw1 => ?_)
  have hw1 : w1 = _ := hw1
  subst hw1
  refine kw_if_ne (tgt := 15) (pc := 10) dX6_send_10 (by decide) (fun h10 => ?_) (fun h10 => ?_)
  · exact absurd (by decide) h10
  · refine kw_iconst (v := 0) (pc := 13) dX6_send_13 (by decide) ?_
    exact kw_ireturn nlX6_send (pc := 14) dX6_send_14 rfl rfl ⟨kv_eq rfl, ⟨_, _, _, _, rfl, agr.rf⟩, rfl⟩
theorem c_inF {w : kM} {v lo hi : Int32} (h : ¬ (lo ≤ v ∧ v ≤ hi)) : kCtrR mX6_in 0 [.int v, .int lo, .int hi] w (.int 0) := by
  have := c_in (w := w) v lo hi
  rw [b2i_f h] at this
  exact this
theorem fineZ_congr {P P' : Nat → Int32} (h : ∀ k, k < 7 → P' k = P k) (hz : fineZ P) : fineZ P' := by
  obtain ⟨zz, h1, h2⟩ := hz
  exact ⟨zz, h1, (h 4 (by decide)).trans h2⟩
theorem k72_lo {s : Nat → Int32} {q : Nat} {x : Int32} : ∀ i, i < 70 → kuf (svS s q) 72 x i = s i := fun i hi => by rw [kuf_ne (by omega)]; exact svS_low (by omega)
theorem k72_pa {s : Nat → Int32} {q k : Nat} {x : Int32} (hk : k < 7) : ∀ i, i < 7 → pa (kuf (svS s q) 72 x) (21 + 7 * k) i = pa s (21 + 7 * k) i := fun i hi => k72_lo _ (by omega)
theorem rM_congr72 {s s' : Nat → Int32} (hs : ∀ i, i < 70 → s' i = s i) : ∀ k, k ≤ 12 → rM s' k = rM s k
  | 0, _ => rfl
  | k + 1, h => by
    show gI (s' (4 + k)) (rM s' k) = gI (s (4 + k)) (rM s k)
    rw [hs _ (by omega), rM_congr72 hs k (by omega)]
theorem pW_congr72 {s s' P P' : Nat → Int32} {z : Int32} (hs : ∀ i, i < 70 → s' i = s i) (h : ∀ k, k < 7 → P' k = P k) (h4 : fineZ P) (h5 : fineB z) : pW s' P' z = pW s P z := by
  obtain ⟨zz, h6, h7⟩ := h4
  obtain ⟨K, h8, h9⟩ := h5
  rw [pW_of h9 h8 h7 h6, pW_of h9 h8 ((h 4 (by decide)).trans h7) h6, rM_congr72 hs _ (by omega), hs _ (by omega), hs 1 (by decide), hs 2 (by decide), h 5 (by decide), pG_congr h]
set_option maxRecDepth 100000 in
set_option maxHeartbeats 4000000 in
theorem c_disputeT {w0 : kM} {mo : Nat} {s : Nat → Int32} {sv : Int32} {kp bf : Nat → Int32} {ty th : Int32} {co ma : Nat → Int32} {sp : Int32}  {q : Nat} (hq : sv = nI q) (hq6 : q ≤ 6) {c : Nat} (hc : s 20 = nI c) (hc7 : c ≤ 7) {k : Nat} (hk : k < c) {z : Int32} (hz : 1 ≤ z ∧ z ≤ 999) (h4 : fineZ (pa s (21 + 7 * k))) (h5 : fineB z) (ht : pR s (pa s (21 + 7 * k)) = 0) (hR : -(s 3) ≤ z - pS s (pa s (21 + 7 * k)) ∧ z - pS s (pa s (21 + 7 * k)) ≤ s 3) : kCtrW mX6_dispute 4 [.ref mo, .int (nI k), .int z] (mM w0 mo s sv kp bf ty th co ma sp) (some (.int (10 + pW s (pa s (21 + 7 * k)) z))) (fun w' => mSt w0 mo (sentS (kuf (svS s q) 72 (svS s q 72 + 1)) k c (pW s (pa s (21 + 7 * k)) z)) (nI (svN q)) kp bf ty 0 w') := by
  refine kCtrW.of pl6 nlX6_dispute rfl (Nat.le_of_ble_eq_true rfl) (fun n => ?_)
  refine kw_aload_n (pc := 0) dX6_dispute_0 rfl ?_
  refine kw_aload_n (pc := 1) dX6_dispute_1 rfl ?_
  refine kw_iload_n (pc := 2) dX6_dispute_2 rfl ?_
  refine kw_callVr (pc := 3) dX6_dispute_3 lX6_119 (c_isParcelT hc hc7 hk) mM_0 rfl rfl rfl ⟨by decide, by decide, Nat.le_of_ble_eq_true rfl⟩ ?_
  refine kw_iload_n (pc := 6) dX6_dispute_6 rfl ?_
  refine kw_iconst (v := 1) (pc := 7) dX6_dispute_7 (by decide) ?_
  refine kw_sipush (v := 999) (pc := 8) dX6_dispute_8 (by decide) ?_
  refine kw_callSr (pc := 11) dX6_dispute_11 lX6_41 (c_inT hz) rfl rfl ⟨by decide, by decide, Nat.le_of_ble_eq_true rfl⟩ ?_
  refine kw_callVw1 (pc := 14) dX6_dispute_14 lX6_111 (c_goes1 (by decide) (by decide)) mM_0 rfl rfl rfl ⟨by decide, by decide, Nat.le_of_ble_eq_true rfl⟩ (fun w1 hw1 => ?_)
  have hw1 : w1 = _ := hw1
  subst hw1
  refine kw_if_ne (tgt := 22) (pc := 17) dX6_dispute_17 (by decide) (fun h17 => ?_) (fun h17 => ?_)
  · refine kw_aload_n (pc := 22) dX6_dispute_22 rfl ?_
    refine kw_callVw0 (pc := 23) dX6_dispute_23 lX6_38 (c_saves hq hq6) mM_0 rfl rfl rfl ⟨by decide, by decide, Nat.le_of_ble_eq_true rfl⟩ (fun w1 hw1 => ?_)
    have hw1 : w1 = _ := hw1
    subst hw1
    refine kw_aload_n (pc := 26) dX6_dispute_26 rfl ?_
    refine kw_iload_n (pc := 27) dX6_dispute_27 rfl ?_
    refine kw_callSr (pc := 28) dX6_dispute_28 lX6_69 (c_atE (p := k) rfl) rfl rfl ⟨by decide, by decide, Nat.le_of_ble_eq_true rfl⟩ ?_
    refine kw_callVr (pc := 31) dX6_dispute_31 lX6_76 (c_reasonE rfl (by omega) ((pR_congr (fun i hi => svS_low hi) (sv_pa (by omega))).trans ht)) mM_0 rfl rfl rfl ⟨by decide, by decide, Nat.le_of_ble_eq_true rfl⟩ ?_
    refine kw_istore_n (pc := 34) dX6_dispute_34 (by decide) rfl ?_
    refine kw_iload_n (pc := 35) dX6_dispute_35 rfl ?_
    refine kw_if_le (tgt := 52) (pc := 36) dX6_dispute_36 (by decide) (fun h36 => ?_) (fun h36 => ?_)
    · refine kw_iload_n (pc := 52) dX6_dispute_52 rfl ?_
      refine kw_aload_n (pc := 53) dX6_dispute_53 rfl ?_
      refine kw_iload_n (pc := 54) dX6_dispute_54 rfl ?_
      refine kw_callSr (pc := 55) dX6_dispute_55 lX6_69 (c_atE (p := k) rfl) rfl rfl ⟨by decide, by decide, Nat.le_of_ble_eq_true rfl⟩ ?_
      refine kw_callVr (pc := 58) dX6_dispute_58 lX6_63 (c_stringE rfl (by omega) (pS_congr (fun i hi => svS_low hi) (sv_pa (by omega)))) mM_0 rfl rfl rfl ⟨by decide, by decide, Nat.le_of_ble_eq_true rfl⟩ ?_
      refine kw_isub (pc := 61) dX6_dispute_61 ?_
      refine kw_istore (pc := 62) dX6_dispute_62 (by decide) rfl ?_
      refine kw_iload (pc := 64) dX6_dispute_64 rfl ?_
      refine kw_aload_n (pc := 66) dX6_dispute_66 rfl ?_
      refine kw_getfield (pc := 67) kfw dX6_dispute_67 fX6_7 mM_0 rfl ?_
      refine kw_iconst (v := 3) (pc := 70) dX6_dispute_70 (by decide) ?_
      refine kw_ialoadN (pc := 71) (i := 3) dX6_dispute_71 mM_1 (rfl : (3 : Int32) = nI 3) (by omega) (by decide) ?_
      refine kw_ineg (pc := 72) dX6_dispute_72 ?_
      refine kw_aload_n (pc := 73) dX6_dispute_73 rfl ?_
      refine kw_getfield (pc := 74) kfw dX6_dispute_74 fX6_7 mM_0 rfl ?_
      refine kw_iconst (v := 3) (pc := 77) dX6_dispute_77 (by decide) ?_
      refine kw_ialoadN (pc := 78) (i := 3) dX6_dispute_78 mM_1 (rfl : (3 : Int32) = nI 3) (by omega) (by decide) ?_
      refine kw_callSr (pc := 79) dX6_dispute_79 lX6_41 (c_inT (by rw [svS_low (by decide)]; exact hR)) rfl rfl ⟨by decide, by decide, Nat.le_of_ble_eq_true rfl⟩ ?_
      refine kw_if_ne (tgt := 98) (pc := 82) dX6_dispute_82 (by decide) (fun h82 => ?_) (fun h82 => ?_)
      · refine kw_aload_n (pc := 98) dX6_dispute_98 rfl ?_
        refine kw_getfield (pc := 99) kfw dX6_dispute_99 fX6_7 mM_0 rfl ?_
        refine kw_bipush (v := 72) (pc := 102) dX6_dispute_102 (by decide) ?_
        refine kw_dup2 (pc := 104) dX6_dispute_104 rfl rfl ?_
        refine kw_ialoadN (pc := 105) (i := 72) dX6_dispute_105 mM_1 (rfl : (72 : Int32) = nI 72) (by omega) (by decide) ?_
        refine kw_iconst (v := 1) (pc := 106) dX6_dispute_106 (by decide) ?_
        refine kw_iadd (pc := 107) dX6_dispute_107 ?_
        refine kw_iastoreN (pc := 108) (i := 72) dX6_dispute_108 mM_1 (rfl : (72 : Int32) = nI 72) (by omega) (by decide) (kW.eq mMs_1 rfl ?_)
        refine kw_aload_n (pc := 109) dX6_dispute_109 rfl ?_
        refine kw_iload_n (pc := 110) dX6_dispute_110 rfl ?_
        refine kw_aload_n (pc := 111) dX6_dispute_111 rfl ?_
        refine kw_iload_n (pc := 112) dX6_dispute_112 rfl ?_
        refine kw_callSr (pc := 113) dX6_dispute_113 lX6_69 (c_atE (p := k) rfl) rfl rfl ⟨by decide, by decide, Nat.le_of_ble_eq_true rfl⟩ ?_
        refine kw_iload_n (pc := 116) dX6_dispute_116 rfl ?_
        refine kw_callVr (pc := 117) dX6_dispute_117 lX6_66 (c_postageWithE (v := pW s (pa s (21 + 7 * k)) z) rfl (by omega) (fineZ_congr (k72_pa (by omega)) h4) h5 (pW_congr72 k72_lo (k72_pa (by omega)) h4 h5)) mM_0 rfl rfl rfl ⟨by decide, by decide, Nat.le_of_ble_eq_true rfl⟩ ?_
        refine kw_callVw1 (pc := 120) dX6_dispute_120 lX6_129 (c_sends (by rw [kuf_ne (by decide)]; exact (svS_low (by decide)).trans hc) hc7 hk _) mM_0 rfl rfl rfl ⟨by decide, by decide, Nat.le_of_ble_eq_true rfl⟩ (fun w1 hw1 => ?_)
        have hw1 : w1 = _ := hw1
        subst hw1
        exact kw_ireturn nlX6_dispute (pc := 123) dX6_dispute_123 rfl rfl ⟨kv_eq rfl, ⟨_, _, _, _, rfl, agr.rf⟩, rfl⟩
      · exact absurd h82 (by decide)
    · exact absurd (by decide) h36
  · exact absurd h17 (by decide)
set_option maxRecDepth 100000 in
set_option maxHeartbeats 4000000 in
theorem c_disputeL {w0 : kM} {mo : Nat} {s : Nat → Int32} {sv : Int32} {kp bf : Nat → Int32} {ty th : Int32} {co ma : Nat → Int32} {sp : Int32}  {q : Nat} (hq : sv = nI q) (hq6 : q ≤ 6) {c : Nat} (hc : s 20 = nI c) (hc7 : c ≤ 7) {k : Nat} (hk : k < c) {z : Int32} (hz : 1 ≤ z ∧ z ≤ 999) (ht : pR s (pa s (21 + 7 * k)) = 0) (hR : ¬ (-(s 3) ≤ z - pS s (pa s (21 + 7 * k)) ∧ z - pS s (pa s (21 + 7 * k)) ≤ s 3)) : kCtrW mX6_dispute 4 [.ref mo, .int (nI k), .int z] (mM w0 mo s sv kp bf ty th co ma sp) (some (.int 4)) (fun w' => mSt w0 mo (kuf (svS s q) 73 (svS s q 73 + 1)) (nI (svN q)) kp bf ty 0 w') := by
  refine kCtrW.of pl6 nlX6_dispute rfl (Nat.le_of_ble_eq_true rfl) (fun n => ?_)
  refine kw_aload_n (pc := 0) dX6_dispute_0 rfl ?_
  refine kw_aload_n (pc := 1) dX6_dispute_1 rfl ?_
  refine kw_iload_n (pc := 2) dX6_dispute_2 rfl ?_
  refine kw_callVr (pc := 3) dX6_dispute_3 lX6_119 (c_isParcelT hc hc7 hk) mM_0 rfl rfl rfl ⟨by decide, by decide, Nat.le_of_ble_eq_true rfl⟩ ?_
  refine kw_iload_n (pc := 6) dX6_dispute_6 rfl ?_
  refine kw_iconst (v := 1) (pc := 7) dX6_dispute_7 (by decide) ?_
  refine kw_sipush (v := 999) (pc := 8) dX6_dispute_8 (by decide) ?_
  refine kw_callSr (pc := 11) dX6_dispute_11 lX6_41 (c_inT hz) rfl rfl ⟨by decide, by decide, Nat.le_of_ble_eq_true rfl⟩ ?_
  refine kw_callVw1 (pc := 14) dX6_dispute_14 lX6_111 (c_goes1 (by decide) (by decide)) mM_0 rfl rfl rfl ⟨by decide, by decide, Nat.le_of_ble_eq_true rfl⟩ (fun w1 hw1 => ?_)
  have hw1 : w1 = _ := hw1
  subst hw1
  refine kw_if_ne (tgt := 22) (pc := 17) dX6_dispute_17 (by decide) (fun h17 => ?_) (fun h17 => ?_)
  · refine kw_aload_n (pc := 22) dX6_dispute_22 rfl ?_
    refine kw_callVw0 (pc := 23) dX6_dispute_23 lX6_38 (c_saves hq hq6) mM_0 rfl rfl rfl ⟨by decide, by decide, Nat.le_of_ble_eq_true rfl⟩ (fun w1 hw1 => ?_)
    have hw1 : w1 = _ := hw1
    subst hw1
    refine kw_aload_n (pc := 26) dX6_dispute_26 rfl ?_
    refine kw_iload_n (pc := 27) dX6_dispute_27 rfl ?_
    refine kw_callSr (pc := 28) dX6_dispute_28 lX6_69 (c_atE (p := k) rfl) rfl rfl ⟨by decide, by decide, Nat.le_of_ble_eq_true rfl⟩ ?_
    refine kw_callVr (pc := 31) dX6_dispute_31 lX6_76 (c_reasonE rfl (by omega) ((pR_congr (fun i hi => svS_low hi) (sv_pa (by omega))).trans ht)) mM_0 rfl rfl rfl ⟨by decide, by decide, Nat.le_of_ble_eq_true rfl⟩ ?_
    refine kw_istore_n (pc := 34) dX6_dispute_34 (by decide) rfl ?_
    refine kw_iload_n (pc := 35) dX6_dispute_35 rfl ?_
    refine kw_if_le (tgt := 52) (pc := 36) dX6_dispute_36 (by decide) (fun h36 => ?_) (fun h36 => ?_)
    · refine kw_iload_n (pc := 52) dX6_dispute_52 rfl ?_
      refine kw_aload_n (pc := 53) dX6_dispute_53 rfl ?_
      refine kw_iload_n (pc := 54) dX6_dispute_54 rfl ?_
      refine kw_callSr (pc := 55) dX6_dispute_55 lX6_69 (c_atE (p := k) rfl) rfl rfl ⟨by decide, by decide, Nat.le_of_ble_eq_true rfl⟩ ?_
      refine kw_callVr (pc := 58) dX6_dispute_58 lX6_63 (c_stringE rfl (by omega) (pS_congr (fun i hi => svS_low hi) (sv_pa (by omega)))) mM_0 rfl rfl rfl ⟨by decide, by decide, Nat.le_of_ble_eq_true rfl⟩ ?_
      refine kw_isub (pc := 61) dX6_dispute_61 ?_
      refine kw_istore (pc := 62) dX6_dispute_62 (by decide) rfl ?_
      refine kw_iload (pc := 64) dX6_dispute_64 rfl ?_
      refine kw_aload_n (pc := 66) dX6_dispute_66 rfl ?_
      refine kw_getfield (pc := 67) kfw dX6_dispute_67 fX6_7 mM_0 rfl ?_
      refine kw_iconst (v := 3) (pc := 70) dX6_dispute_70 (by decide) ?_
      refine kw_ialoadN (pc := 71) (i := 3) dX6_dispute_71 mM_1 (rfl : (3 : Int32) = nI 3) (by omega) (by decide) ?_
      refine kw_ineg (pc := 72) dX6_dispute_72 ?_
      refine kw_aload_n (pc := 73) dX6_dispute_73 rfl ?_
      refine kw_getfield (pc := 74) kfw dX6_dispute_74 fX6_7 mM_0 rfl ?_
      refine kw_iconst (v := 3) (pc := 77) dX6_dispute_77 (by decide) ?_
      refine kw_ialoadN (pc := 78) (i := 3) dX6_dispute_78 mM_1 (rfl : (3 : Int32) = nI 3) (by omega) (by decide) ?_
      refine kw_callSr (pc := 79) dX6_dispute_79 lX6_41 (c_inF (by rw [svS_low (by decide)]; exact hR)) rfl rfl ⟨by decide, by decide, Nat.le_of_ble_eq_true rfl⟩ ?_
      refine kw_if_ne (tgt := 98) (pc := 82) dX6_dispute_82 (by decide) (fun h82 => ?_) (fun h82 => ?_)
      · exact absurd (by decide) h82
      · refine kw_aload_n (pc := 85) dX6_dispute_85 rfl ?_
        refine kw_getfield (pc := 86) kfw dX6_dispute_86 fX6_7 mM_0 rfl ?_
        refine kw_bipush (v := 73) (pc := 89) dX6_dispute_89 (by decide) ?_
        refine kw_dup2 (pc := 91) dX6_dispute_91 rfl rfl ?_
        refine kw_ialoadN (pc := 92) (i := 73) dX6_dispute_92 mM_1 (rfl : (73 : Int32) = nI 73) (by omega) (by decide) ?_
        refine kw_iconst (v := 1) (pc := 93) dX6_dispute_93 (by decide) ?_
        refine kw_iadd (pc := 94) dX6_dispute_94 ?_
        refine kw_iastoreN (pc := 95) (i := 73) dX6_dispute_95 mM_1 (rfl : (73 : Int32) = nI 73) (by omega) (by decide) (kW.eq mMs_1 rfl ?_)
        refine kw_iconst (v := 4) (pc := 96) dX6_dispute_96 (by decide) ?_
        exact kw_ireturn nlX6_dispute (pc := 97) dX6_dispute_97 rfl rfl ⟨kv_eq rfl, ⟨_, _, _, _, rfl, agr.rf⟩, rfl⟩
    · exact absurd (by decide) h36
  · exact absurd h17 (by decide)
set_option maxRecDepth 100000 in
set_option maxHeartbeats 4000000 in
theorem c_disputeR {w0 : kM} {mo : Nat} {s : Nat → Int32} {sv : Int32} {kp bf : Nat → Int32} {ty th : Int32} {co ma : Nat → Int32} {sp : Int32}  {q : Nat} (hq : sv = nI q) (hq6 : q ≤ 6) {c : Nat} (hc : s 20 = nI c) (hc7 : c ≤ 7) {k : Nat} (hk : k < c) {z : Int32} (hz : 1 ≤ z ∧ z ≤ 999) {v : Int32} (ht : pR s (pa s (21 + 7 * k)) = v) (hv : 0 < v) : kCtrW mX6_dispute 4 [.ref mo, .int (nI k), .int z] (mM w0 mo s sv kp bf ty th co ma sp) (some (.int v)) (fun w' => mSt w0 mo (kuf (svS s q) 74 (svS s q 74 + 1)) (nI (svN q)) kp bf ty 0 w') := by
  refine kCtrW.of pl6 nlX6_dispute rfl (Nat.le_of_ble_eq_true rfl) (fun n => ?_)
  refine kw_aload_n (pc := 0) dX6_dispute_0 rfl ?_
  refine kw_aload_n (pc := 1) dX6_dispute_1 rfl ?_
  refine kw_iload_n (pc := 2) dX6_dispute_2 rfl ?_
  refine kw_callVr (pc := 3) dX6_dispute_3 lX6_119 (c_isParcelT hc hc7 hk) mM_0 rfl rfl rfl ⟨by decide, by decide, Nat.le_of_ble_eq_true rfl⟩ ?_
  refine kw_iload_n (pc := 6) dX6_dispute_6 rfl ?_
  refine kw_iconst (v := 1) (pc := 7) dX6_dispute_7 (by decide) ?_
  refine kw_sipush (v := 999) (pc := 8) dX6_dispute_8 (by decide) ?_
  refine kw_callSr (pc := 11) dX6_dispute_11 lX6_41 (c_inT hz) rfl rfl ⟨by decide, by decide, Nat.le_of_ble_eq_true rfl⟩ ?_
  refine kw_callVw1 (pc := 14) dX6_dispute_14 lX6_111 (c_goes1 (by decide) (by decide)) mM_0 rfl rfl rfl ⟨by decide, by decide, Nat.le_of_ble_eq_true rfl⟩ (fun w1 hw1 => ?_)
  have hw1 : w1 = _ := hw1
  subst hw1
  refine kw_if_ne (tgt := 22) (pc := 17) dX6_dispute_17 (by decide) (fun h17 => ?_) (fun h17 => ?_)
  · refine kw_aload_n (pc := 22) dX6_dispute_22 rfl ?_
    refine kw_callVw0 (pc := 23) dX6_dispute_23 lX6_38 (c_saves hq hq6) mM_0 rfl rfl rfl ⟨by decide, by decide, Nat.le_of_ble_eq_true rfl⟩ (fun w1 hw1 => ?_)
    have hw1 : w1 = _ := hw1
    subst hw1
    refine kw_aload_n (pc := 26) dX6_dispute_26 rfl ?_
    refine kw_iload_n (pc := 27) dX6_dispute_27 rfl ?_
    refine kw_callSr (pc := 28) dX6_dispute_28 lX6_69 (c_atE (p := k) rfl) rfl rfl ⟨by decide, by decide, Nat.le_of_ble_eq_true rfl⟩ ?_
    refine kw_callVr (pc := 31) dX6_dispute_31 lX6_76 (c_reasonE rfl (by omega) ((pR_congr (fun i hi => svS_low hi) (sv_pa (by omega))).trans ht)) mM_0 rfl rfl rfl ⟨by decide, by decide, Nat.le_of_ble_eq_true rfl⟩ ?_
    refine kw_istore_n (pc := 34) dX6_dispute_34 (by decide) rfl ?_
    refine kw_iload_n (pc := 35) dX6_dispute_35 rfl ?_
    refine kw_if_le (tgt := 52) (pc := 36) dX6_dispute_36 (by decide) (fun h36 => ?_) (fun h36 => ?_)
    · exact absurd hv (Int32.not_lt.mpr h36)
    · refine kw_aload_n (pc := 39) dX6_dispute_39 rfl ?_
      refine kw_getfield (pc := 40) kfw dX6_dispute_40 fX6_7 mM_0 rfl ?_
      refine kw_bipush (v := 74) (pc := 43) dX6_dispute_43 (by decide) ?_
      refine kw_dup2 (pc := 45) dX6_dispute_45 rfl rfl ?_
      refine kw_ialoadN (pc := 46) (i := 74) dX6_dispute_46 mM_1 (rfl : (74 : Int32) = nI 74) (by omega) (by decide) ?_
      refine kw_iconst (v := 1) (pc := 47) dX6_dispute_47 (by decide) ?_
      refine kw_iadd (pc := 48) dX6_dispute_48 ?_
      refine kw_iastoreN (pc := 49) (i := 74) dX6_dispute_49 mM_1 (rfl : (74 : Int32) = nI 74) (by omega) (by decide) (kW.eq mMs_1 rfl ?_)
      refine kw_iload_n (pc := 50) dX6_dispute_50 rfl ?_
      exact kw_ireturn nlX6_dispute (pc := 51) dX6_dispute_51 rfl rfl ⟨kv_eq rfl, ⟨_, _, _, _, rfl, agr.rf⟩, rfl⟩
  · exact absurd h17 (by decide)
set_option maxRecDepth 100000 in
set_option maxHeartbeats 4000000 in
theorem c_disputeA {w0 : kM} {mo : Nat} {s : Nat → Int32} {sv : Int32} {kp bf : Nat → Int32} {ty th : Int32} {co ma : Nat → Int32} {sp : Int32}  {c : Nat} (hc : s 20 = nI c) (hc7 : c ≤ 7) {p z : Int32} (hp : ¬ ∃ k, k < c ∧ p = nI k) : kCtrW mX6_dispute 4 [.ref mo, .int p, .int z] (mM w0 mo s sv kp bf ty th co ma sp) (some (.int 0)) (fun w' => mSt w0 mo s sv kp bf ty 1 w') := by
  refine kCtrW.of pl6 nlX6_dispute rfl (Nat.le_of_ble_eq_true rfl) (fun n => ?_)
  refine kw_aload_n (pc := 0) dX6_dispute_0 rfl ?_
  refine kw_aload_n (pc := 1) dX6_dispute_1 rfl ?_
  refine kw_iload_n (pc := 2) dX6_dispute_2 rfl ?_
  refine kw_callVr (pc := 3) dX6_dispute_3 lX6_119 (c_isParcelF hc hc7 hp) mM_0 rfl rfl rfl ⟨by decide, by decide, Nat.le_of_ble_eq_true rfl⟩ ?_
  refine kw_iload_n (pc := 6) dX6_dispute_6 rfl ?_
  refine kw_iconst (v := 1) (pc := 7) dX6_dispute_7 (by decide) ?_
  refine kw_sipush (v := 999) (pc := 8) dX6_dispute_8 (by decide) ?_
  refine kw_callSr (pc := 11) dX6_dispute_11 lX6_41 (c_in _ _ _) rfl rfl ⟨by decide, by decide, Nat.le_of_ble_eq_true rfl⟩ ?_
  refine kw_callVw1 (pc := 14) dX6_dispute_14 lX6_111 (c_goesA rfl) mM_0 rfl rfl rfl ⟨by decide, by decide, Nat.le_of_ble_eq_true rfl⟩ (fun w1 hw1 => ?_)
  have hw1 : w1 = _ := hw1
  subst hw1
  refine kw_if_ne (tgt := 22) (pc := 17) dX6_dispute_17 (by decide) (fun h17 => ?_) (fun h17 => ?_)
  · exact absurd (by decide) h17
  · refine kw_iconst (v := 0) (pc := 20) dX6_dispute_20 (by decide) ?_
    exact kw_ireturn nlX6_dispute (pc := 21) dX6_dispute_21 rfl rfl ⟨kv_eq rfl, ⟨_, _, _, _, rfl, agr.rf⟩, rfl⟩
set_option maxRecDepth 100000 in
set_option maxHeartbeats 4000000 in
theorem c_disputeB {w0 : kM} {mo : Nat} {s : Nat → Int32} {sv : Int32} {kp bf : Nat → Int32} {ty th : Int32} {co ma : Nat → Int32} {sp : Int32}  {c : Nat} (hc : s 20 = nI c) (hc7 : c ≤ 7) {k : Nat} (hk : k < c) {z : Int32} (hz : ¬ (1 ≤ z ∧ z ≤ 999)) : kCtrW mX6_dispute 4 [.ref mo, .int (nI k), .int z] (mM w0 mo s sv kp bf ty th co ma sp) (some (.int 0)) (fun w' => mSt w0 mo s sv kp bf ty 2 w') := by
  refine kCtrW.of pl6 nlX6_dispute rfl (Nat.le_of_ble_eq_true rfl) (fun n => ?_)
  refine kw_aload_n (pc := 0) dX6_dispute_0 rfl ?_
  refine kw_aload_n (pc := 1) dX6_dispute_1 rfl ?_
  refine kw_iload_n (pc := 2) dX6_dispute_2 rfl ?_
  refine kw_callVr (pc := 3) dX6_dispute_3 lX6_119 (c_isParcelT hc hc7 hk) mM_0 rfl rfl rfl ⟨by decide, by decide, Nat.le_of_ble_eq_true rfl⟩ ?_
  refine kw_iload_n (pc := 6) dX6_dispute_6 rfl ?_
  refine kw_iconst (v := 1) (pc := 7) dX6_dispute_7 (by decide) ?_
  refine kw_sipush (v := 999) (pc := 8) dX6_dispute_8 (by decide) ?_
  refine kw_callSr (pc := 11) dX6_dispute_11 lX6_41 (c_inF hz) rfl rfl ⟨by decide, by decide, Nat.le_of_ble_eq_true rfl⟩ ?_
  refine kw_callVw1 (pc := 14) dX6_dispute_14 lX6_111 (c_goesB (by decide) rfl) mM_0 rfl rfl rfl ⟨by decide, by decide, Nat.le_of_ble_eq_true rfl⟩ (fun w1 hw1 => ?_)
  have hw1 : w1 = _ := hw1
  subst hw1
  refine kw_if_ne (tgt := 22) (pc := 17) dX6_dispute_17 (by decide) (fun h17 => ?_) (fun h17 => ?_)
  · exact absurd (by decide) h17
  · refine kw_iconst (v := 0) (pc := 20) dX6_dispute_20 (by decide) ?_
    exact kw_ireturn nlX6_dispute (pc := 21) dX6_dispute_21 rfl rfl ⟨kv_eq rfl, ⟨_, _, _, _, rfl, agr.rf⟩, rfl⟩
