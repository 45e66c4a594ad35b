def txF (t : Nat) (T p : Int32) : Nat → Value := fun k => match k with
  | 0 => .ref (t + 1)
  | 1 => .int T
  | 2 => .ref (t + 2)
  | 3 => .int p
  | _ => .null
theorem txF_1 {t : Nat} {T p x : Int32} : kuF (txF t T p) 1 (.int x) = txF t x p := by
  funext j
  match j with
  | 0 => rfl
  | 1 => rfl
  | 2 => rfl
  | 3 => rfl
  | z + 4 => simp [kuF, txF]
theorem txF_3 {t : Nat} {T p x : Int32} : kuF (txF t T p) 3 (.int x) = txF t T x := by
  funext j
  match j with
  | 0 => rfl
  | 1 => rfl
  | 2 => rfl
  | 3 => rfl
  | z + 4 => simp [kuF, txF]
/-- the reader's cells -/
def txS (w : kM) (t T : Nat) (st : pst) : Prop := w t = kO 3 (txF t (nI T) (nI st.1)) ∧ w (t + 2) = kI 0 6 (tr 6 st.2)
def txC (w : kM) (t : Nat) (bf : Nat → Int32) (T : Nat) : Prop := ∃ cf, w (t + 1) = kI 0 60 (tr 60 cf) ∧ ∀ j, j < T → cf j = bf j
abbrev txR (w w' : kM) (t T : Nat) : Option pst → Prop
  | none => w' = w
  | some st' => txS w' t T st' ∧ ∀ a, a ≠ t → a ≠ t + 2 → w' a = w a
theorem txR.n {w w' : kM} {t T : Nat} {o : Option pst} (h : o = none) (hw : w' = w) : txR w w' t T o := by
  subst h
  exact hw
theorem txR.s {w w' : kM} {t T : Nat} {o : Option pst} {st : pst} (h : o = some st) (hw : txS w' t T st ∧ ∀ a, a ≠ t → a ≠ t + 2 → w' a = w a) : txR w w' t T o := by
  subst h
  exact hw
theorem isn {o : Option pst} (h : o = none) : (0 : Int32) = b2i (o.isSome = true) := by
  subst h
  rfl
theorem iss {o : Option pst} {st : pst} (h : o = some st) : (1 : Int32) = b2i (o.isSome = true) := by
  subst h
  rfl
def wayV (c : Int32) : Int32 := if c = 114 then 0 else if c = 99 then 1 else if c = 100 then 2 else -1
def chS (p : Nat) (v : Nat → Int32) (x n : Int32) : Option pst := if x < 0 ∨ n ≤ x then none else some (p + 1, kuf v p x)
def enS (p : Nat) (v : Nat → Int32) : Option pst := if v p = 0 then none else some (p + 1, kuf v (p + 1) 0)
def nuS (p : Nat) (v : Nat → Int32) (c : Int32) : Option pst := if c = endC p then enS p v else if c < 48 ∨ 57 < c then none else if 10 * v p + (c - 48) < 1 ∨ most p < 10 * v p + (c - 48) then none else some (p, kuf v p (10 * v p + (c - 48)))
theorem stp_nu {p : Nat} {v : Nat → Int32} {c : Int32} (h : p < 4) : stp (p, v) c = nuS p v c := by
  unfold stp nuS enS
  rw [if_pos h]
theorem stp_4 {v : Nat → Int32} {c : Int32} : stp (4, v) c = chS 4 v (c - 48) 4 := rfl
theorem stp_5 {v : Nat → Int32} {c : Int32} : stp (5, v) c = chS 5 v (wayV c) 3 := by
  show (if c = 114 then some (6, kuf v 5 0) else if c = 99 then some (6, kuf v 5 1) else if c = 100 then some (6, kuf v 5 2) else none) = _
  unfold chS wayV
  by_cases h1 : c = 114
  · simp [h1]
  · by_cases h2 : c = 99
    · simp [h2]
    · by_cases h3 : c = 100
      · simp [h3]
      · simp [h1, h2, h3]
set_option maxRecDepth 100000 in
set_option maxHeartbeats 4000000 in
theorem c3_start {w : kM} {t T p : Nat} {v : Nat → Int32} (S : txS w t T (p, v)) : kCtrW mX3_startReading 0 [.ref t] w none (fun w' => txS w' t T (0, kuf v 0 0) ∧ ∀ a, a ≠ t → a ≠ t + 2 → w' a = w a) := by
  refine kCtrW.of pl3 nlX3_startReading rfl (Nat.le_of_ble_eq_true rfl) (fun n => ?_)
  refine kw_aload_n (pc := 0) dX3_startReading_0 rfl ?_
  refine kw_iconst (v := 0) (pc := 1) dX3_startReading_1 (by decide) ?_
  refine kw_putfield (pc := 2) kfw dX3_startReading_2 fX3_40 S.1 (fun _ _ => rfl) (fun _ _ => rfl) ?_
  rw [txF_3]
  refine kw_aload_n (pc := 5) dX3_startReading_5 rfl ?_
  refine kw_getfield (pc := 6) kfw dX3_startReading_6 fX3_15 (kup_self _ _ _) rfl ?_
  refine kw_iconst (v := 0) (pc := 9) dX3_startReading_9 (by decide) ?_
  refine kw_iconst (v := 0) (pc := 10) dX3_startReading_10 (by decide) ?_
  refine kw_iastoreT (pc := 11) (i := 0) dX3_startReading_11 ((kup_ne (by omega)).trans (S.2)) (rfl : (0 : Int32) = nI 0) (by omega) (by decide) ?_
  exact kw_return nlX3_startReading (pc := 12) dX3_startReading_12 rfl ⟨rfl, ⟨⟨(kup_ne (by omega)).trans (kup_self _ _ _), kup_self _ _ _⟩, fun a h1 h2 => (kup_ne h2).trans (kup_ne h1)⟩, rfl⟩
set_option maxRecDepth 100000 in
set_option maxHeartbeats 4000000 in
theorem c3_ends {w : kM} {t T p : Nat} {v : Nat → Int32} (S : txS w t T (p, v)) (hp : p < 4) : kCtrW mX3_endsNumber 0 [.ref t] w (some (.int (b2i ((enS p v).isSome = true)))) (fun w' => txR w w' t T (enS p v)) := by
  refine kCtrW.of pl3 nlX3_endsNumber rfl (Nat.le_of_ble_eq_true rfl) (fun n => ?_)
  refine kw_aload_n (pc := 0) dX3_endsNumber_0 rfl ?_
  refine kw_getfield (pc := 1) kfw dX3_endsNumber_1 fX3_15 S.1 rfl ?_
  refine kw_aload_n (pc := 4) dX3_endsNumber_4 rfl ?_
  refine kw_getfield (pc := 5) kfw dX3_endsNumber_5 fX3_40 S.1 rfl ?_
  refine kw_ialoadT (pc := 8) (i := p) dX3_endsNumber_8 S.2 rfl (by omega) (by decide) ?_
  refine kw_if_ne (tgt := 14) (pc := 9) dX3_endsNumber_9 (by decide) (fun h9 => ?_) (fun h9 => ?_)
  · refine kw_aload_n (pc := 14) dX3_endsNumber_14 rfl ?_
    refine kw_dup (pc := 15) dX3_endsNumber_15 rfl ?_
    refine kw_getfield (pc := 16) kfw dX3_endsNumber_16 fX3_40 S.1 rfl ?_
    refine kw_iconst (v := 1) (pc := 19) dX3_endsNumber_19 (by decide) ?_
    refine kw_iadd (pc := 20) dX3_endsNumber_20 ?_
    refine kw_putfield (pc := 21) kfw dX3_endsNumber_21 fX3_40 S.1 (fun _ _ => rfl) (fun _ _ => rfl) ?_
    rw [txF_3]
    refine kw_aload_n (pc := 24) dX3_endsNumber_24 rfl ?_
    refine kw_getfield (pc := 25) kfw dX3_endsNumber_25 fX3_15 (kup_self _ _ _) rfl ?_
    refine kw_aload_n (pc := 28) dX3_endsNumber_28 rfl ?_
    refine kw_getfield (pc := 29) kfw dX3_endsNumber_29 fX3_40 (kup_self _ _ _) rfl ?_
    refine kw_iconst (v := 0) (pc := 32) dX3_endsNumber_32 (by decide) ?_
    refine kw_iastoreT (pc := 33) (i := (p + 1)) dX3_endsNumber_33 ((kup_ne (by omega)).trans (S.2)) (kA (a := p) (b := 1) rfl (rfl : (1 : Int32) = nI 1)) (by omega) (by decide) ?_
    refine kw_iconst (v := 1) (pc := 34) dX3_endsNumber_34 (by decide) ?_
    exact kw_ireturn nlX3_endsNumber (pc := 35) dX3_endsNumber_35 rfl (by first | rfl | exact b2i_z _ | exact hbool) ⟨kv_eq (iss (show enS p v = some (p + 1, kuf v (p + 1) 0) from if_neg h9)), txR.s (show enS p v = some (p + 1, kuf v (p + 1) 0) from if_neg h9) ⟨⟨(kup_ne (by omega)).trans ((kup_self _ _ _).trans (by rw [kA (a := p) (b := 1) rfl (rfl : (1 : Int32) = nI 1)])), kup_self _ _ _⟩, fun a h1 h2 => (kup_ne h2).trans (kup_ne h1)⟩, rfl⟩
  · refine kw_iconst (v := 0) (pc := 12) dX3_endsNumber_12 (by decide) ?_
    exact kw_ireturn nlX3_endsNumber (pc := 13) dX3_endsNumber_13 rfl (by first | rfl | exact b2i_z _ | exact hbool) ⟨kv_eq (isn (show enS p v = none from if_pos h9)), txR.n (show enS p v = none from if_pos h9) rfl, rfl⟩
set_option maxRecDepth 100000 in
set_option maxHeartbeats 4000000 in
theorem c3_choice {w : kM} {t T p : Nat} {v : Nat → Int32} (S : txS w t T (p, v)) (hp : p < 6) (x m : Int32) : kCtrW mX3_readsChoice 0 [.ref t, .int x, .int m] w (some (.int (b2i ((chS p v x m).isSome = true)))) (fun w' => txR w w' t T (chS p v x m)) := by
  refine kCtrW.of pl3 nlX3_readsChoice rfl (Nat.le_of_ble_eq_true rfl) (fun n => ?_)
  refine kw_iload_n (pc := 0) dX3_readsChoice_0 rfl ?_
  refine kw_if_lt (tgt := 9) (pc := 1) dX3_readsChoice_1 (by decide) (fun h1 => ?_) (fun h1 => ?_)
  · refine kw_iconst (v := 0) (pc := 9) dX3_readsChoice_9 (by decide) ?_
    exact kw_ireturn nlX3_readsChoice (pc := 10) dX3_readsChoice_10 rfl (by first | rfl | exact b2i_z _ | exact hbool) ⟨kv_eq (isn (show chS p v x m = none from if_pos (by grind))), txR.n (show chS p v x m = none from if_pos (by grind)) rfl, rfl⟩
  · refine kw_iload_n (pc := 4) dX3_readsChoice_4 rfl ?_
    refine kw_iload_n (pc := 5) dX3_readsChoice_5 rfl ?_
    refine kw_icmp_lt (tgt := 11) (pc := 6) dX3_readsChoice_6 (by decide) (fun h6 => ?_) (fun h6 => ?_)
    · refine kw_aload_n (pc := 11) dX3_readsChoice_11 rfl ?_
      refine kw_getfield (pc := 12) kfw dX3_readsChoice_12 fX3_15 S.1 rfl ?_
      refine kw_aload_n (pc := 15) dX3_readsChoice_15 rfl ?_
      refine kw_getfield (pc := 16) kfw dX3_readsChoice_16 fX3_40 S.1 rfl ?_
      refine kw_iload_n (pc := 19) dX3_readsChoice_19 rfl ?_
      refine kw_iastoreT (pc := 20) (i := p) dX3_readsChoice_20 S.2 rfl (by omega) (by decide) ?_
      refine kw_aload_n (pc := 21) dX3_readsChoice_21 rfl ?_
      refine kw_dup (pc := 22) dX3_readsChoice_22 rfl ?_
      refine kw_getfield (pc := 23) kfw dX3_readsChoice_23 fX3_40 ((kup_ne (by omega)).trans (S.1)) rfl ?_
      refine kw_iconst (v := 1) (pc := 26) dX3_readsChoice_26 (by decide) ?_
      refine kw_iadd (pc := 27) dX3_readsChoice_27 ?_
      refine kw_putfield (pc := 28) kfw dX3_readsChoice_28 fX3_40 ((kup_ne (by omega)).trans (S.1)) (fun _ _ => rfl) (fun _ _ => rfl) ?_
      rw [txF_3]
      refine kw_iconst (v := 1) (pc := 31) dX3_readsChoice_31 (by decide) ?_
      exact kw_ireturn nlX3_readsChoice (pc := 32) dX3_readsChoice_32 rfl (by first | rfl | exact b2i_z _ | exact hbool) ⟨kv_eq (iss (show chS p v x m = some (p + 1, kuf v p x) from if_neg (by grind))), txR.s (show chS p v x m = some (p + 1, kuf v p x) from if_neg (by grind)) ⟨⟨(kup_self _ _ _).trans (by rw [kA (a := p) (b := 1) rfl (rfl : (1 : Int32) = nI 1)]), (kup_ne (by omega)).trans (kup_self _ _ _)⟩, fun a h1 h2 => (kup_ne h1).trans (kup_ne h2)⟩, rfl⟩
    · refine kw_iconst (v := 0) (pc := 9) dX3_readsChoice_9 (by decide) ?_
      exact kw_ireturn nlX3_readsChoice (pc := 10) dX3_readsChoice_10 rfl (by first | rfl | exact b2i_z _ | exact hbool) ⟨kv_eq (isn (show chS p v x m = none from if_pos (by grind))), txR.n (show chS p v x m = none from if_pos (by grind)) rfl, rfl⟩
set_option maxRecDepth 100000 in
set_option maxHeartbeats 4000000 in
theorem c3_way {w : kM} (c : Int32) : kCtrR mX3_wayOf 0 [.int c] w (.int (wayV c)) := by
  refine kCtrR.of pl3 nlX3_wayOf rfl (Nat.le_of_ble_eq_true rfl) (fun n => ?_)
  by_cases h99 : c = 99
  · subst h99
    refine kw_iload_n (pc := 0) dX3_wayOf_0 rfl ?_
    refine kw_lookup (off := 37) (tgt := 38) (pc := 1) dX3_wayOf_1 (by decide) (by decide) (by decide) ?_
    refine kw_iconst (v := 1) (pc := 38) dX3_wayOf_38 (by decide) ?_
    exact kw_ireturn nlX3_wayOf (pc := 39) dX3_wayOf_39 rfl rfl ⟨rfl, rfl, rfl⟩
  by_cases h100 : c = 100
  · subst h100
    refine kw_iload_n (pc := 0) dX3_wayOf_0 rfl ?_
    refine kw_lookup (off := 39) (tgt := 40) (pc := 1) dX3_wayOf_1 (by decide) (by decide) (by decide) ?_
    refine kw_iconst (v := 2) (pc := 40) dX3_wayOf_40 (by decide) ?_
    exact kw_ireturn nlX3_wayOf (pc := 41) dX3_wayOf_41 rfl rfl ⟨rfl, rfl, rfl⟩
  by_cases h114 : c = 114
  · subst h114
    refine kw_iload_n (pc := 0) dX3_wayOf_0 rfl ?_
    refine kw_lookup (off := 35) (tgt := 36) (pc := 1) dX3_wayOf_1 (by decide) (by decide) (by decide) ?_
    refine kw_iconst (v := 0) (pc := 36) dX3_wayOf_36 (by decide) ?_
    exact kw_ireturn nlX3_wayOf (pc := 37) dX3_wayOf_37 rfl rfl ⟨rfl, rfl, rfl⟩
  have e : ∀ k : Int32, ¬ c = k → ¬ c.toInt = k.toInt := fun k h h2 => h (Int32.toInt_inj.mp h2)
  have e1 : ¬ c.toInt = 99 := e 99 h99
  have e2 : ¬ c.toInt = 100 := e 100 h100
  have e3 : ¬ c.toInt = 114 := e 114 h114
  refine kw_iload_n (pc := 0) dX3_wayOf_0 rfl ?_
  refine kw_lookup (off := 41) (tgt := 42) (pc := 1) dX3_wayOf_1 (by decide) (by simp [Op.lookupswitch.offset, e1, e2, e3, Ne.symm, eq_comm]) (by decide) ?_
  refine kw_iconst (v := -1) (pc := 42) dX3_wayOf_42 (by decide) ?_
  exact kw_ireturn nlX3_wayOf (pc := 43) dX3_wayOf_43 rfl rfl ⟨kv_eq (by unfold wayV; rw [if_neg h114, if_neg h99, if_neg h100]), rfl, rfl⟩
