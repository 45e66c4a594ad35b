theorem nX0_22 : Cond.classLink RX0 22 "[[I" ∈ kTb := (kin 152 (by decide +kernel) rfl)
theorem tr_z {N : Nat} : tr N z0 = fun _ => 0 := by
  funext j
  unfold tr
  split <;> rfl
def tyT : Nat → FieldType := fun k => match k with
  | 0 => .array .int
  | 1 => .int
  | 2 => .array .int
  | 3 => .int
  | _ => .object ""
theorem tyT_ok : ∀ k, k < 4 → parseFieldDescriptor (TX3 k).2.2.1 = some (tyT k) := by decide +kernel
def txF0 : Nat → Value := fun k => defaultValue (tyT k)
theorem txF0_s {t : Nat} : kuF (kuF txF0 0 (.ref (t + 1))) 2 (.ref (t + 1 + 1)) = txF t (nI 0) (nI 0) := by
  funext j
  match j with
  | 0 => rfl
  | 1 => rfl
  | 2 => rfl
  | 3 => rfl
  | z + 4 => simp [kuF, txF, txF0, tyT, defaultValue]
def tyB : Nat → FieldType := fun k => match k with
  | 0 => .object "StringRates$Parcel"
  | 1 => .array .int
  | 2 => .array (.array .int)
  | 3 => .array .int
  | 4 => .int
  | _ => .object ""
theorem tyB_ok : ∀ k, k < 5 → parseFieldDescriptor (TX0 k).2.2.1 = some (tyB k) := by decide +kernel
def bnF0 : Nat → Value := fun k => defaultValue (tyB k)
theorem bnF0_s {y : Nat} : kuF (kuF (kuF (kuF bnF0 0 (.ref (y + 1))) 1 (.ref (y + 1 + 1))) 2 (.ref (y + 1 + 1 + 1))) 3 (.ref (y + 1 + 1 + 1 + 1 + 7)) = bnF y (nI 0) := by
  funext j
  match j with
  | 0 => rfl
  | 1 => rfl
  | 2 => rfl
  | 3 => rfl
  | 4 => rfl
  | z + 5 => simp [kuF, bnF, bnF0, tyB, defaultValue]
def tyS : Nat → FieldType := fun k => match k with
  | 0 => .array (.object "StringRates$Office")
  | 1 => .int
  | _ => .object ""
theorem tyS_ok : ∀ k, k < 2 → parseFieldDescriptor (TX4 k).2.2.1 = some (tyS k) := by decide +kernel
def svF0 : Nat → Value := fun k => defaultValue (tyS k)
theorem svF0_s {v : Nat} : kuF svF0 0 (.ref (v + 1)) = svF v (nI 0) := by
  funext j
  match j with
  | 0 => rfl
  | 1 => rfl
  | z + 2 => simp [kuF, svF, svF0, tyS, defaultValue]
def tyX : Nat → FieldType := fun k => match k with
  | 0 => .object "StringRates$Office"
  | 1 => .array (.object "StringRates$Office")
  | 2 => .array .boolean
  | 3 => .object "StringRates$SavedStates"
  | 4 => .object "StringRates$ParcelText"
  | 5 => .object "StringRates$Bundling"
  | _ => .object ""
theorem tyX_ok : ∀ k, k < 6 → parseFieldDescriptor (TX5 k).2.2.1 = some (tyX k) := by decide +kernel
def xF0 : Nat → Value := fun k => defaultValue (tyX k)
theorem xF0_s : kuF (kuF (kuF (kuF (kuF (kuF xF0 0 (.ref 1)) 1 (.ref 13)) 2 (.ref 14)) 3 (.ref 15)) 4 (.ref 89)) 5 (.ref 92) = xF := by
  funext j
  match j with
  | 0 => rfl
  | 1 => rfl
  | 2 => rfl
  | 3 => rfl
  | 4 => rfl
  | 5 => rfl
  | z + 6 => simp [kuF, xF, xF0, tyX, defaultValue]
set_option maxRecDepth 100000 in
set_option maxHeartbeats 4000000 in
theorem c3_init {w : kM} {t : Nat} (h0 : w t = kO 3 txF0) : kCtrI mX3_init 1 2 66 [.ref t] w (t + 1) (t + 3) (fun w' => txS w' t 0 (0, z0) ∧ w' (t + 1) = kI 0 60 (tr 60 z0) ∧ ∀ a, (a < t ∨ t + 3 ≤ a) → w' a = w a) := by
  refine kCtr.of (X := (0, fun _ => 0)) pl3 nlX3_init rfl (Nat.le_of_ble_eq_true rfl) ?_
  refine kw_aload_n (pc := 0) dX3_init_0 rfl ?_
  refine kw_objInit (pc := 1) dX3_init_1 lX3_3 koi1 koi2 (by decide) (Nat.le_of_ble_eq_true rfl) ?_
  refine kw_aload_n (pc := 4) dX3_init_4 rfl ?_
  refine kw_bipush (v := 60) (pc := 5) dX3_init_5 (by decide) ?_
  refine kw_newarray (pc := 7) (t := 0) (N := 60) dX3_init_7 (by decide) rfl ka_int (by decide) rfl (Nat.le_of_ble_eq_true rfl) (by decide) (Nat.le_of_ble_eq_true rfl) ?_
  refine kw_putfieldF (pc := 9) kfw dX3_init_9 fX3_9 rfl rfl ((kup_ne (by omega)).trans h0) (fun _ _ => rfl) (fun _ _ => rfl) ?_
  refine kw_aload_n (pc := 12) dX3_init_12 rfl ?_
  refine kw_bipush (v := 6) (pc := 13) dX3_init_13 (by decide) ?_
  refine kw_newarray (pc := 15) (t := 0) (N := 6) dX3_init_15 (by decide) rfl ka_int (by decide) rfl (Nat.le_of_ble_eq_true rfl) (by decide) (Nat.le_of_ble_eq_true rfl) ?_
  refine kw_putfieldF (pc := 17) kfw dX3_init_17 fX3_15 rfl rfl ((kup_ne (by omega)).trans (kup_self _ _ _)) (fun _ _ => rfl) (fun _ _ => rfl) ?_
  exact kw_return nlX3_init (pc := 20) dX3_init_20 rfl ⟨rfl, ⟨⟨(kup_self _ _ _).trans (congrArg (kO 3) txF0_s), (kup_ne (by omega)).trans ((kup_self _ _ _).trans (congrArg (kI 0 6) tr_z.symm))⟩, (kup_ne (by omega)).trans ((kup_ne (by omega)).trans ((kup_ne (by omega)).trans ((kup_self _ _ _).trans (congrArg (kI 0 60) tr_z.symm)))), fun a h => by rw [kup_ne (by omega), kup_ne (by omega), kup_ne (by omega), kup_ne (by omega)]⟩, rfl⟩
theorem mulW_ne {w : kM} {n N K a : Nat} (h : a < n ∨ n + N < a) : mulW w n N K a = w a := by
  unfold mulW
  rw [if_neg (by omega), if_neg (by omega)]
theorem mulW_o {w : kM} {n N K : Nat} : mulW w n N K n = kV 4 N (tv N (fun j => .ref (n + 1 + j))) := if_pos rfl
theorem mulW_i {w : kM} {n N K j : Nat} (h : j < N) : mulW w n N K (n + 1 + j) = kI 0 K (fun _ => 0) := by
  unfold mulW
  rw [if_neg (by omega), if_pos (by omega)]
set_option maxRecDepth 100000 in
set_option maxHeartbeats 4000000 in
theorem c0_init {w : kM} {y : Nat} (h0 : w y = kO 0 bnF0) : kCtrI mX0_init 2 11 198 [.ref y] w (y + 1) (y + 12) (fun w' => bnS w' y 0 z0 (fun _ => z0) z0 ∧ ∀ a, (a < y ∨ y + 12 ≤ a) → w' a = w a) := by
  refine kCtr.of (X := (0, fun _ => 0)) pl0 nlX0_init rfl (Nat.le_of_ble_eq_true rfl) ?_
  refine kw_aload_n (pc := 0) dX0_init_0 rfl ?_
  refine kw_objInit (pc := 1) dX0_init_1 lX0_3 koi1 koi2 (by decide) (Nat.le_of_ble_eq_true rfl) ?_
  refine kw_aload_n (pc := 4) dX0_init_4 rfl ?_
  refine kw_new (pc := 5) tyP kfw dX0_init_5 (ci := 2) rfl tyP_ok nX0_9 ki_2 kj_2 (by decide) (Nat.le_of_ble_eq_true rfl) ?_
  rw [tyP_F]
  refine kw_dup (pc := 8) dX0_init_8 rfl ?_
  refine kw_callNi (pc := 9) dX0_init_9 lX0_11 c2_init (kup_self _ _ _) rfl rfl ⟨by decide, by decide, Nat.le_of_ble_eq_true rfl, Nat.zero_le _, Nat.zero_le _⟩ (fun wz hz => ?_)
  have hz : _ = wz := Eq.symm hz
  subst hz
  refine kw_putfieldF (pc := 12) kfw dX0_init_12 fX0_12 rfl rfl ((kup_ne (by omega)).trans h0) (fun _ _ => rfl) (fun _ _ => rfl) ?_
  refine kw_aload_n (pc := 15) dX0_init_15 rfl ?_
  refine kw_bipush (v := 7) (pc := 16) dX0_init_16 (by decide) ?_
  refine kw_newarray (pc := 18) (t := 0) (N := 7) dX0_init_18 (by decide) rfl ka_int (by decide) rfl (Nat.le_of_ble_eq_true rfl) (by decide) (Nat.le_of_ble_eq_true rfl) ?_
  refine kw_putfieldF (pc := 20) kfw dX0_init_20 fX0_18 rfl rfl ((kup_ne (by omega)).trans (kup_self _ _ _)) (fun _ _ => rfl) (fun _ _ => rfl) ?_
  refine kw_aload_n (pc := 23) dX0_init_23 rfl ?_
  refine kw_bipush (v := 7) (pc := 24) dX0_init_24 (by decide) ?_
  refine kw_bipush (v := 7) (pc := 26) dX0_init_26 (by decide) ?_
  refine kw_multi (pc := 28) (N := 7) (K := 7) dX0_init_28 nX0_22 ka_int (by decide) (by decide) rfl rfl (by decide) (by decide) (by decide) (Nat.le_of_ble_eq_true rfl) ?_
  refine kw_putfieldF (pc := 32) kfw dX0_init_32 fX0_24 rfl rfl ((mulW_ne (by omega)).trans (kup_self _ _ _)) (fun _ _ => rfl) (fun _ _ => rfl) ?_
  refine kw_aload_n (pc := 35) dX0_init_35 rfl ?_
  refine kw_sipush (v := 128) (pc := 36) dX0_init_36 (by decide) ?_
  refine kw_newarray (pc := 39) (t := 0) (N := 128) dX0_init_39 (by decide) rfl ka_int (by decide) rfl (Nat.le_of_ble_eq_true rfl) (by decide) (Nat.le_of_ble_eq_true rfl) ?_
  refine kw_putfieldF (pc := 41) kfw dX0_init_41 fX0_27 rfl rfl ((kup_ne (by omega)).trans (kup_self _ _ _)) (fun _ _ => rfl) (fun _ _ => rfl) ?_
  exact kw_return nlX0_init (pc := 44) dX0_init_44 rfl ⟨rfl, ⟨⟨(kup_self _ _ _).trans (congrArg (kO 0) bnF0_s), ⟨z0, ((kup_ne (by omega)).trans ((kup_ne (by omega)).trans ((kup_ne (by omega)).trans ((mulW_ne (by omega)).trans ((kup_ne (by omega)).trans ((kup_ne (by omega)).trans ((kup_ne (by omega)).trans (kup_self _ _ _))))))))⟩, ((kup_ne (by omega)).trans ((kup_ne (by omega)).trans ((kup_ne (by omega)).trans ((mulW_ne (by omega)).trans ((kup_ne (by omega)).trans ((kup_self _ _ _).trans (congrArg (kI 0 7) tr_z.symm))))))), ((kup_ne (by omega)).trans ((kup_ne (by omega)).trans ((kup_ne (by omega)).trans (mulW_o)))), fun k hk => ((kup_ne (by omega)).trans ((kup_ne (by omega)).trans ((kup_ne (by omega)).trans ((mulW_i (n := y + 3) hk).trans (congrArg (kI 0 7) tr_z.symm))))), ((kup_ne (by omega)).trans ((kup_self _ _ _).trans (congrArg (kI 0 128) tr_z.symm)))⟩, fun a h => by rw [kup_ne (by omega), kup_ne (by omega), kup_ne (by omega), mulW_ne (by omega), kup_ne (by omega), kup_ne (by omega), kup_ne (by omega), kup_ne (by omega)]⟩, rfl⟩
set_option maxRecDepth 100000 in
set_option maxHeartbeats 4000000 in
theorem c4_init {w : kM} {v : Nat} {R : Nat → Nat → Int32} (h0 : w v = kO 4 svF0) : kCtrI mX4_init 3 73 522 [.ref v] w (v + 1) (v + 74) (fun w' => svP w' v 0 R ∧ ∀ a, (a < v ∨ v + 74 ≤ a) → w' a = w a) := by
  refine kCtr.of (X := (0, fun _ => 0)) pl4 nlX4_init rfl (Nat.le_of_ble_eq_true rfl) ?_
  have loop : ∀ (m i : Nat) (wi : kM) (n1 : Nat), m = 6 - i → i ≤ 6 → n1 = v + 2 + 12 * i → wi v = kO 4 (svF v (nI 0)) → wi (v + 1) = kV 6 6 (tv i (fun j => .ref (v + 2 + 12 * j))) → (∀ j, j < i → offR wi (v + 2 + 12 * j) iniS) → (∀ a, (a < v ∨ v + 2 + 12 * i ≤ a) → wi a = w a) → kW (0, fun _ => 0) mX4_init 3 (fun o' w' n' => o' = .inl none ∧ (fun w' => svP w' v 0 R ∧ ∀ a, (a < v ∨ v + 74 ≤ a) → w' a = w a) w' ∧ n' = v + 74) (12 * (6 - i)) (86 * (6 - i)) n1 wi 15 [(0, .ref v), (1, .int (nI i))] [] := by
    intro m
    induction m using Nat.strongRecOn with
    | _ m ih =>
      intro i wi n1 hm hi hn hob hps hof hfr
      refine kw_iload_n (pc := 15) dX4_init_15 rfl ?_
      refine kw_aload_n (pc := 16) dX4_init_16 rfl ?_
      refine kw_getfield (pc := 17) kfw dX4_init_17 fX4_11 hob rfl ?_
      refine kw_alenV (pc := 20) (v := 6) dX4_init_20 hps rfl ?_
      refine kw_icmp_ge (tgt := 43) (pc := 21) dX4_init_21 (by decide) (fun h21 => ?_) (fun h21 => ?_)
      · have h21 := (kLeI (a := 6) (b := i) (by omega) (by omega) (rfl : (6 : Int32) = nI 6) rfl).mp h21
        exact kw_return nlX4_init (pc := 43) dX4_init_43 rfl ⟨rfl, ⟨⟨fun j => j, ⟨hob, by rw [show i = 6 by omega] at hps; exact hps, fun k hk => hk, fun _ _ _ _ e => e, fun j hj => (hof j (by omega)).a, by decide⟩, fun j hj => absurd hj (Nat.not_lt_zero j)⟩, fun a h => hfr a (by omega)⟩, by omega⟩
      · have h21 := mt (kLeI (a := 6) (b := i) (by omega) (by omega) (rfl : (6 : Int32) = nI 6) rfl).mpr h21
        refine kw_aload_n (pc := 24) dX4_init_24 rfl ?_
        refine kw_getfield (pc := 25) kfw dX4_init_25 fX4_11 hob rfl ?_
        refine kw_iload_n (pc := 28) dX4_init_28 rfl ?_
        refine kw_new (pc := 29) tyO kfw dX4_init_29 (ci := 1) rfl tyO_ok nX4_9 ki_1 kj_1 (by omega) (by omega) ?_
        refine kw_dup (pc := 32) dX4_init_32 rfl ?_
        refine kw_callIi (pc := 33) dX4_init_33 lX4_17 (c1_init (kup_self _ _ _)) (kup_self _ _ _) rfl rfl ⟨by decide, by decide, Nat.le_of_ble_eq_true rfl, by omega, by omega⟩ (fun w2 hz => ?_)
        obtain ⟨Ho, Fo⟩ := hz
        refine kw_aastore (pc := 36) (ci := 1) dX4_init_36 ((Fo _ (by omega)).trans ((kup_ne (by omega)).trans hps)) rfl rfl (vp_in_nI (by omega) (by decide)) Ho.ob (kgen (fun w3 hw3 => ?_))
        rw [nI_clamp (by omega), tvN_s (i := i) (f := fun j => .ref (v + 2 + 12 * j)) (congrArg Value.ref hn)] at hw3
        refine kw_iinc (pc := 37) dX4_init_37 (by decide) rfl rfl rfl ?_
        refine kw_goto (tgt := 15) (pc := 40) dX4_init_40 (by decide) ?_
        refine kW.locs (kW.less (rc' := 12 * (6 - (i + 1))) (rs' := 86 * (6 - (i + 1))) (by omega) (by omega) (ih (6 - (i + 1)) (by omega) (i + 1) w3 _ rfl (by omega) (by omega) (by rw [hw3, kup_ne (by omega), Fo _ (by omega), kup_ne (by omega)]; exact hob) (kup_at hw3) (fun j hj => ?_) (fun a h => by rw [hw3, kup_ne (by omega), Fo _ (by omega), kup_ne (by omega)]; exact hfr a (by omega)))) ⟨rfl, kgE rfl (kA (a := i) (b := 1) rfl (rfl : (Int32.ofInt 1) = nI 1)), trivial⟩
        by_cases e : j = i
        · subst e; exact offR.fr ⟨_, _, hn ▸ Ho⟩ (fun k h1 h2 => by rw [hw3]; exact kup_ne (by omega))
        · exact (hof j (by omega)).fr (fun k h1 h2 => by rw [hw3, kup_ne (by omega), Fo _ (by omega), kup_ne (by omega)])
  refine kw_aload_n (pc := 0) dX4_init_0 rfl ?_
  refine kw_objInit (pc := 1) dX4_init_1 lX4_3 koi1 koi2 (by decide) (Nat.le_of_ble_eq_true rfl) ?_
  refine kw_aload_n (pc := 4) dX4_init_4 rfl ?_
  refine kw_bipush (v := 6) (pc := 5) dX4_init_5 (by decide) ?_
  refine kw_anewarray (pc := 7) (t := 6) (N := 6) dX4_init_7 (by decide) rfl nX4_9 (Or.inr rfl) (by decide) rfl (Nat.le_of_ble_eq_true rfl) (by decide) (Nat.le_of_ble_eq_true rfl) ?_
  refine kw_putfieldF (pc := 10) kfw dX4_init_10 fX4_11 rfl rfl ((kup_ne (by omega)).trans h0) (fun _ _ => rfl) (fun _ _ => rfl) ?_
  refine kw_iconst (v := 0) (pc := 13) dX4_init_13 (by decide) ?_
  refine kw_istore_n (pc := 14) dX4_init_14 (by decide) rfl ?_
  refine kgen (fun w3 hw3 => ?_)
  rw [svF0_s] at hw3
  exact kW.locs (kW.less (rc' := 12 * (6 - 0)) (rs' := 86 * (6 - 0)) (Nat.le_of_ble_eq_true rfl) (Nat.le_of_ble_eq_true rfl) (loop (6 - 0) 0 w3 _ rfl (by omega) (by omega) (kup_at hw3) (by rw [hw3, tvN_0]; exact (kup_ne (by omega)).trans (kup_self _ _ _)) (fun j hj => absurd hj (Nat.not_lt_zero j)) (fun a h => by rw [hw3, kup_ne (by omega), kup_ne (by omega)]))) ⟨rfl, rfl, trivial⟩
