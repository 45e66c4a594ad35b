/-- the model's fields when it is made -/
def tyM : Nat → FieldType := fun k => match k with
  | 0 => .array .int
  | 1 => .int
  | 2 => .array .boolean
  | 3 => .array .char
  | 4 => .int
  | 5 => .int
  | 6 => .array .int
  | 7 => .array .int
  | 8 => .int
  | _ => .object ""
def mF0 : Nat → Value := fun k => defaultValue (tyM k)
def iniB (b : Nat) : Nat → Int32 := fun i => if i = 0 then 5 else if i = 1 then 150 else if i = 2 then 2 else if i = 3 then 10 else if 4 ≤ i ∧ i < 4 + b then nI (5 * (i - 4) + 5) else 0
def iniZ (z : Nat) : Nat → Int32 := fun i => if 16 ≤ i ∧ i < 16 + z then nI (i - 16 + 1) else iniB 12 i
/-- the numbers of a new office -/
def iniS : Nat → Int32 := iniZ 4
theorem iniB_0 : kuf (kuf (kuf (kuf z0 0 5) 1 150) 2 2) 3 10 = iniB 0 := by
  funext i
  unfold kuf iniB
  by_cases h3 : i = 3
  · subst h3; rfl
  · by_cases h2 : i = 2
    · subst h2; rfl
    · by_cases h1 : i = 1
      · subst h1; rfl
      · by_cases h0 : i = 0
        · subst h0; rfl
        · simp [h0, h1, h2, h3]
          intro a b
          omega
theorem iniB_s {b : Nat} : kuf (iniB b) (4 + b) (nI (5 * b + 5)) = iniB (b + 1) := by
  funext i
  unfold kuf
  by_cases h : i = 4 + b
  · subst h
    rw [if_pos rfl]
    unfold iniB
    rw [if_neg (by omega), if_neg (by omega), if_neg (by omega), if_neg (by omega), if_pos (by omega), show 4 + b - 4 = b by omega]
  · rw [if_neg h]
    unfold iniB
    by_cases h2 : 4 ≤ i ∧ i < 4 + b
    · rw [if_pos h2, if_pos (show 4 ≤ i ∧ i < 4 + (b + 1) by omega)]
    · rw [if_neg h2, if_neg (show ¬ (4 ≤ i ∧ i < 4 + (b + 1)) by omega)]
theorem iniZ_0 : iniB 12 = iniZ 0 := by
  funext i
  unfold iniZ
  rw [if_neg (by omega)]
theorem iniZ_s {b : Nat} : kuf (iniZ b) (16 + b) (nI (b + 1)) = iniZ (b + 1) := by
  funext i
  unfold kuf
  by_cases h : i = 16 + b
  · subst h
    rw [if_pos rfl]
    unfold iniZ
    rw [if_pos (by omega), show 16 + b - 16 + 1 = b + 1 by omega]
  · rw [if_neg h]
    unfold iniZ
    by_cases h2 : 16 ≤ i ∧ i < 16 + b
    · rw [if_pos h2, if_pos (show 16 ≤ i ∧ i < 16 + (b + 1) by omega)]
    · rw [if_neg h2, if_neg (show ¬ (16 ≤ i ∧ i < 16 + (b + 1)) by omega)]
theorem mF0_s {mo : Nat} : kuF (kuF (kuF (kuF (kuF mF0 0 (.ref (mo + 1))) 2 (.ref (mo + 1 + 1))) 3 (.ref (mo + 1 + 1 + 1))) 6 (.ref (mo + 1 + 1 + 1 + 1))) 7 (.ref (mo + 1 + 1 + 1 + 1 + 1)) = mF mo 0 0 0 0 := by
  funext j
  match j with
  | 0 => rfl
  | 1 => rfl
  | 2 => rfl
  | 3 => rfl
  | 4 => rfl
  | 5 => rfl
  | 6 => rfl
  | 7 => rfl
  | 8 => rfl
  | z + 9 => simp [kuF, mF, mF0, tyM, defaultValue]
set_option maxRecDepth 100000 in
set_option maxHeartbeats 4000000 in
theorem c_init6 {w : kM} {mo : Nat} (h0 : w mo = kO 6 mF0) : kCtr mX6_init 1 5 879 [.ref mo] w (mo + 1) (fun o w' n' => o = .inl none ∧ w' = (mM w mo iniS 0 z0 z0 0 0 z0 z0 0) ∧ n' = mo + 6) := by
  refine kCtr.of (X := (0, fun _ => 0)) pl6 nlX6_init rfl (Nat.le_of_ble_eq_true rfl) ?_
  have loop2 : ∀ (m i : Nat), m = 4 - i → i ≤ 4 → kW (0, fun _ => 0) mX6_init 1 (fun o w' n' => o = .inl none ∧ w' = (mM w mo iniS 0 z0 z0 0 0 z0 z0 0) ∧ n' = mo + 6) 0 0 (mo + 1 + 1 + 1 + 1 + 1 + 1) (mM w mo (iniZ i) 0 z0 z0 0 0 z0 z0 0) 105 [(0, .ref mo), (1, .int (nI i))] [] := by
    intro m
    induction m using Nat.strongRecOn with
    | _ m ih =>
      intro i hm hi
      refine kw_iload_n (pc := 105) dX6_init_105 rfl ?_
      refine kw_iconst (v := 4) (pc := 106) dX6_init_106 (by decide) ?_
      refine kw_icmp_ge (tgt := 128) (pc := 107) dX6_init_107 (by decide) (fun h107 => ?_) (fun h107 => ?_)
      · have h107 := (kLeI (a := 4) (b := i) (by omega) (by omega) (rfl : (4 : Int32) = nI 4) rfl).mp h107
        exact kw_return nlX6_init (pc := 128) dX6_init_128 rfl ⟨rfl, by rw [show i = 4 by omega]; rfl, rfl⟩
      · have h107 := mt (kLeI (a := 4) (b := i) (by omega) (by omega) (rfl : (4 : Int32) = nI 4) rfl).mpr h107
        refine kw_aload_n (pc := 110) dX6_init_110 rfl ?_
        refine kw_getfield (pc := 111) kfw dX6_init_111 fX6_7 mM_0 rfl ?_
        refine kw_bipush (v := 16) (pc := 114) dX6_init_114 (by decide) ?_
        refine kw_iload_n (pc := 116) dX6_init_116 rfl ?_
        refine kw_iadd (pc := 117) dX6_init_117 ?_
        refine kw_iload_n (pc := 118) dX6_init_118 rfl ?_
        refine kw_iconst (v := 1) (pc := 119) dX6_init_119 (by decide) ?_
        refine kw_iadd (pc := 120) dX6_init_120 ?_
        refine kw_iastoreN (pc := 121) (i := (16 + i)) dX6_init_121 mM_1 (kA (a := 16) (b := i) (rfl : (16 : Int32) = nI 16) rfl) (by omega) (by decide) (kW.eq mMs_1 rfl ?_)
        refine kw_iinc (pc := 122) dX6_init_122 (by decide) rfl rfl rfl ?_
        refine kw_goto (tgt := 105) (pc := 125) dX6_init_125 (by decide) ?_
        refine kW.eq (w' := (mM w mo (iniZ (i + 1)) 0 z0 z0 0 0 z0 z0 0)) (by rw [← iniZ_s]; rw [kA (a := i) (b := 1) rfl (rfl : (1 : Int32) = nI 1)]) rfl ?_
        exact kW.locs (ih (4 - (i + 1)) (by omega) (i + 1) rfl (by omega)) ⟨rfl, kgE rfl (kA (a := i) (b := 1) rfl (rfl : (Int32.ofInt 1) = nI 1)), trivial⟩
  have loop1 : ∀ (m i : Nat), m = 12 - i → i ≤ 12 → kW (0, fun _ => 0) mX6_init 1 (fun o w' n' => o = .inl none ∧ w' = (mM w mo iniS 0 z0 z0 0 0 z0 z0 0) ∧ n' = mo + 6) 0 0 (mo + 1 + 1 + 1 + 1 + 1 + 1) (mM w mo (iniB i) 0 z0 z0 0 0 z0 z0 0) 78 [(0, .ref mo), (1, .int (nI i))] [] := by
    intro m
    induction m using Nat.strongRecOn with
    | _ m ih =>
      intro i hm hi
      refine kw_iload_n (pc := 78) dX6_init_78 rfl ?_
      refine kw_bipush (v := 12) (pc := 79) dX6_init_79 (by decide) ?_
      refine kw_icmp_ge (tgt := 103) (pc := 81) dX6_init_81 (by decide) (fun h81 => ?_) (fun h81 => ?_)
      · have h81 := (kLeI (a := 12) (b := i) (by omega) (by omega) (rfl : (12 : Int32) = nI 12) rfl).mp h81
        refine kw_iconst (v := 0) (pc := 103) dX6_init_103 (by decide) ?_
        refine kw_istore_n (pc := 104) dX6_init_104 (by decide) rfl ?_
        obtain rfl : i = 12 := by omega
        refine kW.eq (w' := (mM w mo (iniZ 0) 0 z0 z0 0 0 z0 z0 0)) (by rw [iniZ_0]) rfl ?_
        exact kW.locs (loop2 (4 - 0) 0 rfl (Nat.zero_le _)) ⟨rfl, rfl, trivial⟩
      · have h81 := mt (kLeI (a := 12) (b := i) (by omega) (by omega) (rfl : (12 : Int32) = nI 12) rfl).mpr h81
        refine kw_aload_n (pc := 84) dX6_init_84 rfl ?_
        refine kw_getfield (pc := 85) kfw dX6_init_85 fX6_7 mM_0 rfl ?_
        refine kw_iconst (v := 4) (pc := 88) dX6_init_88 (by decide) ?_
        refine kw_iload_n (pc := 89) dX6_init_89 rfl ?_
        refine kw_iadd (pc := 90) dX6_init_90 ?_
        refine kw_iconst (v := 5) (pc := 91) dX6_init_91 (by decide) ?_
        refine kw_iload_n (pc := 92) dX6_init_92 rfl ?_
        refine kw_imul (pc := 93) dX6_init_93 ?_
        refine kw_iconst (v := 5) (pc := 94) dX6_init_94 (by decide) ?_
        refine kw_iadd (pc := 95) dX6_init_95 ?_
        refine kw_iastoreN (pc := 96) (i := (4 + i)) dX6_init_96 mM_1 (kA (a := 4) (b := i) (rfl : (4 : Int32) = nI 4) rfl) (by omega) (by decide) (kW.eq mMs_1 rfl ?_)
        refine kw_iinc (pc := 97) dX6_init_97 (by decide) rfl rfl rfl ?_
        refine kw_goto (tgt := 78) (pc := 100) dX6_init_100 (by decide) ?_
        refine kW.eq (w' := (mM w mo (iniB (i + 1)) 0 z0 z0 0 0 z0 z0 0)) (by rw [← iniB_s]; rw [kA (a := 5 * i) (b := 5) (kMu (a := 5) (b := i) (rfl : (5 : Int32) = nI 5) rfl) (rfl : (5 : Int32) = nI 5)]) rfl ?_
        exact kW.locs (ih (12 - (i + 1)) (by omega) (i + 1) rfl (by omega)) ⟨rfl, kgE rfl (kA (a := i) (b := 1) rfl (rfl : (Int32.ofInt 1) = nI 1)), trivial⟩
  refine kw_aload_n (pc := 0) dX6_init_0 rfl ?_
  refine kw_objInit (pc := 1) dX6_init_1 lX6_1 koi1 koi2 (by decide) (by decide) ?_
  refine kw_aload_n (pc := 4) dX6_init_4 rfl ?_
  refine kw_sipush (v := 682) (pc := 5) dX6_init_5 (by decide) ?_
  refine kw_newarray (pc := 8) (t := 0) (N := 682) dX6_init_8 (by decide) rfl ka_int (by decide) rfl (Nat.le_of_ble_eq_true rfl) (by decide) (Nat.le_of_ble_eq_true rfl) ?_
  refine kw_putfieldF (pc := 10) kfw dX6_init_10 fX6_7 rfl rfl ((kup_ne (by omega)).trans h0) (fun _ _ => rfl) (fun _ _ => rfl) ?_
  refine kw_aload_n (pc := 13) dX6_init_13 rfl ?_
  refine kw_iconst (v := 2) (pc := 14) dX6_init_14 (by decide) ?_
  refine kw_newarray (pc := 15) (t := 1) (N := 2) dX6_init_15 (by decide) rfl ka_boolean (by decide) rfl (Nat.le_of_ble_eq_true rfl) (by decide) (Nat.le_of_ble_eq_true rfl) ?_
  refine kw_putfieldF (pc := 17) kfw dX6_init_17 fX6_13 rfl rfl ((kup_ne (by omega)).trans (kup_self _ _ _)) (fun _ _ => rfl) (fun _ _ => rfl) ?_
  refine kw_aload_n (pc := 20) dX6_init_20 rfl ?_
  refine kw_bipush (v := 60) (pc := 21) dX6_init_21 (by decide) ?_
  refine kw_newarray (pc := 23) (t := 2) (N := 60) dX6_init_23 (by decide) rfl ka_char (by decide) rfl (Nat.le_of_ble_eq_true rfl) (by decide) (Nat.le_of_ble_eq_true rfl) ?_
  refine kw_putfieldF (pc := 25) kfw dX6_init_25 fX6_17 rfl rfl ((kup_ne (by omega)).trans (kup_self _ _ _)) (fun _ _ => rfl) (fun _ _ => rfl) ?_
  refine kw_aload_n (pc := 28) dX6_init_28 rfl ?_
  refine kw_sipush (v := 128) (pc := 29) dX6_init_29 (by decide) ?_
  refine kw_newarray (pc := 32) (t := 0) (N := 128) dX6_init_32 (by decide) rfl ka_int (by decide) rfl (Nat.le_of_ble_eq_true rfl) (by decide) (Nat.le_of_ble_eq_true rfl) ?_
  refine kw_putfieldF (pc := 34) kfw dX6_init_34 fX6_21 rfl rfl ((kup_ne (by omega)).trans (kup_self _ _ _)) (fun _ _ => rfl) (fun _ _ => rfl) ?_
  refine kw_aload_n (pc := 37) dX6_init_37 rfl ?_
  refine kw_bipush (v := 7) (pc := 38) dX6_init_38 (by decide) ?_
  refine kw_newarray (pc := 40) (t := 0) (N := 7) dX6_init_40 (by decide) rfl ka_int (by decide) rfl (Nat.le_of_ble_eq_true rfl) (by decide) (Nat.le_of_ble_eq_true rfl) ?_
  refine kw_putfieldF (pc := 42) kfw dX6_init_42 fX6_24 rfl rfl ((kup_ne (by omega)).trans (kup_self _ _ _)) (fun _ _ => rfl) (fun _ _ => rfl) ?_
  refine kW.less (rc' := 0) (rs' := 0) (Nat.zero_le _) (Nat.zero_le _) ?_
  refine kW.eq (w' := (mM w mo z0 0 z0 z0 0 0 z0 z0 0)) ?_ rfl ?_
  · rw [mF0_s]
    funext k
    unfold kup mM
    by_cases e5 : k = mo + 5
    · subst e5; simp
    · by_cases e4 : k = mo + 4
      · subst e4; simp
      · by_cases e3 : k = mo + 3
        · subst e3; simp
        · by_cases e2 : k = mo + 2
          · subst e2; simp
          · by_cases e1 : k = mo + 1
            · subst e1; simp
            · by_cases e0 : k = mo
              · subst e0; simp
              · simp [e0, e1, e2, e3, e4, e5]
  refine kw_aload_n (pc := 45) dX6_init_45 rfl ?_
  refine kw_getfield (pc := 46) kfw dX6_init_46 fX6_7 mM_0 rfl ?_
  refine kw_iconst (v := 0) (pc := 49) dX6_init_49 (by decide) ?_
  refine kw_iconst (v := 5) (pc := 50) dX6_init_50 (by decide) ?_
  refine kw_iastoreN (pc := 51) (i := 0) dX6_init_51 mM_1 (rfl : (0 : Int32) = nI 0) (by omega) (by decide) (kW.eq mMs_1 rfl ?_)
  refine kw_aload_n (pc := 52) dX6_init_52 rfl ?_
  refine kw_getfield (pc := 53) kfw dX6_init_53 fX6_7 mM_0 rfl ?_
  refine kw_iconst (v := 1) (pc := 56) dX6_init_56 (by decide) ?_
  refine kw_sipush (v := 150) (pc := 57) dX6_init_57 (by decide) ?_
  refine kw_iastoreN (pc := 60) (i := 1) dX6_init_60 mM_1 (rfl : (1 : Int32) = nI 1) (by omega) (by decide) (kW.eq mMs_1 rfl ?_)
  refine kw_aload_n (pc := 61) dX6_init_61 rfl ?_
  refine kw_getfield (pc := 62) kfw dX6_init_62 fX6_7 mM_0 rfl ?_
  refine kw_iconst (v := 2) (pc := 65) dX6_init_65 (by decide) ?_
  refine kw_iconst (v := 2) (pc := 66) dX6_init_66 (by decide) ?_
  refine kw_iastoreN (pc := 67) (i := 2) dX6_init_67 mM_1 (rfl : (2 : Int32) = nI 2) (by omega) (by decide) (kW.eq mMs_1 rfl ?_)
  refine kw_aload_n (pc := 68) dX6_init_68 rfl ?_
  refine kw_getfield (pc := 69) kfw dX6_init_69 fX6_7 mM_0 rfl ?_
  refine kw_iconst (v := 3) (pc := 72) dX6_init_72 (by decide) ?_
  refine kw_bipush (v := 10) (pc := 73) dX6_init_73 (by decide) ?_
  refine kw_iastoreN (pc := 75) (i := 3) dX6_init_75 mM_1 (rfl : (3 : Int32) = nI 3) (by omega) (by decide) (kW.eq mMs_1 rfl ?_)
  refine kw_iconst (v := 0) (pc := 76) dX6_init_76 (by decide) ?_
  refine kw_istore_n (pc := 77) dX6_init_77 (by decide) rfl ?_
  refine kW.eq (w' := (mM w mo (iniB 0) 0 z0 z0 0 0 z0 z0 0)) (by rw [iniB_0]) rfl ?_
  exact kW.locs (loop1 (12 - 0) 0 rfl (Nat.zero_le _)) ⟨rfl, rfl, trivial⟩
