set_option maxRecDepth 100000 in
set_option maxHeartbeats 4000000 in
theorem c5_init {w : kM} (h0 : w 0 = kO 5 xF0) : kCtrI mX5_init 4 127 1059 [.ref 0] w 1 128 (fun w' => cls w' iniS 0 z0 z0 0 ∧ ∀ a, 128 ≤ a → w' a = w a) := by
  refine kCtr.of (X := (0, fun _ => 0)) pl5 nlX5_init rfl (Nat.le_of_ble_eq_true rfl) ?_
  have loop : ∀ (m i : Nat) (wi : kM) (n1 : Nat), m = 2 - i → i ≤ 2 → n1 = 104 + 12 * i → wi 0 = kO 5 xF → offR wi 1 iniS → wi 13 = kV 6 2 (tv i (fun j => .ref (104 + 12 * j))) → wi 14 = kI 1 2 (tr 2 z0) → svP wi 15 0 (fun _ => z0) → txS wi 89 0 (0, z0) → wi 90 = kI 0 60 (tr 60 z0) → bnS wi 92 0 z0 (fun _ => z0) z0 → (∀ j, j < i → offR wi (104 + 12 * j) iniS) → (∀ a, (104 + 12 * i ≤ a) → wi a = w a) → kW (0, fun _ => 0) mX5_init 4 (fun o' w' n' => o' = .inl none ∧ (fun w' => cls w' iniS 0 z0 z0 0 ∧ ∀ a, 128 ≤ a → w' a = w a) w' ∧ n' = 128) (12 * (2 - i)) (86 * (2 - i)) n1 wi 65 [(0, .ref 0), (1, .int (nI i))] [] := by
    intro m
    induction m using Nat.strongRecOn with
    | _ m ih =>
      intro i wi n1 hm hi hn hx ho hs hk hv ht hc hb hof hfr
      refine kw_iload_n (pc := 65) dX5_init_65 rfl ?_
      refine kw_aload_n (pc := 66) dX5_init_66 rfl ?_
      refine kw_getfield (pc := 67) kfw dX5_init_67 fX5_16 hx rfl ?_
      refine kw_alenV (pc := 70) (v := 2) dX5_init_70 hs rfl ?_
      refine kw_icmp_ge (tgt := 93) (pc := 71) dX5_init_71 (by decide) (fun h71 => ?_) (fun h71 => ?_)
      · have h71 := (kLeI (a := 2) (b := i) (by omega) (by omega) (rfl : (2 : Int32) = nI 2) rfl).mp h71
        exact kw_return nlX5_init (pc := 93) dX5_init_93 rfl ⟨rfl, ⟨⟨hx, ho, hv.cg (fun j hj => absurd hj (Nat.not_lt_zero j)), ⟨by rw [show i = 2 by omega] at hs; exact hs, hk, fun b hb => (hof b (by omega)).a, fun b hb h => absurd rfl h⟩, ⟨z0, 0, z0, hc, fun j hj => absurd hj (Nat.not_lt_zero j), ht, by decide, by decide⟩, ⟨_, _, _, _, hb⟩⟩, fun a h => hfr a (by omega)⟩, by omega⟩
      · have h71 := mt (kLeI (a := 2) (b := i) (by omega) (by omega) (rfl : (2 : Int32) = nI 2) rfl).mpr h71
        refine kw_aload_n (pc := 74) dX5_init_74 rfl ?_
        refine kw_getfield (pc := 75) kfw dX5_init_75 fX5_16 hx rfl ?_
        refine kw_iload_n (pc := 78) dX5_init_78 rfl ?_
        refine kw_new (pc := 79) tyO kfw dX5_init_79 (ci := 1) rfl tyO_ok nX5_7 ki_1 kj_1 (by omega) (by omega) ?_
        refine kw_dup (pc := 82) dX5_init_82 rfl ?_
        refine kw_callIi (pc := 83) dX5_init_83 lX5_9 (c1_init (kup_self _ _ _)) (kup_self _ _ _) rfl rfl ⟨by decide, by decide, Nat.le_of_ble_eq_true rfl, by omega, by omega⟩ (fun w2 hz => ?_)
        obtain ⟨Ho, Fo⟩ := hz
        refine kw_aastore (pc := 86) (ci := 1) dX5_init_86 ((Fo _ (by omega)).trans ((kup_ne (by omega)).trans hs)) rfl rfl (vp_in_nI (by omega) (by decide)) Ho.ob (kgen (fun w3 hw3 => ?_))
        rw [nI_clamp (by omega), tvN_s (i := i) (f := fun j => .ref (104 + 12 * j)) (congrArg Value.ref hn)] at hw3
        have G3 : ∀ a, a ≠ 13 → (a < n1 ∨ n1 + 12 ≤ a) → w3 a = wi a := fun a h1 h2 => by rw [hw3, kup_ne h1, Fo _ h2, kup_ne (by omega)]
        refine kw_iinc (pc := 87) dX5_init_87 (by decide) rfl rfl rfl ?_
        refine kw_goto (tgt := 65) (pc := 90) dX5_init_90 (by decide) ?_
        refine kW.locs (kW.less (rc' := 12 * (2 - (i + 1))) (rs' := 86 * (2 - (i + 1))) (by omega) (by omega) (ih (2 - (i + 1)) (by omega) (i + 1) w3 _ rfl (by omega) (by omega) ((G3 _ (by omega) (by omega)).trans hx) (ho.fr (fun k h1 h2 => G3 k (by omega) (by omega))) (kup_at hw3) ((G3 _ (by omega) (by omega)).trans hk) (hv.fr (fun k h1 h2 => G3 k (by omega) (by omega))) ⟨(G3 _ (by omega) (by omega)).trans ht.1, (G3 _ (by omega) (by omega)).trans ht.2⟩ ((G3 _ (by omega) (by omega)).trans hc) (hb.fr (fun k h1 h2 => G3 k (by omega) (by omega))) (fun j hj => ?_) (fun a h => (G3 a (by omega) (by omega)).trans (hfr a (by omega))))) ⟨rfl, kgE rfl (kA (a := i) (b := 1) rfl (rfl : (Int32.ofInt 1) = nI 1)), trivial⟩
        by_cases e : j = i
        · subst e; exact offR.fr ⟨_, _, hn ▸ Ho⟩ (fun k h1 h2 => by rw [hw3]; exact kup_ne (by omega))
        · exact (hof j (by omega)).fr (fun k h1 h2 => G3 k (by omega) (by omega))
  have fr0 : ∀ a, 1 ≤ a → w a = w a := fun _ _ => rfl
  refine kw_aload_n (pc := 0) dX5_init_0 rfl ?_
  refine kw_objInit (pc := 1) dX5_init_1 lX5_1 koi1 koi2 (by decide) (Nat.le_of_ble_eq_true rfl) ?_
  refine kw_aload_n (pc := 4) dX5_init_4 rfl ?_
  refine kw_new (pc := 5) tyO kfw dX5_init_5 (ci := 1) rfl tyO_ok nX5_7 ki_1 kj_1 (by decide) (Nat.le_of_ble_eq_true rfl) ?_
  refine kw_dup (pc := 8) dX5_init_8 rfl ?_
  refine kw_callIi (pc := 9) dX5_init_9 lX5_9 (c1_init (kup_self _ _ _)) (kup_self _ _ _) rfl rfl ⟨by decide, by decide, Nat.le_of_ble_eq_true rfl, by decide, Nat.le_of_ble_eq_true rfl⟩ (fun w1 hw1 => ?_)
  obtain ⟨hN1, F1⟩ := hw1
  have G1 : ∀ a, (a < 1 ∨ 13 ≤ a) → w1 a = w a := fun a h => (F1 a (by omega)).trans (kup_ne (by omega))
  have hx1 := (G1 _ (by omega)).trans h0
  have fr1 : ∀ a, 13 ≤ a → _ := fun a h => (G1 a (by omega)).trans (fr0 a (by omega))
  have ho1 : offR w1 1 iniS := ⟨_, _, hN1⟩
  refine kw_putfieldF (pc := 12) kfw dX5_init_12 fX5_10 rfl rfl hx1 (fun _ _ => rfl) (fun _ _ => rfl) (kgen (fun w2 hw2 => ?_))
  have G2 : ∀ a, a ≠ 0 → w2 a = w1 a := fun a h => by rw [hw2]; exact kup_ne h
  have fr2 : ∀ a, 13 ≤ a → _ := fun a h => (G2 a (by omega)).trans (fr1 a (by omega))
  have ho2 := ho1.fr (fun k h1 h2 => G2 k (by omega))
  have hx2 := kup_at hw2
  refine kw_aload_n (pc := 15) dX5_init_15 rfl ?_
  refine kw_iconst (v := 2) (pc := 16) dX5_init_16 (by decide) ?_
  refine kw_anewarray (pc := 17) (t := 6) (N := 2) dX5_init_17 (by decide) rfl nX5_7 (Or.inr rfl) (by decide) rfl (Nat.le_of_ble_eq_true rfl) (by decide) (Nat.le_of_ble_eq_true rfl) (kgen (fun w3 hw3 => ?_))
  have G3 : ∀ a, a ≠ 13 → w3 a = w2 a := fun a h => by rw [hw3]; exact kup_ne h
  have fr3 : ∀ a, 14 ≤ a → _ := fun a h => (G3 a (by omega)).trans (fr2 a (by omega))
  have ho3 := ho2.fr (fun k h1 h2 => G3 k (by omega))
  have hx3 := (G3 _ (by omega)).trans hx2
  have hs3 := kup_at hw3
  refine kw_putfieldF (pc := 20) kfw dX5_init_20 fX5_16 rfl rfl hx3 (fun _ _ => rfl) (fun _ _ => rfl) (kgen (fun w4 hw4 => ?_))
  have G4 : ∀ a, a ≠ 0 → w4 a = w3 a := fun a h => by rw [hw4]; exact kup_ne h
  have fr4 : ∀ a, 14 ≤ a → _ := fun a h => (G4 a (by omega)).trans (fr3 a (by omega))
  have ho4 := ho3.fr (fun k h1 h2 => G4 k (by omega))
  have hs4 := (G4 _ (by omega)).trans hs3
  have hx4 := kup_at hw4
  refine kw_aload_n (pc := 23) dX5_init_23 rfl ?_
  refine kw_iconst (v := 2) (pc := 24) dX5_init_24 (by decide) ?_
  refine kw_newarray (pc := 25) (t := 1) (N := 2) dX5_init_25 (by decide) rfl ka_boolean (by decide) rfl (Nat.le_of_ble_eq_true rfl) (by decide) (Nat.le_of_ble_eq_true rfl) (kgen (fun w5 hw5 => ?_))
  have G5 : ∀ a, a ≠ 14 → w5 a = w4 a := fun a h => by rw [hw5]; exact kup_ne h
  have fr5 : ∀ a, 15 ≤ a → _ := fun a h => (G5 a (by omega)).trans (fr4 a (by omega))
  have ho5 := ho4.fr (fun k h1 h2 => G5 k (by omega))
  have hs5 := (G5 _ (by omega)).trans hs4
  have hx5 := (G5 _ (by omega)).trans hx4
  have hk5 := kup_at hw5
  refine kw_putfieldF (pc := 27) kfw dX5_init_27 fX5_20 rfl rfl hx5 (fun _ _ => rfl) (fun _ _ => rfl) (kgen (fun w6 hw6 => ?_))
  have G6 : ∀ a, a ≠ 0 → w6 a = w5 a := fun a h => by rw [hw6]; exact kup_ne h
  have fr6 : ∀ a, 15 ≤ a → _ := fun a h => (G6 a (by omega)).trans (fr5 a (by omega))
  have ho6 := ho5.fr (fun k h1 h2 => G6 k (by omega))
  have hs6 := (G6 _ (by omega)).trans hs5
  have hk6 := (G6 _ (by omega)).trans hk5
  have hx6 := kup_at hw6
  refine kw_aload_n (pc := 30) dX5_init_30 rfl ?_
  refine kw_new (pc := 31) tyS kfw dX5_init_31 (ci := 4) rfl tyS_ok nX5_24 ki_4 kj_4 (by decide) (Nat.le_of_ble_eq_true rfl) ?_
  refine kw_dup (pc := 34) dX5_init_34 rfl ?_
  refine kw_callIi (pc := 35) dX5_init_35 lX5_26 (c4_init (R := fun _ => z0) (kup_self _ _ _)) (kup_self _ _ _) rfl rfl ⟨by decide, by decide, Nat.le_of_ble_eq_true rfl, by decide, Nat.le_of_ble_eq_true rfl⟩ (fun w7 hw7 => ?_)
  obtain ⟨hN7, F7⟩ := hw7
  have G7 : ∀ a, (a < 15 ∨ 89 ≤ a) → w7 a = w6 a := fun a h => (F7 a (by omega)).trans (kup_ne (by omega))
  have fr7 : ∀ a, 89 ≤ a → _ := fun a h => (G7 a (by omega)).trans (fr6 a (by omega))
  have ho7 := ho6.fr (fun k h1 h2 => G7 k (by omega))
  have hs7 := (G7 _ (by omega)).trans hs6
  have hk7 := (G7 _ (by omega)).trans hk6
  have hx7 := (G7 _ (by omega)).trans hx6
  refine kw_putfieldF (pc := 38) kfw dX5_init_38 fX5_27 rfl rfl hx7 (fun _ _ => rfl) (fun _ _ => rfl) (kgen (fun w8 hw8 => ?_))
  have G8 : ∀ a, a ≠ 0 → w8 a = w7 a := fun a h => by rw [hw8]; exact kup_ne h
  have fr8 : ∀ a, 89 ≤ a → _ := fun a h => (G8 a (by omega)).trans (fr7 a (by omega))
  have ho8 := ho7.fr (fun k h1 h2 => G8 k (by omega))
  have hs8 := (G8 _ (by omega)).trans hs7
  have hk8 := (G8 _ (by omega)).trans hk7
  have hv8 := hN7.fr (fun k h1 h2 => G8 k (by omega))
  have hx8 := kup_at hw8
  refine kw_aload_n (pc := 41) dX5_init_41 rfl ?_
  refine kw_new (pc := 42) tyT kfw dX5_init_42 (ci := 3) rfl tyT_ok nX5_31 ki_3 kj_3 (by decide) (Nat.le_of_ble_eq_true rfl) ?_
  refine kw_dup (pc := 45) dX5_init_45 rfl ?_
  refine kw_callNi (pc := 46) dX5_init_46 lX5_33 (c3_init (kup_self _ _ _)) (kup_self _ _ _) rfl rfl ⟨by decide, by decide, Nat.le_of_ble_eq_true rfl, by decide, Nat.le_of_ble_eq_true rfl⟩ (fun w9 hw9 => ?_)
  obtain ⟨hT9, hC9, F9⟩ := hw9
  have G9 : ∀ a, (a < 89 ∨ 92 ≤ a) → w9 a = w8 a := fun a h => (F9 a (by omega)).trans (kup_ne (by omega))
  have fr9 : ∀ a, 92 ≤ a → _ := fun a h => (G9 a (by omega)).trans (fr8 a (by omega))
  have ho9 := ho8.fr (fun k h1 h2 => G9 k (by omega))
  have hs9 := (G9 _ (by omega)).trans hs8
  have hk9 := (G9 _ (by omega)).trans hk8
  have hv9 := hv8.fr (fun k h1 h2 => G9 k (by omega))
  have hx9 := (G9 _ (by omega)).trans hx8
  refine kw_putfieldF (pc := 49) kfw dX5_init_49 fX5_34 rfl rfl hx9 (fun _ _ => rfl) (fun _ _ => rfl) (kgen (fun w10 hw10 => ?_))
  have G10 : ∀ a, a ≠ 0 → w10 a = w9 a := fun a h => by rw [hw10]; exact kup_ne h
  have fr10 : ∀ a, 92 ≤ a → _ := fun a h => (G10 a (by omega)).trans (fr9 a (by omega))
  have ho10 := ho9.fr (fun k h1 h2 => G10 k (by omega))
  have hs10 := (G10 _ (by omega)).trans hs9
  have hk10 := (G10 _ (by omega)).trans hk9
  have hv10 := hv9.fr (fun k h1 h2 => G10 k (by omega))
  have ht10 : txS _ 89 0 (0, z0) := ⟨(G10 _ (by omega)).trans hT9.1, (G10 _ (by omega)).trans hT9.2⟩
  have hc10 := (G10 _ (by omega)).trans hC9
  have hx10 := kup_at hw10
  refine kw_aload_n (pc := 52) dX5_init_52 rfl ?_
  refine kw_new (pc := 53) tyB kfw dX5_init_53 (ci := 0) rfl tyB_ok nX5_38 ki_0 kj_0 (by decide) (Nat.le_of_ble_eq_true rfl) ?_
  refine kw_dup (pc := 56) dX5_init_56 rfl ?_
  refine kw_callNi (pc := 57) dX5_init_57 lX5_40 (c0_init (kup_self _ _ _)) (kup_self _ _ _) rfl rfl ⟨by decide, by decide, Nat.le_of_ble_eq_true rfl, by decide, Nat.le_of_ble_eq_true rfl⟩ (fun w11 hw11 => ?_)
  obtain ⟨hN11, F11⟩ := hw11
  have G11 : ∀ a, (a < 92 ∨ 104 ≤ a) → w11 a = w10 a := fun a h => (F11 a (by omega)).trans (kup_ne (by omega))
  have fr11 : ∀ a, 104 ≤ a → _ := fun a h => (G11 a (by omega)).trans (fr10 a (by omega))
  have ho11 := ho10.fr (fun k h1 h2 => G11 k (by omega))
  have hs11 := (G11 _ (by omega)).trans hs10
  have hk11 := (G11 _ (by omega)).trans hk10
  have hv11 := hv10.fr (fun k h1 h2 => G11 k (by omega))
  have ht11 : txS _ 89 0 (0, z0) := ⟨(G11 _ (by omega)).trans ht10.1, (G11 _ (by omega)).trans ht10.2⟩
  have hc11 := (G11 _ (by omega)).trans hc10
  have hx11 := (G11 _ (by omega)).trans hx10
  refine kw_putfieldF (pc := 60) kfw dX5_init_60 fX5_41 rfl rfl hx11 (fun _ _ => rfl) (fun _ _ => rfl) (kgen (fun w12 hw12 => ?_))
  have G12 : ∀ a, a ≠ 0 → w12 a = w11 a := fun a h => by rw [hw12]; exact kup_ne h
  have fr12 : ∀ a, 104 ≤ a → _ := fun a h => (G12 a (by omega)).trans (fr11 a (by omega))
  have ho12 := ho11.fr (fun k h1 h2 => G12 k (by omega))
  have hs12 := (G12 _ (by omega)).trans hs11
  have hk12 := (G12 _ (by omega)).trans hk11
  have hv12 := hv11.fr (fun k h1 h2 => G12 k (by omega))
  have ht12 : txS _ 89 0 (0, z0) := ⟨(G12 _ (by omega)).trans ht11.1, (G12 _ (by omega)).trans ht11.2⟩
  have hc12 := (G12 _ (by omega)).trans hc11
  have hb12 := hN11.fr (fun k h1 h2 => G12 k (by omega))
  have hx12 := kup_at hw12
  refine kw_iconst (v := 0) (pc := 63) dX5_init_63 (by decide) ?_
  refine kw_istore_n (pc := 64) dX5_init_64 (by decide) rfl ?_
  refine kW.locs (kW.less (rc' := 12 * (2 - 0)) (rs' := 86 * (2 - 0)) (Nat.le_of_ble_eq_true rfl) (Nat.le_of_ble_eq_true rfl) (loop (2 - 0) 0 w12 _ rfl (by omega) rfl (by rw [← xF0_s]; exact hx12) ho12 (by rw [tvN_0]; exact hs12) (by rw [tr_z]; exact hk12) hv12 ht12 hc12 hb12 (fun j hj => absurd hj (Nat.not_lt_zero j)) (fun a h => fr12 a (by omega)))) ⟨rfl, rfl, trivial⟩
