theorem xor1 : ∀ b : Nat, b < 128 → ∀ k : Nat, k < 7 → b.testBit k = true → nI b ^^^ ((1 : Int32) <<< (nI k &&& 31)) = nI (b - 2 ^ k) := by decide +kernel
theorem or1 : ∀ b : Nat, b < 128 → ∀ k : Nat, k < 7 → b.testBit k = false → nI b ||| ((1 : Int32) <<< (nI k &&& 31)) = nI (b + 2 ^ k) := by decide +kernel
theorem tb_lt : ∀ t : Nat, t < 7 → ∀ b : Nat, b < 128 → b < 2 ^ t → b.testBit t = false := by decide +kernel
theorem tb_add : ∀ c : Nat, c < 8 → ∀ b : Nat, b < 128 → b < 2 ^ c → ∀ q : Nat, q < c → b.testBit q = false → b + 2 ^ q < 2 ^ c := by decide +kernel
theorem inC_u {al : Nat → Int32} {bd : Nat → Nat → Int32} {T : Nat → Int32} {z t o : Nat} : inC al bd T z t (o + 1) = if (z - 2 ^ t).testBit o = true ∧ bd o t ≠ -1 ∧ T (z - 2 ^ t - 2 ^ o) + bd o t < inC al bd T z t o then T (z - 2 ^ t - 2 ^ o) + bd o t else inC al bd T z t o := rfl
theorem pw_le : ∀ c : Nat, c < 8 → ∀ t : Nat, t < c → 2 ^ (t + 1) ≤ 2 ^ c := by decide +kernel
/-- from a parcel on: it alone, or with the first r of those behind it -/
def lfI (a : Nat → Int32) (bd : Nat → Nat → Int32) (rec : Nat → Int32) (p m : Nat) : Nat → Int32
  | 0 => a p + rec m
  | r + 1 => if ¬ m.testBit (p + 1 + r) = true ∧ bd p (p + 1 + r) ≠ -1 ∧ bd p (p + 1 + r) + rec (m + 2 ^ (p + 1 + r)) < lfI a bd rec p m r then bd p (p + 1 + r) + rec (m + 2 ^ (p + 1 + r)) else lfI a bd rec p m r
def lfF (a : Nat → Int32) (bd : Nat → Nat → Int32) : Nat → Nat → Nat → Int32
  | 0, _, _ => 0
  | d + 1, p, m => if m.testBit p = true then lfF a bd d (p + 1) m else lfI a bd (fun m' => lfF a bd d (p + 1) m') p m d
theorem lfI_u {a : Nat → Int32} {bd : Nat → Nat → Int32} {rec : Nat → Int32} {p m r : Nat} : lfI a bd rec p m (r + 1) = if ¬ m.testBit (p + 1 + r) = true ∧ bd p (p + 1 + r) ≠ -1 ∧ bd p (p + 1 + r) + rec (m + 2 ^ (p + 1 + r)) < lfI a bd rec p m r then bd p (p + 1 + r) + rec (m + 2 ^ (p + 1 + r)) else lfI a bd rec p m r := rfl
set_option maxRecDepth 100000 in
set_option maxHeartbeats 4000000 in
theorem c0_last {w : kM} {y z : Nat} {a : Nat → Int32} {G : Nat → Nat → Int32} {L : Nat → Int32} (B : bnS w y z a G L) {t b : Nat} (ht : t < 7) (hb : b < 2 ^ t) : kCtrR mX0_leastWithLast 1 [.ref y, .int (nI t), .int (nI b)] w (.int (inC a (fun q t => G t q) L (2 ^ t + b) t t)) := by
  refine kCtrR.of pl0 nlX0_leastWithLast rfl (Nat.le_of_ble_eq_true rfl) (fun n => ?_)
  have hp := pow_le7 t (by omega)
  have hb128 : b < 128 := by have := pow_mono7 (show t ≤ 6 by omega); omega
  have loop : ∀ (m : Nat) (k : Nat), m = t - k → k ≤ t → kW (0, fun _ => 0) mX0_leastWithLast 1 (fun o' w' n' => o' = .inl (some (.int (inC a (fun q t => G t q) L (2 ^ t + b) t t))) ∧ w' = w ∧ n' = n) 0 0 n w 17 [(0, .ref y), (1, .int (nI t)), (2, .int (nI b)), (3, .int (inC a (fun q t => G t q) L (2 ^ t + b) t k)), (4, .int (nI k))] [] := by
    intro m
    induction m using Nat.strongRecOn with
    | _ m ih =>
      intro k hm hk
      refine kw_iload (pc := 17) dX0_leastWithLast_17 rfl ?_
      refine kw_iload_n (pc := 19) dX0_leastWithLast_19 rfl ?_
      refine kw_icmp_ge (tgt := 78) (pc := 20) dX0_leastWithLast_20 (by decide) (fun h20 => ?_) (fun h20 => ?_)
      · have h20 := (kLeI (a := t) (b := k) (by omega) (by omega) rfl rfl).mp h20
        refine kw_iload_n (pc := 78) dX0_leastWithLast_78 rfl ?_
        exact kw_ireturn nlX0_leastWithLast (pc := 79) dX0_leastWithLast_79 rfl rfl ⟨kv_eq (by rw [show k = t by omega]), rfl, rfl⟩
      · have h20 := mt (kLeI (a := t) (b := k) (by omega) (by omega) rfl rfl).mpr h20
        refine kw_iload_n (pc := 23) dX0_leastWithLast_23 rfl ?_
        refine kw_iload (pc := 24) dX0_leastWithLast_24 rfl ?_
        refine kw_ishr (pc := 26) dX0_leastWithLast_26 ?_
        refine kw_iconst (v := 1) (pc := 27) dX0_leastWithLast_27 (by decide) ?_
        refine kw_iand (pc := 28) dX0_leastWithLast_28 ?_
        refine kw_iconst (v := 1) (pc := 29) dX0_leastWithLast_29 (by decide) ?_
        refine kw_icmp_ne (tgt := 72) (pc := 30) dX0_leastWithLast_30 (by decide) (fun h30 => ?_) (fun h30 => ?_)
        · refine kw_iinc (pc := 72) dX0_leastWithLast_72 (by decide) rfl rfl rfl ?_
          refine kw_goto (tgt := 17) (pc := 75) dX0_leastWithLast_75 (by decide) ?_
          exact kW.locs (ih (t - (k + 1)) (by omega) (k + 1) rfl (by omega)) ⟨rfl, rfl, rfl, kgE rfl (by rw [inC_u, show 2 ^ t + b - 2 ^ t = b by omega]; rw [if_neg (fun hh => h30 (by rw [bit1 b (by omega) k (by omega), b2i_t hh.1]))]), kgE rfl (kA (a := k) (b := 1) rfl (rfl : (Int32.ofInt 1) = nI 1)), trivial⟩
        · have htb : b.testBit k = true := by
            rw [bit1 b (by omega) k (by omega)] at h30
            exact Decidable.not_not.mp (fun hh => by rw [b2i_f hh] at h30; exact absurd h30 (by decide))
          have hle := bit_le b (by omega) k (by omega) htb
          have hk2 : 1 ≤ 2 ^ k := Nat.one_le_two_pow
          refine kw_aload_n (pc := 33) dX0_leastWithLast_33 rfl ?_
          refine kw_getfield (pc := 34) kfw dX0_leastWithLast_34 fX0_24 B.1 rfl ?_
          refine kw_iload_n (pc := 37) dX0_leastWithLast_37 rfl ?_
          refine kw_aaloadT (pc := 38) (i := t) dX0_leastWithLast_38 B.2.2.2.1 rfl rfl (by omega) (by decide) rfl ?_
          refine kw_iload (pc := 39) dX0_leastWithLast_39 rfl ?_
          refine kw_ialoadT (pc := 41) (i := k) dX0_leastWithLast_41 (B.2.2.2.2.1 t (by omega)) rfl (by omega) (by decide) ?_
          refine kw_iconst (v := -1) (pc := 42) dX0_leastWithLast_42 (by decide) ?_
          refine kw_icmp_eq (tgt := 72) (pc := 43) dX0_leastWithLast_43 (by decide) (fun h43 => ?_) (fun h43 => ?_)
          · refine kw_iinc (pc := 72) dX0_leastWithLast_72 (by decide) rfl rfl rfl ?_
            refine kw_goto (tgt := 17) (pc := 75) dX0_leastWithLast_75 (by decide) ?_
            exact kW.locs (ih (t - (k + 1)) (by omega) (k + 1) rfl (by omega)) ⟨rfl, rfl, rfl, kgE rfl (by rw [inC_u, show 2 ^ t + b - 2 ^ t = b by omega]; by_cases q : L (b - 2 ^ k) + G t k < (inC a (fun q t => G t q) L (2 ^ t + b) t k) <;> grind), kgE rfl (kA (a := k) (b := 1) rfl (rfl : (Int32.ofInt 1) = nI 1)), trivial⟩
          · refine kw_iload_n (pc := 46) dX0_leastWithLast_46 rfl ?_
            refine kw_aload_n (pc := 47) dX0_leastWithLast_47 rfl ?_
            refine kw_getfield (pc := 48) kfw dX0_leastWithLast_48 fX0_27 B.1 rfl ?_
            refine kw_iload_n (pc := 51) dX0_leastWithLast_51 rfl ?_
            refine kw_iconst (v := 1) (pc := 52) dX0_leastWithLast_52 (by decide) ?_
            refine kw_iload (pc := 53) dX0_leastWithLast_53 rfl ?_
            refine kw_ishl (pc := 55) dX0_leastWithLast_55 ?_
            refine kw_ixor (pc := 56) dX0_leastWithLast_56 ?_
            refine kw_ialoadT (pc := 57) (i := (b - 2 ^ k)) dX0_leastWithLast_57 B.2.2.2.2.2 (xor1 b (by omega) k (by omega) htb) (by omega) (by decide) ?_
            refine kw_aload_n (pc := 58) dX0_leastWithLast_58 rfl ?_
            refine kw_getfield (pc := 59) kfw dX0_leastWithLast_59 fX0_24 B.1 rfl ?_
            refine kw_iload_n (pc := 62) dX0_leastWithLast_62 rfl ?_
            refine kw_aaloadT (pc := 63) (i := t) dX0_leastWithLast_63 B.2.2.2.1 rfl rfl (by omega) (by decide) rfl ?_
            refine kw_iload (pc := 64) dX0_leastWithLast_64 rfl ?_
            refine kw_ialoadT (pc := 66) (i := k) dX0_leastWithLast_66 (B.2.2.2.2.1 t (by omega)) rfl (by omega) (by decide) ?_
            refine kw_iadd (pc := 67) dX0_leastWithLast_67 ?_
            refine kw_mmin (pc := 68) dX0_leastWithLast_68 lX0_60 (by decide) (Nat.le_of_ble_eq_true rfl) ?_
            refine kw_istore_n (pc := 71) dX0_leastWithLast_71 (by decide) rfl ?_
            refine kw_iinc (pc := 72) dX0_leastWithLast_72 (by decide) rfl rfl rfl ?_
            refine kw_goto (tgt := 17) (pc := 75) dX0_leastWithLast_75 (by decide) ?_
            exact kW.locs (ih (t - (k + 1)) (by omega) (k + 1) rfl (by omega)) ⟨rfl, rfl, rfl, kgE rfl (by rw [inC_u, show 2 ^ t + b - 2 ^ t = b by omega]; by_cases q : L (b - 2 ^ k) + G t k < (inC a (fun q t => G t q) L (2 ^ t + b) t k) <;> grind), kgE rfl (kA (a := k) (b := 1) rfl (rfl : (Int32.ofInt 1) = nI 1)), trivial⟩
  refine kw_aload_n (pc := 0) dX0_leastWithLast_0 rfl ?_
  refine kw_getfield (pc := 1) kfw dX0_leastWithLast_1 fX0_27 B.1 rfl ?_
  refine kw_iload_n (pc := 4) dX0_leastWithLast_4 rfl ?_
  refine kw_ialoadT (pc := 5) (i := b) dX0_leastWithLast_5 B.2.2.2.2.2 rfl (by omega) (by decide) ?_
  refine kw_aload_n (pc := 6) dX0_leastWithLast_6 rfl ?_
  refine kw_getfield (pc := 7) kfw dX0_leastWithLast_7 fX0_18 B.1 rfl ?_
  refine kw_iload_n (pc := 10) dX0_leastWithLast_10 rfl ?_
  refine kw_ialoadT (pc := 11) (i := t) dX0_leastWithLast_11 B.2.2.1 rfl (by omega) (by decide) ?_
  refine kw_iadd (pc := 12) dX0_leastWithLast_12 ?_
  refine kw_istore_n (pc := 13) dX0_leastWithLast_13 (by decide) rfl ?_
  refine kw_iconst (v := 0) (pc := 14) dX0_leastWithLast_14 (by decide) ?_
  refine kw_istore (pc := 15) dX0_leastWithLast_15 (by decide) rfl ?_
  exact kW.locs (loop (t - 0) 0 rfl (by omega)) ⟨rfl, rfl, rfl, kgE rfl (by unfold inC; rw [show 2 ^ t + b - 2 ^ t = b by omega]), rfl, trivial⟩
set_option maxRecDepth 100000 in
set_option maxHeartbeats 4000000 in
theorem c0_bySets {w : kM} {y z : Nat} {a : Nat → Int32} {G : Nat → Nat → Int32} {L : Nat → Int32} (B : bnS w y z a G L) (hz : z ≤ 7) : kCtrW mX0_leastBySets 2 [.ref y] w (some (.int (setC a (fun q t => G t q) z))) (fun w' => (∃ L', bnS w' y z a G L') ∧ ∀ a, (a < y ∨ y + 12 ≤ a) → w' a = w a) := by
  refine kCtrW.of pl0 nlX0_leastBySets rfl (Nat.le_of_ble_eq_true rfl) (fun n => ?_)
  have loop : ∀ (m t : Nat), m = z - t → t ≤ z → kW (0, fun _ => 0) mX0_leastBySets 2 (fun o' w' n' => o' = .inl (some (.int (setC a (fun q t => G t q) z))) ∧ (fun w' => (∃ L', bnS w' y z a G L') ∧ ∀ a, (a < y ∨ y + 12 ≤ a) → w' a = w a) w' ∧ n' = n) 0 0 n (kup w (y + 11) (kI 0 128 (tr 128 (tbC a (fun q t => G t q) L (2 ^ t - 1))))) 9 [(0, .ref y), (1, .int (nI t))] [] := by
    intro m
    induction m using Nat.strongRecOn with
    | _ m ih =>
      intro t hm ht
      have inner : t < z → ∀ (mb b : Nat), mb = 2 ^ t - b → b ≤ 2 ^ t → kW (0, fun _ => 0) mX0_leastBySets 2 (fun o' w' n' => o' = .inl (some (.int (setC a (fun q t => G t q) z))) ∧ (fun w' => (∃ L', bnS w' y z a G L') ∧ ∀ a, (a < y ∨ y + 12 ≤ a) → w' a = w a) w' ∧ n' = n) 0 0 n (kup w (y + 11) (kI 0 128 (tr 128 (tbC a (fun q t => G t q) L (2 ^ t + b - 1))))) 19 [(0, .ref y), (1, .int (nI t)), (2, .int (nI b))] [] := by
        intro htz
        have hp := pow_le7 t (by omega)
        have hp2 := pow_mono7 (show t ≤ 6 by omega)
        intro mb
        induction mb using Nat.strongRecOn with
        | _ mb ihb =>
          intro b hmb hbt
          refine kw_iload_n (pc := 19) dX0_leastBySets_19 rfl ?_
          refine kw_iconst (v := 1) (pc := 20) dX0_leastBySets_20 (by decide) ?_
          refine kw_iload_n (pc := 21) dX0_leastBySets_21 rfl ?_
          refine kw_ishl (pc := 22) dX0_leastBySets_22 ?_
          refine kw_icmp_ge (tgt := 48) (pc := 23) dX0_leastBySets_23 (by decide) (fun h23 => ?_) (fun h23 => ?_)
          · have h23 := (kLeI (a := (2 ^ t)) (b := b) (by omega) (by omega) (shl1p (t := t) rfl (by omega)) rfl).mp h23
            refine kw_iinc (pc := 48) dX0_leastBySets_48 (by decide) rfl rfl rfl ?_
            refine kw_goto (tgt := 9) (pc := 51) dX0_leastBySets_51 (by decide) ?_
            obtain rfl : b = 2 ^ t := by omega
            refine kW.eq (w' := (kup w (y + 11) (kI 0 128 (tr 128 (tbC a (fun q t => G t q) L (2 ^ (t + 1) - 1)))))) (by rw [show 2 ^ t + 2 ^ t - 1 = 2 ^ (t + 1) - 1 by rw [Nat.pow_succ]; omega]) rfl ?_
            exact kW.locs (ih (z - (t + 1)) (by omega) (t + 1) rfl (by omega)) ⟨rfl, kgE rfl (kA (a := t) (b := 1) rfl (rfl : (Int32.ofInt 1) = nI 1)), trivial⟩
          · have h23 := mt (kLeI (a := (2 ^ t)) (b := b) (by omega) (by omega) (shl1p (t := t) rfl (by omega)) rfl).mpr h23
            have hb : b < 2 ^ t := by omega
            have hb7 : b < 128 := by omega
            refine kw_aload_n (pc := 26) dX0_leastBySets_26 rfl ?_
            refine kw_getfield (pc := 27) kfw dX0_leastBySets_27 fX0_27 (B.ls (L' := tbC a (fun q t => G t q) L (2 ^ t + b - 1))).1 rfl ?_
            refine kw_iload_n (pc := 30) dX0_leastBySets_30 rfl ?_
            refine kw_iconst (v := 1) (pc := 31) dX0_leastBySets_31 (by decide) ?_
            refine kw_iload_n (pc := 32) dX0_leastBySets_32 rfl ?_
            refine kw_ishl (pc := 33) dX0_leastBySets_33 ?_
            refine kw_ior (pc := 34) dX0_leastBySets_34 ?_
            refine kw_aload_n (pc := 35) dX0_leastBySets_35 rfl ?_
            refine kw_iload_n (pc := 36) dX0_leastBySets_36 rfl ?_
            refine kw_iload_n (pc := 37) dX0_leastBySets_37 rfl ?_
            refine kw_callVr (pc := 38) dX0_leastBySets_38 lX0_75 (c0_last (B.ls (L' := tbC a (fun q t => G t q) L (2 ^ t + b - 1))) (by omega) hb) (B.ls (L' := tbC a (fun q t => G t q) L (2 ^ t + b - 1))).1 rfl rfl rfl ⟨by decide, by decide, Nat.le_of_ble_eq_true rfl⟩ ?_
            refine kw_iastoreT (pc := 41) (i := b + 2 ^ t) dX0_leastBySets_41 (B.ls (L' := tbC a (fun q t => G t q) L (2 ^ t + b - 1))).2.2.2.2.2 (or1 b (by omega) t (by omega) (tb_lt t (by omega) b (by omega) hb)) (by omega) (by decide) (kW.eq (w' := (kup w (y + 11) (kI 0 128 (tr 128 (tbC a (fun q t => G t q) L (2 ^ t + (b + 1) - 1)))))) (by rw [kup_kup, show 2 ^ t + (b + 1) - 1 = b + 2 ^ t by omega, show 2 ^ t + b - 1 = b + 2 ^ t - 1 by omega, show 2 ^ t + b = b + 2 ^ t by omega, tbC_step (by omega) (log_of (b + 2 ^ t) (by omega) t (by omega) (by omega) (by rw [Nat.pow_succ]; omega))]) rfl ?_)
            refine kw_iinc (pc := 42) dX0_leastBySets_42 (by decide) rfl rfl rfl ?_
            refine kw_goto (tgt := 19) (pc := 45) dX0_leastBySets_45 (by decide) ?_
            exact kW.locs (ihb (2 ^ t - (b + 1)) (by omega) (b + 1) rfl (by omega)) ⟨rfl, rfl, kgE rfl (kA (a := b) (b := 1) rfl (rfl : (Int32.ofInt 1) = nI 1)), trivial⟩
      refine kw_iload_n (pc := 9) dX0_leastBySets_9 rfl ?_
      refine kw_aload_n (pc := 10) dX0_leastBySets_10 rfl ?_
      refine kw_getfield (pc := 11) kfw dX0_leastBySets_11 fX0_66 (B.ls (L' := tbC a (fun q t => G t q) L (2 ^ t - 1))).1 rfl ?_
      refine kw_icmp_ge (tgt := 54) (pc := 14) dX0_leastBySets_14 (by decide) (fun h14 => ?_) (fun h14 => ?_)
      · have h14 := (kLeI (a := z) (b := t) (by omega) (by omega) rfl rfl).mp h14
        obtain rfl : z = t := by omega
        have hpz := pow_le7 z (by omega)
        refine kw_aload_n (pc := 54) dX0_leastBySets_54 rfl ?_
        refine kw_getfield (pc := 55) kfw dX0_leastBySets_55 fX0_27 (B.ls (L' := tbC a (fun q t => G t q) L (2 ^ z - 1))).1 rfl ?_
        refine kw_iconst (v := 1) (pc := 58) dX0_leastBySets_58 (by decide) ?_
        refine kw_aload_n (pc := 59) dX0_leastBySets_59 rfl ?_
        refine kw_getfield (pc := 60) kfw dX0_leastBySets_60 fX0_66 (B.ls (L' := tbC a (fun q t => G t q) L (2 ^ z - 1))).1 rfl ?_
        refine kw_ishl (pc := 63) dX0_leastBySets_63 ?_
        refine kw_iconst (v := 1) (pc := 64) dX0_leastBySets_64 (by decide) ?_
        refine kw_isub (pc := 65) dX0_leastBySets_65 ?_
        refine kw_ialoadT (pc := 66) (i := 2 ^ z - 1) dX0_leastBySets_66 (B.ls (L' := tbC a (fun q t => G t q) L (2 ^ z - 1))).2.2.2.2.2 (kS (a := 2 ^ z) (b := 1) (shl1p (t := z) rfl (by omega)) (rfl : (1 : Int32) = nI 1) (by omega)) (by omega) (by decide) ?_
        exact kw_ireturn nlX0_leastBySets (pc := 67) dX0_leastBySets_67 rfl rfl ⟨kv_eq (tbC_congr _ _ (Nat.le_refl _)), ⟨⟨_, B.ls⟩, fun a ha => kup_ne (by omega)⟩, rfl⟩
      · have h14 := mt (kLeI (a := z) (b := t) (by omega) (by omega) rfl rfl).mpr h14
        refine kw_iconst (v := 0) (pc := 17) dX0_leastBySets_17 (by decide) ?_
        refine kw_istore_n (pc := 18) dX0_leastBySets_18 (by decide) rfl ?_
        refine kW.eq (w' := (kup w (y + 11) (kI 0 128 (tr 128 (tbC a (fun q t => G t q) L (2 ^ t + 0 - 1)))))) (by rw [show 2 ^ t + 0 - 1 = 2 ^ t - 1 by omega]) rfl ?_
        exact kW.locs (inner (by omega) (2 ^ t - 0) 0 rfl (Nat.zero_le _)) ⟨rfl, rfl, rfl, trivial⟩
  refine kw_aload_n (pc := 0) dX0_leastBySets_0 rfl ?_
  refine kw_getfield (pc := 1) kfw dX0_leastBySets_1 fX0_27 B.1 rfl ?_
  refine kw_iconst (v := 0) (pc := 4) dX0_leastBySets_4 (by decide) ?_
  refine kw_iconst (v := 0) (pc := 5) dX0_leastBySets_5 (by decide) ?_
  refine kw_iastoreT (pc := 6) (i := 0) dX0_leastBySets_6 B.2.2.2.2.2 rfl (by omega) (by decide) ?_
  rw [show kuf L 0 0 = tbC a (fun q t => G t q) L 0 from rfl]
  refine kw_iconst (v := 0) (pc := 7) dX0_leastBySets_7 (by decide) ?_
  refine kw_istore_n (pc := 8) dX0_leastBySets_8 (by decide) rfl ?_
  refine kW.eq (w' := (kup w (y + 11) (kI 0 128 (tr 128 (tbC a (fun q t => G t q) L (2 ^ 0 - 1)))))) rfl rfl ?_
  exact kW.locs (loop (z - 0) 0 rfl (Nat.zero_le _)) ⟨rfl, rfl, trivial⟩
set_option maxRecDepth 100000 in
set_option maxHeartbeats 4000000 in
theorem c0_from {w : kM} {y z : Nat} {a : Nat → Int32} {G : Nat → Nat → Int32} {L : Nat → Int32} (B : bnS w y z a G L) (hz : z ≤ 7) : ∀ (d p m : Nat) {x1 x2 : Int32}, x1 = nI p → x2 = nI m → p + d = z → m < 2 ^ z → kCtrR mX0_leastFrom (d + 1) [.ref y, .int x1, .int x2] w (.int (lfF a G d p m)) := by
  have hp := pow_le7 z (by omega)
  intro d
  induction d with
  | zero =>
    intro p m x1 x2 e1 e2 hpd hm
    subst e1; subst e2
    refine kCtrR.of pl0 nlX0_leastFrom rfl (Nat.le_of_ble_eq_true rfl) (fun n => ?_)
    refine kw_iload_n (pc := 0) dX0_leastFrom_0 rfl ?_
    refine kw_aload_n (pc := 1) dX0_leastFrom_1 rfl ?_
    refine kw_getfield (pc := 2) kfw dX0_leastFrom_2 fX0_66 B.1 rfl ?_
    refine kw_icmp_lt (tgt := 10) (pc := 5) dX0_leastFrom_5 (by decide) (fun h5 => ?_) (fun h5 => ?_)
    · have h5 := (kLtI (a := p) (b := z) (by omega) (by omega) rfl rfl).mp h5
      exfalso; omega
    · have h5 := mt (kLtI (a := p) (b := z) (by omega) (by omega) rfl rfl).mpr h5
      refine kw_iconst (v := 0) (pc := 8) dX0_leastFrom_8 (by decide) ?_
      exact kw_ireturn nlX0_leastFrom (pc := 9) dX0_leastFrom_9 rfl rfl ⟨rfl, rfl, rfl⟩
  | succ d ihd =>
    intro p m x1 x2 e1 e2 hpd hm
    subst e1; subst e2
    refine kCtrR.of pl0 nlX0_leastFrom rfl (Nat.le_of_ble_eq_true rfl) (fun n => ?_)
    refine kw_iload_n (pc := 0) dX0_leastFrom_0 rfl ?_
    refine kw_aload_n (pc := 1) dX0_leastFrom_1 rfl ?_
    refine kw_getfield (pc := 2) kfw dX0_leastFrom_2 fX0_66 B.1 rfl ?_
    refine kw_icmp_lt (tgt := 10) (pc := 5) dX0_leastFrom_5 (by decide) (fun h5 => ?_) (fun h5 => ?_)
    · have h5 := (kLtI (a := p) (b := z) (by omega) (by omega) rfl rfl).mp h5
      refine kw_iload_n (pc := 10) dX0_leastFrom_10 rfl ?_
      refine kw_iload_n (pc := 11) dX0_leastFrom_11 rfl ?_
      refine kw_ishr (pc := 12) dX0_leastFrom_12 ?_
      refine kw_iconst (v := 1) (pc := 13) dX0_leastFrom_13 (by decide) ?_
      refine kw_iand (pc := 14) dX0_leastFrom_14 ?_
      refine kw_iconst (v := 1) (pc := 15) dX0_leastFrom_15 (by decide) ?_
      refine kw_icmp_ne (tgt := 28) (pc := 16) dX0_leastFrom_16 (by decide) (fun h16 => ?_) (fun h16 => ?_)
      · have htb : m.testBit p = false := by
          rw [bit1 m (by omega) p (by omega)] at h16
          exact Bool.eq_false_iff.mpr (fun hh => h16 (by rw [b2i_t hh]))
        refine kw_aload_n (pc := 28) dX0_leastFrom_28 rfl ?_
        refine kw_getfield (pc := 29) kfw dX0_leastFrom_29 fX0_18 B.1 rfl ?_
        refine kw_iload_n (pc := 32) dX0_leastFrom_32 rfl ?_
        refine kw_ialoadT (pc := 33) (i := p) dX0_leastFrom_33 B.2.2.1 rfl (by omega) (by decide) ?_
        refine kw_aload_n (pc := 34) dX0_leastFrom_34 rfl ?_
        refine kw_iload_n (pc := 35) dX0_leastFrom_35 rfl ?_
        refine kw_iconst (v := 1) (pc := 36) dX0_leastFrom_36 (by decide) ?_
        refine kw_iadd (pc := 37) dX0_leastFrom_37 ?_
        refine kw_iload_n (pc := 38) dX0_leastFrom_38 rfl ?_
        refine kw_callSr (pc := 39) dX0_leastFrom_39 lX0_78 (ihd (p + 1) m (kA (a := p) (b := 1) rfl (rfl : (1 : Int32) = nI 1)) rfl (by omega) hm) rfl rfl ⟨Nat.le_refl _, by decide, Nat.le_of_ble_eq_true rfl⟩ ?_
        refine kw_iadd (pc := 42) dX0_leastFrom_42 ?_
        refine kw_istore_n (pc := 43) dX0_leastFrom_43 (by decide) rfl ?_
        refine kw_iload_n (pc := 44) dX0_leastFrom_44 rfl ?_
        refine kw_iconst (v := 1) (pc := 45) dX0_leastFrom_45 (by decide) ?_
        refine kw_iadd (pc := 46) dX0_leastFrom_46 ?_
        refine kw_istore (pc := 47) dX0_leastFrom_47 (by decide) rfl ?_
        have loop : ∀ (k r q : Nat), k = d - r → r ≤ d → q = p + 1 + r → kW (0, fun _ => 0) mX0_leastFrom (d + 2) (fun o' w' n' => o' = .inl (some (.int (lfF a G (d + 1) p m))) ∧ w' = w ∧ n' = n) 0 0 n w 49 [(0, .ref y), (1, .int (nI p)), (2, .int (nI m)), (3, .int (lfI a G (fun m' => lfF a G d (p + 1) m') p m r)), (4, .int (nI q))] [] := by
          intro k
          induction k using Nat.strongRecOn with
          | _ k ih =>
            intro r q hk hr hq
            refine kw_iload (pc := 49) dX0_leastFrom_49 rfl ?_
            refine kw_aload_n (pc := 51) dX0_leastFrom_51 rfl ?_
            refine kw_getfield (pc := 52) kfw dX0_leastFrom_52 fX0_66 B.1 rfl ?_
            refine kw_icmp_ge (tgt := 111) (pc := 55) dX0_leastFrom_55 (by decide) (fun h55 => ?_) (fun h55 => ?_)
            · have h55 := (kLeI (a := z) (b := q) (by omega) (by omega) rfl rfl).mp h55
              refine kw_iload_n (pc := 111) dX0_leastFrom_111 rfl ?_
              exact kw_ireturn nlX0_leastFrom (pc := 112) dX0_leastFrom_112 rfl rfl ⟨kv_eq (by rw [show r = d by omega]; exact (if_neg (by rw [htb]; decide)).symm), rfl, rfl⟩
            · have h55 := mt (kLeI (a := z) (b := q) (by omega) (by omega) rfl rfl).mpr h55
              refine kw_aload_n (pc := 58) dX0_leastFrom_58 rfl ?_
              refine kw_getfield (pc := 59) kfw dX0_leastFrom_59 fX0_24 B.1 rfl ?_
              refine kw_iload_n (pc := 62) dX0_leastFrom_62 rfl ?_
              refine kw_aaloadT (pc := 63) (i := p) dX0_leastFrom_63 B.2.2.2.1 rfl rfl (by omega) (by decide) rfl ?_
              refine kw_iload (pc := 64) dX0_leastFrom_64 rfl ?_
              refine kw_ialoadT (pc := 66) (i := q) dX0_leastFrom_66 (B.2.2.2.2.1 p (by omega)) rfl (by omega) (by decide) ?_
              refine kw_istore (pc := 67) dX0_leastFrom_67 (by decide) rfl ?_
              refine kw_iload_n (pc := 69) dX0_leastFrom_69 rfl ?_
              refine kw_iload (pc := 70) dX0_leastFrom_70 rfl ?_
              refine kw_ishr (pc := 72) dX0_leastFrom_72 ?_
              refine kw_iconst (v := 1) (pc := 73) dX0_leastFrom_73 (by decide) ?_
              refine kw_iand (pc := 74) dX0_leastFrom_74 ?_
              refine kw_if_ne (tgt := 105) (pc := 75) dX0_leastFrom_75 (by decide) (fun h75 => ?_) (fun h75 => ?_)
              · refine kw_iinc (pc := 105) dX0_leastFrom_105 (by decide) rfl rfl rfl ?_
                refine kw_goto (tgt := 49) (pc := 108) dX0_leastFrom_108 (by decide) ?_
                exact kW.locs (ih (d - (r + 1)) (by omega) (r + 1) (q + 1) rfl (by omega) (by omega)) ⟨rfl, rfl, rfl, kgE rfl (by rw [lfI_u, show p + 1 + r = q by omega]; rw [if_neg (fun hh => h75 (by rw [bit1 m (by omega) q (by omega)]; exact b2i_f hh.1))]), kgE rfl (kA (a := q) (b := 1) rfl (rfl : (Int32.ofInt 1) = nI 1)), trivial⟩
              · have hbq : m.testBit q = false := by
                  rw [bit1 m (by omega) q (by omega)] at h75
                  exact Bool.eq_false_iff.mpr (fun hh => by rw [b2i_t hh] at h75; exact absurd h75 (by decide))
                refine kw_iload (pc := 78) dX0_leastFrom_78 rfl ?_
                refine kw_iconst (v := -1) (pc := 80) dX0_leastFrom_80 (by decide) ?_
                refine kw_icmp_eq (tgt := 105) (pc := 81) dX0_leastFrom_81 (by decide) (fun h81 => ?_) (fun h81 => ?_)
                · refine kw_iinc (pc := 105) dX0_leastFrom_105 (by decide) rfl rfl rfl ?_
                  refine kw_goto (tgt := 49) (pc := 108) dX0_leastFrom_108 (by decide) ?_
                  exact kW.locs (ih (d - (r + 1)) (by omega) (r + 1) (q + 1) rfl (by omega) (by omega)) ⟨rfl, rfl, rfl, kgE rfl (by rw [lfI_u, show p + 1 + r = q by omega]; grind), kgE rfl (kA (a := q) (b := 1) rfl (rfl : (Int32.ofInt 1) = nI 1)), trivial⟩
                · refine kw_iload_n (pc := 84) dX0_leastFrom_84 rfl ?_
                  refine kw_iload (pc := 85) dX0_leastFrom_85 rfl ?_
                  refine kw_aload_n (pc := 87) dX0_leastFrom_87 rfl ?_
                  refine kw_iload_n (pc := 88) dX0_leastFrom_88 rfl ?_
                  refine kw_iconst (v := 1) (pc := 89) dX0_leastFrom_89 (by decide) ?_
                  refine kw_iadd (pc := 90) dX0_leastFrom_90 ?_
                  refine kw_iload_n (pc := 91) dX0_leastFrom_91 rfl ?_
                  refine kw_iconst (v := 1) (pc := 92) dX0_leastFrom_92 (by decide) ?_
                  refine kw_iload (pc := 93) dX0_leastFrom_93 rfl ?_
                  refine kw_ishl (pc := 95) dX0_leastFrom_95 ?_
                  refine kw_ior (pc := 96) dX0_leastFrom_96 ?_
                  refine kw_callSr (pc := 97) dX0_leastFrom_97 lX0_78 (ihd (p + 1) (m + 2 ^ q) (kA (a := p) (b := 1) rfl (rfl : (1 : Int32) = nI 1)) (or1 m (by omega) q (by omega) hbq) (by omega) (tb_add z (by omega) m (by omega) hm q (by omega) hbq)) rfl rfl ⟨Nat.le_refl _, by decide, Nat.le_of_ble_eq_true rfl⟩ ?_
                  refine kw_iadd (pc := 100) dX0_leastFrom_100 ?_
                  refine kw_mmin (pc := 101) dX0_leastFrom_101 lX0_60 (by omega) (Nat.le_of_ble_eq_true rfl) ?_
                  refine kw_istore_n (pc := 104) dX0_leastFrom_104 (by decide) rfl ?_
                  refine kw_iinc (pc := 105) dX0_leastFrom_105 (by decide) rfl rfl rfl ?_
                  refine kw_goto (tgt := 49) (pc := 108) dX0_leastFrom_108 (by decide) ?_
                  exact kW.locs (ih (d - (r + 1)) (by omega) (r + 1) (q + 1) rfl (by omega) (by omega)) ⟨rfl, rfl, rfl, kgE rfl (by rw [lfI_u, show p + 1 + r = q by omega]; grind), kgE rfl (kA (a := q) (b := 1) rfl (rfl : (Int32.ofInt 1) = nI 1)), trivial⟩
        exact kW.locs (loop (d - 0) 0 (p + 1) rfl (Nat.zero_le _) rfl) ⟨rfl, rfl, rfl, kgE rfl rfl, kgE rfl (kA (a := p) (b := 1) rfl (rfl : (1 : Int32) = nI 1)), trivial⟩
      · have htb : m.testBit p = true := by
          rw [bit1 m (by omega) p (by omega)] at h16
          exact Decidable.not_not.mp (fun hh => by rw [b2i_f hh] at h16; exact absurd h16 (by decide))
        refine kw_aload_n (pc := 19) dX0_leastFrom_19 rfl ?_
        refine kw_iload_n (pc := 20) dX0_leastFrom_20 rfl ?_
        refine kw_iconst (v := 1) (pc := 21) dX0_leastFrom_21 (by decide) ?_
        refine kw_iadd (pc := 22) dX0_leastFrom_22 ?_
        refine kw_iload_n (pc := 23) dX0_leastFrom_23 rfl ?_
        refine kw_callSr (pc := 24) dX0_leastFrom_24 lX0_78 (ihd (p + 1) m (kA (a := p) (b := 1) rfl (rfl : (1 : Int32) = nI 1)) rfl (by omega) hm) rfl rfl ⟨Nat.le_refl _, by decide, Nat.le_of_ble_eq_true rfl⟩ ?_
        exact kw_ireturn nlX0_leastFrom (pc := 27) dX0_leastFrom_27 rfl rfl ⟨kv_eq (if_pos htb).symm, rfl, rfl⟩
    · have h5 := mt (kLtI (a := p) (b := z) (by omega) (by omega) rfl rfl).mpr h5
      exfalso; omega
set_option maxRecDepth 100000 in
set_option maxHeartbeats 4000000 in
theorem c0_byTrying {w : kM} {y z : Nat} {a : Nat → Int32} {G : Nat → Nat → Int32} {L : Nat → Int32} (B : bnS w y z a G L) (hz : z ≤ 7) : kCtrR mX0_leastByTrying 9 [.ref y] w (.int (lfF a G z 0 0)) := by
  refine kCtrR.of pl0 nlX0_leastByTrying rfl (Nat.le_of_ble_eq_true rfl) (fun n => ?_)
  refine kw_aload_n (pc := 0) dX0_leastByTrying_0 rfl ?_
  refine kw_iconst (v := 0) (pc := 1) dX0_leastByTrying_1 (by decide) ?_
  refine kw_iconst (v := 0) (pc := 2) dX0_leastByTrying_2 (by decide) ?_
  refine kw_callSr (pc := 3) dX0_leastByTrying_3 lX0_78 (c0_from B hz z 0 0 rfl rfl (Nat.zero_add z) (Nat.two_pow_pos z)) rfl rfl ⟨by omega, by decide, Nat.le_of_ble_eq_true rfl⟩ ?_
  exact kw_ireturn nlX0_leastByTrying (pc := 6) dX0_leastByTrying_6 rfl rfl (by exact ⟨rfl, rfl, rfl⟩)
