/-- the row of parcels while one is taken out of it, as far as i; and when it is out -/
def rmT (k : Nat) (σ : Nat → Nat) (i : Nat) : Nat → Nat := fun j => if k ≤ j ∧ j + 1 < i then σ (j + 1) else σ j
def rmD (k c : Nat) (σ : Nat → Nat) : Nat → Nat := fun j => if k ≤ j ∧ j + 1 < c then σ (j + 1) else if j + 1 = c then σ k else σ j
theorem rmT_i {k i : Nat} {σ : Nat → Nat} : rmT k σ i i = σ i := by
  unfold rmT
  rw [if_neg (by omega)]
theorem rmT_0 {k : Nat} {σ : Nat → Nat} (j : Nat) : rmT k σ (k + 1) j = σ j := by
  unfold rmT
  rw [if_neg (by omega)]
theorem rmT_s {k i o j : Nat} {σ : Nat → Nat} (h : k + 1 ≤ i) : kuF (fun j => .ref (o + 5 + rmT k σ i j)) (i - 1) (.ref (o + 5 + σ i)) j = .ref (o + 5 + rmT k σ (i + 1) j) := by
  unfold kuF rmT
  by_cases h1 : j = i - 1
  · rw [if_pos h1, if_pos (by omega), show j + 1 = i by omega]
  · rw [if_neg h1]
    dsimp only
    by_cases h2 : k ≤ j ∧ j + 1 < i
    · rw [if_pos h2, if_pos (by omega)]
    · rw [if_neg h2, if_neg (by omega)]
theorem rmD_s {k c o j : Nat} {σ : Nat → Nat} (h : k < c) : kuF (fun j => .ref (o + 5 + rmT k σ c j)) (c - 1) (.ref (o + 5 + σ k)) j = .ref (o + 5 + rmD k c σ j) := by
  unfold kuF rmT rmD
  by_cases h1 : j = c - 1
  · rw [if_pos h1, if_neg (by omega), if_pos (by omega)]
  · rw [if_neg h1]
    dsimp only
    by_cases h2 : k ≤ j ∧ j + 1 < c
    · rw [if_pos h2, if_pos h2]
    · rw [if_neg h2, if_neg h2, if_neg (by omega)]
theorem rm_step {w : kM} {k i o : Nat} {σ : Nat → Nat} (h : k + 1 ≤ i) : kup (kup w (o + 1) (kV 5 7 (tv 7 (fun j => .ref (o + 5 + rmT k σ i j))))) (o + 1) (kV 5 7 (tv 7 (kuF (fun j => .ref (o + 5 + rmT k σ i j)) (i - 1) (.ref (o + 5 + σ i))))) = kup w (o + 1) (kV 5 7 (tv 7 (fun j => .ref (o + 5 + rmT k σ (i + 1) j)))) := by
  rw [kup_kup, tv_eq (fun j _ => rmT_s h)]
theorem rm_last {w : kM} {k c o : Nat} {σ : Nat → Nat} (h : k < c) : kup (kup w (o + 1) (kV 5 7 (tv 7 (fun j => .ref (o + 5 + rmT k σ c j))))) (o + 1) (kV 5 7 (tv 7 (kuF (fun j => .ref (o + 5 + rmT k σ c j)) (c - 1) (.ref (o + 5 + σ k))))) = kup w (o + 1) (kV 5 7 (tv 7 (fun j => .ref (o + 5 + rmD k c σ j)))) := by
  rw [kup_kup, tv_eq (fun j _ => rmD_s h)]
theorem rmD_lt {k c : Nat} {σ : Nat → Nat} (hs : ∀ j, j < 7 → σ j < 7) (hk : k < c) (hc : c ≤ 7) : ∀ j, j < 7 → rmD k c σ j < 7 := by
  intro j hj
  unfold rmD
  split
  · exact hs _ (by omega)
  · split
    · exact hs _ (by omega)
    · exact hs _ hj
theorem rmD_inj {k c : Nat} {σ : Nat → Nat} (hi : ∀ i, i < 7 → ∀ j, j < 7 → σ i = σ j → i = j) (hk : k < c) (hc : c ≤ 7) : ∀ i, i < 7 → ∀ j, j < 7 → rmD k c σ i = rmD k c σ j → i = j := by
  intro i h1 j h2 h
  have e : ∀ x, x < 7 → ∃ y, y < 7 ∧ rmD k c σ x = σ y ∧ ((k ≤ x ∧ x + 1 < c ∧ y = x + 1) ∨ (x + 1 = c ∧ y = k) ∨ ((x < k ∨ c ≤ x) ∧ y = x)) := by
    intro x hx
    unfold rmD
    by_cases g1 : k ≤ x ∧ x + 1 < c
    · exact ⟨x + 1, by omega, by rw [if_pos g1], by omega⟩
    · by_cases g2 : x + 1 = c
      · exact ⟨k, by omega, by rw [if_neg g1, if_pos g2], by omega⟩
      · exact ⟨x, hx, by rw [if_neg g1, if_neg g2], by omega⟩
  obtain ⟨a, a1, a2, a3⟩ := e i h1
  obtain ⟨b, b1, b2, b3⟩ := e j h2
  rw [a2, b2] at h
  have := hi a a1 b b1 h
  omega
theorem goneS_hi {s : Nat → Int32} {k c i : Nat} (hc : c ≤ 7) (h : 70 ≤ i) : goneS s k c i = s i := by
  unfold goneS goneP
  rw [if_neg (by omega), if_neg (by omega)]
theorem goneS_lo {s : Nat → Int32} {k c i : Nat} (h : i < 20) : goneS s k c i = s i := by
  unfold goneS goneP
  rw [if_neg (by omega), if_neg (by omega)]
theorem rm_off {w : kM} {o : Nat} {s : Nat → Int32} {c k : Nat} {σ : Nat → Nat} (H : offP w o s c σ) (hk : k < c) : offP (kup (kup w (o + 1) (kV 5 7 (tv 7 (fun j => .ref (o + 5 + rmD k c σ j))))) o (kO 1 (kuF (oF o s) 4 (.int (s 20 - 1))))) o (goneS s k c) (c - 1) (rmD k c σ) := by
  have h7 := H.c7
  have e20 : goneS s k c 20 = s 20 - 1 := by
    rw [show goneS s k c 20 = nI (c - 1) from goneP_20, H.sz]
    exact (kS (a := c) (b := 1) rfl rfl (by omega)).symm
  refine ⟨(kup_self _ _ _).trans (congrArg (kO 1) ?_), (kup_ne (by omega)).trans (kup_self _ _ _), ?_, ?_, ?_, rmD_lt H.lt hk h7, rmD_inj H.inj hk h7, ?_, ?_, goneP_20, by omega⟩
  · funext j
    match j with
    | 0 => rfl
    | 1 => rfl
    | 2 => rfl
    | 3 => rfl
    | 4 => show Value.int (s 20 - 1) = Value.int (goneS s k c 20); rw [e20]
    | 5 => show Value.int (s 70) = Value.int (goneS s k c 70); rw [goneS_hi h7 (by decide)]
    | 6 => show Value.int (s 71) = Value.int (goneS s k c 71); rw [goneS_hi h7 (by decide)]
    | 7 => show Value.int (s 72) = Value.int (goneS s k c 72); rw [goneS_hi h7 (by decide)]
    | 8 => show Value.int (s 73) = Value.int (goneS s k c 73); rw [goneS_hi h7 (by decide)]
    | 9 => show Value.int (s 74) = Value.int (goneS s k c 74); rw [goneS_hi h7 (by decide)]
    | z + 10 => simp [kuF, oF]
  · exact (kup_ne (by omega)).trans ((kup_ne (by omega)).trans (H.pr.trans (congrArg (kI 0 12) (tr_eq fun j hj => (goneS_lo (by omega)).symm))))
  · exact (kup_ne (by omega)).trans ((kup_ne (by omega)).trans (H.fa.trans (congrArg (kI 0 4) (tr_eq fun j hj => (goneS_lo (by omega)).symm))))
  · exact (kup_ne (by omega)).trans ((kup_ne (by omega)).trans (H.se.trans (congrArg (kI 0 4) (tr_eq fun j hj => (goneS_lo (by omega)).symm))))
  · intro j hj
    have hl := rmD_lt H.lt hk h7 j (by omega)
    refine (kup_ne (by omega)).trans ((kup_ne (by omega)).trans ?_)
    by_cases g : k ≤ j
    · rw [show rmD k c σ j = σ (j + 1) from if_pos (by omega), H.par (j + 1) (by omega)]
      refine congrArg (kO 2) (pF_eq fun i hi => ?_)
      show s (21 + 7 * (j + 1) + i) = goneS s k c (21 + 7 * j + i)
      unfold goneS goneP
      rw [if_neg (by omega), if_pos (by omega)]
      congr 1
      omega
    · rw [show rmD k c σ j = σ j by unfold rmD; rw [if_neg (by omega), if_neg (by omega)], H.par j (by omega)]
      refine congrArg (kO 2) (pF_eq fun i hi => ?_)
      show s (21 + 7 * j + i) = goneS s k c (21 + 7 * j + i)
      unfold goneS goneP
      rw [if_neg (by omega), if_neg (by omega)]
  · intro j hj
    have hl := rmD_lt H.lt hk h7 j hj
    rw [kup_ne (by omega), kup_ne (by omega)]
    unfold rmD
    split
    · exact H.any _ (by omega)
    · split
      · exact H.any _ (by omega)
      · exact H.any _ hj
set_option maxRecDepth 100000 in
set_option maxHeartbeats 4000000 in
theorem c1_remove {w : kM} {o : Nat} {s : Nat → Int32} {c : Nat} {σ : Nat → Nat} (H : offP w o s c σ) {k : Nat} (hk : k < c) : kCtrW mX1_remove 0 [.ref o, .int (nI k)] w none (fun w' => ∃ σ', offP w' o (goneS s k c) (c - 1) σ' ∧ ∀ a, a ≠ o → a ≠ o + 1 → w' a = w a) := by
  refine kCtrW.of pl1 nlX1_remove rfl (Nat.le_of_ble_eq_true rfl) (fun n => ?_)
  have h7 := H.c7
  have loop : ∀ (m i : Nat), m = c - i → k + 1 ≤ i → i ≤ c → kW (0, fun _ => 0) mX1_remove 0 (fun o' w' n' => o' = .inl none ∧ (fun w' => ∃ σ', offP w' o (goneS s k c) (c - 1) σ' ∧ ∀ a, a ≠ o → a ≠ o + 1 → w' a = w a) w' ∧ n' = n) 0 0 n (kup w (o + 1) (kV 5 7 (tv 7 (fun j => .ref (o + 5 + rmT k σ i j))))) 14 [(0, .ref o), (1, .int (nI k)), (2, .ref (o + 5 + σ k)), (3, .int (nI (i - 1))), (4, .int (nI i))] [] := by
    intro m
    induction m using Nat.strongRecOn with
    | _ m ih =>
      intro i hm hi1 hi2
      refine kw_iload (pc := 14) dX1_remove_14 rfl ?_
      refine kw_aload_n (pc := 16) dX1_remove_16 rfl ?_
      refine kw_getfield (pc := 17) kfw dX1_remove_17 fX1_31 ((kup_ne (by omega)).trans H.ob) rfl ?_
      refine kw_icmp_ge (tgt := 58) (pc := 20) dX1_remove_20 (by decide) (fun h20 => ?_) (fun h20 => ?_)
      · have h20 := (kLeI (a := c) (b := i) (by omega) (by omega) H.sz rfl).mp h20
        obtain rfl : c = i := by omega
        refine kw_aload_n (pc := 58) dX1_remove_58 rfl ?_
        refine kw_getfield (pc := 59) kfw dX1_remove_59 fX1_11 ((kup_ne (by omega)).trans H.ob) rfl ?_
        refine kw_iload_n (pc := 62) dX1_remove_62 rfl ?_
        refine kw_aload_n (pc := 63) dX1_remove_63 rfl ?_
        refine kw_aastoreT (pc := 64) (i := c - 1) (ci := 2) dX1_remove_64 (kup_self _ _ _) rfl rfl rfl (by omega) (by decide) ((kup_ne (by have := H.lt k (by omega); omega)).trans (H.par k hk)) (kW.eq (rm_last hk) rfl ?_)
        refine kw_aload_n (pc := 65) dX1_remove_65 rfl ?_
        refine kw_dup (pc := 66) dX1_remove_66 rfl ?_
        refine kw_getfield (pc := 67) kfw dX1_remove_67 fX1_31 ((kup_ne (by omega)).trans H.ob) rfl ?_
        refine kw_iconst (v := 1) (pc := 70) dX1_remove_70 (by decide) ?_
        refine kw_isub (pc := 71) dX1_remove_71 ?_
        refine kw_putfield (pc := 72) kfw dX1_remove_72 fX1_31 ((kup_ne (by omega)).trans H.ob) (fun _ _ => rfl) (fun _ _ => rfl) ?_
        exact kw_return nlX1_remove (pc := 75) dX1_remove_75 rfl ⟨rfl, ⟨_, rm_off H hk, fun a h1 h2 => (kup_ne h1).trans (kup_ne h2)⟩, rfl⟩
      · have h20 := mt (kLeI (a := c) (b := i) (by omega) (by omega) H.sz rfl).mpr h20
        refine kw_iload (pc := 23) dX1_remove_23 rfl ?_
        refine kw_aload_n (pc := 25) dX1_remove_25 rfl ?_
        refine kw_getfield (pc := 26) kfw dX1_remove_26 fX1_11 ((kup_ne (by omega)).trans H.ob) rfl ?_
        refine kw_alenV (pc := 29) (v := 7) dX1_remove_29 (kup_self _ _ _) rfl ?_
        refine kw_icmp_ge (tgt := 58) (pc := 30) dX1_remove_30 (by decide) (fun h30 => ?_) (fun h30 => ?_)
        · have h30 := (kLeI (a := 7) (b := i) (by omega) (by omega) (rfl : (7 : Int32) = nI 7) rfl).mp h30
          exfalso; omega
        · have h30 := mt (kLeI (a := 7) (b := i) (by omega) (by omega) (rfl : (7 : Int32) = nI 7) rfl).mpr h30
          refine kw_aload_n (pc := 33) dX1_remove_33 rfl ?_
          refine kw_getfield (pc := 34) kfw dX1_remove_34 fX1_11 ((kup_ne (by omega)).trans H.ob) rfl ?_
          refine kw_iload (pc := 37) dX1_remove_37 rfl ?_
          refine kw_iconst (v := 1) (pc := 39) dX1_remove_39 (by decide) ?_
          refine kw_isub (pc := 40) dX1_remove_40 ?_
          refine kw_aload_n (pc := 41) dX1_remove_41 rfl ?_
          refine kw_getfield (pc := 42) kfw dX1_remove_42 fX1_11 ((kup_ne (by omega)).trans H.ob) rfl ?_
          refine kw_iload (pc := 45) dX1_remove_45 rfl ?_
          refine kw_aaloadT (pc := 47) (i := i) (o := o + 5 + σ i) dX1_remove_47 (kup_self _ _ _) rfl rfl (by omega) (by decide) (by rw [rmT_i]) ?_
          refine kw_aastoreT (pc := 48) (i := i - 1) (ci := 2) dX1_remove_48 (kup_self _ _ _) rfl rfl (kS (a := i) (b := 1) rfl (rfl : (1 : Int32) = nI 1) (by omega)) (by omega) (by decide) ((kup_ne (by have := H.lt i (by omega); omega)).trans (H.par i (by omega))) (kW.eq (rm_step hi1) rfl ?_)
          refine kw_iload (pc := 49) dX1_remove_49 rfl ?_
          refine kw_istore_n (pc := 51) dX1_remove_51 (by decide) rfl ?_
          refine kw_iinc (pc := 52) dX1_remove_52 (by decide) rfl rfl rfl ?_
          refine kw_goto (tgt := 14) (pc := 55) dX1_remove_55 (by decide) ?_
          exact kW.locs (ih (c - (i + 1)) (by omega) (i + 1) rfl (by omega) (by omega)) ⟨rfl, rfl, rfl, rfl, kgE rfl (kA (a := i) (b := 1) rfl (rfl : (Int32.ofInt 1) = nI 1)), trivial⟩
  refine kw_aload_n (pc := 0) dX1_remove_0 rfl ?_
  refine kw_getfield (pc := 1) kfw dX1_remove_1 fX1_11 H.ob rfl ?_
  refine kw_iload_n (pc := 4) dX1_remove_4 rfl ?_
  refine kw_aaloadT (pc := 5) (i := k) dX1_remove_5 H.ps rfl rfl (by omega) (by decide) rfl ?_
  refine kw_astore_n (pc := 6) dX1_remove_6 (by decide) rfl ?_
  refine kw_iload_n (pc := 7) dX1_remove_7 rfl ?_
  refine kw_istore_n (pc := 8) dX1_remove_8 (by decide) rfl ?_
  refine kw_iload_n (pc := 9) dX1_remove_9 rfl ?_
  refine kw_iconst (v := 1) (pc := 10) dX1_remove_10 (by decide) ?_
  refine kw_iadd (pc := 11) dX1_remove_11 ?_
  refine kw_istore (pc := 12) dX1_remove_12 (by decide) rfl ?_
  refine kW.eq (w' := (kup w (o + 1) (kV 5 7 (tv 7 (fun j => .ref (o + 5 + rmT k σ (k + 1) j)))))) (by rw [tv_eq (fun j _ => congrArg (fun z => Value.ref (o + 5 + z)) (rmT_0 j)), kup_id H.ps]) rfl ?_
  exact kW.locs (loop (c - (k + 1)) (k + 1) rfl (Nat.le_refl _) hk) ⟨rfl, rfl, rfl, rfl, kgE rfl (kA (a := k) (b := 1) rfl (rfl : (1 : Int32) = nI 1)), trivial⟩
