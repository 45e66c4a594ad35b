/-! ===== the law's print of an office; its bands ===== -/
theorem kDi {x y : Int32} {a b : Nat} (h1 : x = nI a) (h2 : y = nI b) (ha : a < 2147483648) (hb : 0 < b) (hb2 : b < 2147483648) : x / y = nI (a / b) := by
  rw [h1, h2]
  exact nI_div ha hb hb2
theorem kRe {x y : Int32} {a b : Nat} (h1 : x = nI a) (h2 : y = nI b) (ha : a < 2147483648) (hb : 0 < b) (hb2 : b < 2147483648) : x - x / y * y = nI (a % b) := by
  rw [h1, h2, nI_div ha hb hb2, nI_mul, kS rfl rfl (Nat.div_mul_le_self a b)]
  congr 1
  have := Nat.mod_add_div a b
  rw [Nat.mul_comm] at this
  omega
section LK
variable {m c c1 : Nat} {s0 s1 : Nat → Int32} {w : kM}
theorem V0.countE (h : V0 s0 c w) {x : Int32} {j : Nat} (hx : x = nI j) (hj : j < 9) : kCtrR mL_count 12 [.ref 0, .int x] w (.int (ctd s0 0 c j)) := by subst hx; exact h.count hj
theorem V0.parcelE (h : V0 s0 c w) {x y : Int32} {k j : Nat} (hx : x = nI k) (hy : y = nI j) (hk : k < c) (hj : j < 11) : kCtrR mL_parcelOf 12 [.ref 0, .int x, .int y] w (.int (prp s0 (pa s0 (21 + 7 * k)) j)) := by subst hx; subst hy; exact h.parcelOf hk hj
theorem V0.settingE (h : V0 s0 c w) {x : Int32} {j : Nat} (hx : x = nI j) (hj : j < 4) : kCtrR mL_setting 12 [.ref 0, .int x] w (.int (s0 j)) := by subst hx; exact h.setting hj
theorem V0.wayE (h : V0 s0 c w) {x : Int32} {k : Nat} (hx : x = nI k) (hk : k < c) : kCtrR mL_cheapestWay 12 [.ref 0, .int x] w (.int (wyF s0 (pa s0 (21 + 7 * k)))) := by subst hx; exact h.way hk
def prA (s : Nat → Int32) (c : Nat) : Nat → Int64 := fun k => rwH (fun j => ctd s 0 c j) k 21
def prB (s : Nat → Int32) (c : Nat) : Nat → Int64 := fun k => rwH (fun t => prp s (pa s (21 + 7 * (t / 11))) (t % 11)) k (prA s c 9)
def prC (s : Nat → Int32) (c : Nat) : Nat → Int64 := fun k => rwH s k (prB s c (11 * c))
def PR (s : Nat → Int32) (c : Nat) : Int64 := fo (prC s c 4) (rM s 12)
theorem kgL {L : List (Nat × Value)} {i : Nat} {x y : Int64} (h : kget L i = some (.long x)) (p : x = y) : kget L i = some (.long y) := by rw [h, p]
set_option maxRecDepth 100000 in
set_option maxHeartbeats 40000000 in
theorem V0.print (h : V0 s0 c w) : kCtrR mL_print 13 [.ref 0] w (.long (PR s0 c)) := by
  refine kCtrR.of plLw nlL_print rfl (Nat.le_of_ble_eq_true rfl) (fun n => ?_)
  have N0 := h.ok
  have h7 := N0.1
  have loop3 : ∀ (mm : Nat) (i : Nat), mm = 4 - i → i ≤ 4 → kW (0, fun _ => 0) mL_print 13 (fun o' w' n' => o' = .inl (some (.long (PR s0 c))) ∧ w' = w ∧ n' = n) 0 0 n w 73 [(0, .ref 0), (1, .long (prC s0 c i)), (3, .int (nI i))] [] := by
    intro mm
    induction mm using Nat.strongRecOn with
    | _ mm ih =>
      intro i hm hi
      refine kw_iload_n (pc := 73) dL_print_73 rfl ?_
      refine kw_iconst (v := 4) (pc := 74) dL_print_74 (by decide) ?_
      refine kw_icmp_ge (tgt := 97) (pc := 75) dL_print_75 (by decide) (fun h75 => ?_) (fun h75 => ?_)
      · have h75 := (kLeI (a := 4) (b := i) (by decide) (by omega) (rfl : (4 : Int32) = nI 4) rfl).mp h75
        obtain rfl : i = 4 := by omega
        refine kw_ldc2 (pc := 97) dL_print_97 gL_125 ?_
        refine kw_lload_n (pc := 100) dL_print_100 rfl ?_
        refine kw_lmul (pc := 101) dL_print_101 ?_
        refine kw_aload_n (pc := 102) dL_print_102 rfl ?_
        refine kw_sipush (v := 600) (pc := 103) dL_print_103 (by decide) ?_
        refine kw_iconst (v := 0) (pc := 106) dL_print_106 (by decide) ?_
        refine kw_callSr (pc := 107) dL_print_107 lL_104 (h.rate0 (z := 600) (B := 11) ⟨by decide, by decide⟩ (by decide) (by decide)) rfl rfl ⟨by decide, by decide, Nat.le_of_ble_eq_true rfl⟩ ?_
        refine kw_i2l (pc := 110) dL_print_110 ?_
        refine kw_ladd (pc := 111) dL_print_111 ?_
        exact kw_lreturn nlL_print (pc := 112) dL_print_112 rfl ⟨rfl, rfl, rfl⟩
      · have h75 := mt (kLeI (a := 4) (b := i) (by decide) (by omega) (rfl : (4 : Int32) = nI 4) rfl).mpr h75
        refine kw_ldc2 (pc := 78) dL_print_78 gL_125 ?_
        refine kw_lload_n (pc := 81) dL_print_81 rfl ?_
        refine kw_lmul (pc := 82) dL_print_82 ?_
        refine kw_aload_n (pc := 83) dL_print_83 rfl ?_
        refine kw_iload_n (pc := 84) dL_print_84 rfl ?_
        refine kw_callSr (pc := 85) dL_print_85 lL_102 (V0.settingE (j := i) h rfl (by omega)) rfl rfl ⟨by decide, by decide, Nat.le_of_ble_eq_true rfl⟩ ?_
        refine kw_i2l (pc := 88) dL_print_88 ?_
        refine kw_ladd (pc := 89) dL_print_89 ?_
        refine kw_lstore_n (pc := 90) dL_print_90 (by decide) rfl ?_
        refine kW.locs (L' := [(0, _), (1, _), (3, _)]) ?_ ⟨rfl, rfl, rfl, trivial⟩
        refine kw_iinc (pc := 91) dL_print_91 (by decide) rfl rfl rfl ?_
        refine kw_goto (tgt := 73) (pc := 94) dL_print_94 (by decide) ?_
        exact kW.locs (ih (4 - (i + 1)) (by omega) (i + 1) rfl (by omega)) ⟨rfl, rfl, kgE rfl (kA (a := i) (b := 1) rfl (rfl : (Int32.ofInt 1) = nI 1)), trivial⟩
  have loop2 : ∀ (mm : Nat) (i : Nat), mm = 11 * c - i → i ≤ 11 * c → kW (0, fun _ => 0) mL_print 13 (fun o' w' n' => o' = .inl (some (.long (PR s0 c))) ∧ w' = w ∧ n' = n) 0 0 n w 33 [(0, .ref 0), (1, .long (prB s0 c i)), (3, .int (nI i))] [] := by
    intro mm
    induction mm using Nat.strongRecOn with
    | _ mm ih =>
      intro i hm hi
      refine kw_iload_n (pc := 33) dL_print_33 rfl ?_
      refine kw_bipush (v := 11) (pc := 34) dL_print_34 (by decide) ?_
      refine kw_aload_n (pc := 36) dL_print_36 rfl ?_
      refine kw_iconst (v := 0) (pc := 37) dL_print_37 (by decide) ?_
      refine kw_callSr (pc := 38) dL_print_38 lL_98 (V0.countE (j := 0) h (rfl : (0 : Int32) = nI 0) (by decide)) rfl rfl ⟨by decide, by decide, Nat.le_of_ble_eq_true rfl⟩ ?_
      refine kw_imul (pc := 41) dL_print_41 ?_
      refine kw_icmp_ge (tgt := 71) (pc := 42) dL_print_42 (by decide) (fun h42 => ?_) (fun h42 => ?_)
      · have h42 := (kLeI (a := (11 * c)) (b := i) (by omega) (by omega) (kMu (a := 11) (b := c) (rfl : (11 : Int32) = nI 11) N0.2.1) rfl).mp h42
        refine kw_iconst (v := 0) (pc := 71) dL_print_71 (by decide) ?_
        refine kw_istore_n (pc := 72) dL_print_72 (by decide) rfl ?_
        obtain rfl : i = 11 * c := by omega
        exact kW.locs (loop3 (4 - 0) 0 rfl (Nat.zero_le _)) ⟨rfl, rfl, rfl, trivial⟩
      · have h42 := mt (kLeI (a := (11 * c)) (b := i) (by omega) (by omega) (kMu (a := 11) (b := c) (rfl : (11 : Int32) = nI 11) N0.2.1) rfl).mpr h42
        refine kw_ldc2 (pc := 45) dL_print_45 gL_125 ?_
        refine kw_lload_n (pc := 48) dL_print_48 rfl ?_
        refine kw_lmul (pc := 49) dL_print_49 ?_
        refine kw_aload_n (pc := 50) dL_print_50 rfl ?_
        refine kw_iload_n (pc := 51) dL_print_51 rfl ?_
        refine kw_bipush (v := 11) (pc := 52) dL_print_52 (by decide) ?_
        refine kw_idiv (pc := 54) dL_print_54 (by decide) ?_
        refine kw_iload_n (pc := 55) dL_print_55 rfl ?_
        refine kw_bipush (v := 11) (pc := 56) dL_print_56 (by decide) ?_
        refine kw_irem (pc := 58) dL_print_58 (by decide) ?_
        refine kw_callSr (pc := 59) dL_print_59 lL_100 (V0.parcelE (k := (i / 11)) (j := (i % 11)) h (kDi (a := i) (b := 11) rfl (rfl : (11 : Int32) = nI 11) (by omega) (by omega) (by omega)) (kRe (a := i) (b := 11) rfl (rfl : (11 : Int32) = nI 11) (by omega) (by omega) (by omega)) (by omega) (by omega)) rfl rfl ⟨by decide, by decide, Nat.le_of_ble_eq_true rfl⟩ ?_
        refine kw_i2l (pc := 62) dL_print_62 ?_
        refine kw_ladd (pc := 63) dL_print_63 ?_
        refine kw_lstore_n (pc := 64) dL_print_64 (by decide) rfl ?_
        refine kW.locs (L' := [(0, _), (1, _), (3, _)]) ?_ ⟨rfl, rfl, rfl, trivial⟩
        refine kw_iinc (pc := 65) dL_print_65 (by decide) rfl rfl rfl ?_
        refine kw_goto (tgt := 33) (pc := 68) dL_print_68 (by decide) ?_
        exact kW.locs (ih (11 * c - (i + 1)) (by omega) (i + 1) rfl (by omega)) ⟨rfl, rfl, kgE rfl (kA (a := i) (b := 1) rfl (rfl : (Int32.ofInt 1) = nI 1)), trivial⟩
  have loop1 : ∀ (mm : Nat) (i : Nat), mm = 9 - i → i ≤ 9 → kW (0, fun _ => 0) mL_print 13 (fun o' w' n' => o' = .inl (some (.long (PR s0 c))) ∧ w' = w ∧ n' = n) 0 0 n w 6 [(0, .ref 0), (1, .long (prA s0 c i)), (3, .int (nI i))] [] := by
    intro mm
    induction mm using Nat.strongRecOn with
    | _ mm ih =>
      intro i hm hi
      refine kw_iload_n (pc := 6) dL_print_6 rfl ?_
      refine kw_bipush (v := 9) (pc := 7) dL_print_7 (by decide) ?_
      refine kw_icmp_ge (tgt := 31) (pc := 9) dL_print_9 (by decide) (fun h9 => ?_) (fun h9 => ?_)
      · have h9 := (kLeI (a := 9) (b := i) (by decide) (by omega) (rfl : (9 : Int32) = nI 9) rfl).mp h9
        refine kw_iconst (v := 0) (pc := 31) dL_print_31 (by decide) ?_
        refine kw_istore_n (pc := 32) dL_print_32 (by decide) rfl ?_
        obtain rfl : i = 9 := by omega
        exact kW.locs (loop2 (11 * c - 0) 0 rfl (Nat.zero_le _)) ⟨rfl, rfl, rfl, trivial⟩
      · have h9 := mt (kLeI (a := 9) (b := i) (by decide) (by omega) (rfl : (9 : Int32) = nI 9) rfl).mpr h9
        refine kw_ldc2 (pc := 12) dL_print_12 gL_125 ?_
        refine kw_lload_n (pc := 15) dL_print_15 rfl ?_
        refine kw_lmul (pc := 16) dL_print_16 ?_
        refine kw_aload_n (pc := 17) dL_print_17 rfl ?_
        refine kw_iload_n (pc := 18) dL_print_18 rfl ?_
        refine kw_callSr (pc := 19) dL_print_19 lL_98 (V0.countE (j := i) h rfl (by omega)) rfl rfl ⟨by decide, by decide, Nat.le_of_ble_eq_true rfl⟩ ?_
        refine kw_i2l (pc := 22) dL_print_22 ?_
        refine kw_ladd (pc := 23) dL_print_23 ?_
        refine kw_lstore_n (pc := 24) dL_print_24 (by decide) rfl ?_
        refine kW.locs (L' := [(0, _), (1, _), (3, _)]) ?_ ⟨rfl, rfl, rfl, trivial⟩
        refine kw_iinc (pc := 25) dL_print_25 (by decide) rfl rfl rfl ?_
        refine kw_goto (tgt := 6) (pc := 28) dL_print_28 (by decide) ?_
        exact kW.locs (ih (9 - (i + 1)) (by omega) (i + 1) rfl (by omega)) ⟨rfl, rfl, kgE rfl (kA (a := i) (b := 1) rfl (rfl : (Int32.ofInt 1) = nI 1)), trivial⟩
  refine kw_ldc2 (pc := 0) dL_print_0 gL_123 ?_
  refine kw_lstore_n (pc := 3) dL_print_3 (by decide) rfl ?_
  refine kW.locs (L' := [(0, _), (1, _)]) ?_ ⟨rfl, rfl, trivial⟩
  refine kw_iconst (v := 0) (pc := 4) dL_print_4 (by decide) ?_
  refine kw_istore_n (pc := 5) dL_print_5 (by decide) rfl ?_
  exact kW.locs (loop1 (9 - 0) 0 rfl (Nat.zero_le _)) ⟨rfl, rfl, rfl, trivial⟩
/-- of the first k bands those whose price is no less than all below -/
def riN (s : Nat → Int32) : Nat → Nat
  | 0 => 0
  | k + 1 => riN s k + (if s (4 + k) < rM s k then 0 else 1)
theorem riN_le {s : Nat → Int32} : ∀ k, riN s k ≤ k
  | 0 => Nat.le_refl _
  | k + 1 => by
    have := riN_le (s := s) k
    unfold riN
    split <;> omega
theorem low_ri {s : Nat → Int32} : ∀ k, ∃ lo, lowN s k = nI lo ∧ lo + riN s k = k
  | 0 => ⟨0, rfl, rfl⟩
  | k + 1 => by
    obtain ⟨lo, h1, h2⟩ := low_ri (s := s) k
    unfold lowN riN
    split
    · exact ⟨lo + 1, by rw [h1, nI_1e, nI_add], by omega⟩
    · exact ⟨lo, by rw [h1]; exact Int32.add_zero _, by omega⟩
theorem K.price (h : K m s0 c w) {b : Nat} (hb : b < 12) {v : Int32} (hv : 0 ≤ v ∧ v ≤ 99) : kCtrW mL_price 12 [.ref 0, .int (nI b), .int v] w (some (.int (s0 (4 + b)))) (fun w' => ∃ s1, Dn m s0 c s1 c w') := by
  obtain ⟨s, q, ⟨C, N, R⟩, e⟩ := h
  rw [← e (4 + b) (by omega)]
  exact hL_price_T (by decide) C.1 ((c5_price C N.1.2.1 N.1.1 hb hv).weak (fun w' hw => ⟨_, s, q, ⟨N, R, C.q6, e⟩, hw.1, fun i hi => kuf_ne (by omega), N.1.sv.setPrice hb hv⟩))
set_option maxRecDepth 100000 in
set_option maxHeartbeats 40000000 in
theorem K.rises (h : K m s0 c w) : kCtrW mL_rises 13 [.ref 0] w (some (.int (nI (riN s0 12)))) (K m s0 c) := by
  refine kCtrW.of plLw nlL_rises rfl (Nat.le_of_ble_eq_true rfl) (fun n => ?_)
  have loop : ∀ (mm : Nat) (b : Nat) (wi : kM), mm = 12 - b → b ≤ 12 → K m s0 c wi → kW (0, fun _ => 0) mL_rises 13 (fun o' w' n' => o' = .inl (some (.int (nI (riN s0 12)))) ∧ (K m s0 c) w' ∧ n' = n) 0 0 n wi 6 [(0, .ref 0), (1, .int (nI (riN s0 b))), (2, .int (rM s0 b)), (3, .int (nI b))] [] := by
    intro mm
    induction mm using Nat.strongRecOn with
    | _ mm ih =>
      intro b wi hm hb0 H
      refine kw_iload_n (pc := 6) dL_rises_6 rfl ?_
      refine kw_bipush (v := 12) (pc := 7) dL_rises_7 (by decide) ?_
      refine kw_icmp_ge (tgt := 64) (pc := 9) dL_rises_9 (by decide) (fun h9 => ?_) (fun h9 => ?_)
      · have h9 := (kLeI (a := 12) (b := b) (by decide) (by omega) (rfl : (12 : Int32) = nI 12) rfl).mp h9
        obtain rfl : b = 12 := by omega
        refine kw_iload_n (pc := 64) dL_rises_64 rfl ?_
        exact kw_ireturn nlL_rises (pc := 65) dL_rises_65 rfl rfl ⟨rfl, H, rfl⟩
      · have h9 := mt (kLeI (a := 12) (b := b) (by decide) (by omega) (rfl : (12 : Int32) = nI 12) rfl).mpr h9
        have hb : b < 12 := by omega
        have hN := H.ok.1
        obtain ⟨p, -, p2, hp⟩ := bI (lo := 0) (hi := 99) (by decide) (by decide) (hN.2.2.2.1 b hb)
        obtain ⟨R, hR0, hR⟩ := hN.rm b (by omega)
        have hri := riN_le (s := s0) b
        refine kw_aload_n (pc := 12) dL_rises_12 rfl ?_
        refine kw_iload_n (pc := 13) dL_rises_13 rfl ?_
        refine kw_iconst (v := 0) (pc := 14) dL_rises_14 (by decide) ?_
        refine kw_callSw1 (pc := 15) dL_rises_15 lL_92 (H.price hb ⟨by decide, by decide⟩) rfl rfl ⟨by decide, by decide, Nat.le_of_ble_eq_true rfl⟩ (fun w1 hw1 => ?_)
        obtain ⟨s1, H1⟩ := hw1
        obtain ⟨u, hu, HU⟩ := H1.undo
        refine kw_istore (pc := 18) dL_rises_18 (by decide) rfl ?_
        refine kW.locs (L' := [(0, _), (1, _), (2, _), (3, _), (4, _)]) ?_ ⟨rfl, rfl, rfl, rfl, rfl, trivial⟩
        refine kw_aload_n (pc := 20) dL_rises_20 rfl ?_
        refine kw_callSw1 (pc := 21) dL_rises_21 lL_121 HU rfl rfl ⟨by decide, by decide, Nat.le_of_ble_eq_true rfl⟩ (fun w2 H2 => ?_)
        refine kw_istore (pc := 24) dL_rises_24 (by decide) rfl ?_
        refine kW.locs (L' := [(0, _), (1, _), (2, _), (3, _), (4, _), (5, _)]) ?_ ⟨rfl, rfl, rfl, rfl, rfl, rfl, trivial⟩
        refine kw_iload_n (pc := 26) dL_rises_26 rfl ?_
        refine kw_iload (pc := 27) dL_rises_27 rfl ?_
        refine kw_iload_n (pc := 29) dL_rises_29 rfl ?_
        refine kw_icmp_lt (tgt := 42) (pc := 30) dL_rises_30 (by decide) (fun h30 => ?_) (fun h30 => ?_)
        · have h30 := (kLtI (a := p) (b := R) (by omega) (by omega) hp hR).mp h30
          refine kw_iconst (v := 0) (pc := 42) dL_rises_42 (by decide) ?_
          refine kw_iadd (pc := 43) dL_rises_43 ?_
          refine kw_istore_n (pc := 44) dL_rises_44 (by decide) rfl ?_
          refine kW.locs (L' := [(0, _), (1, _), (2, _), (3, _), (4, _)]) ?_ ⟨rfl, rfl, rfl, rfl, rfl, trivial⟩
          refine kw_iload (pc := 45) dL_rises_45 rfl ?_
          refine kw_iload_n (pc := 47) dL_rises_47 rfl ?_
          refine kw_icmp_le (tgt := 56) (pc := 48) dL_rises_48 (by decide) (fun h48 => ?_) (fun h48 => ?_)
          · have h48 := (kLeI (a := p) (b := R) (by omega) (by omega) hp hR).mp h48
            refine kw_iload_n (pc := 56) dL_rises_56 rfl ?_
            refine kw_istore_n (pc := 57) dL_rises_57 (by decide) rfl ?_
            refine kW.locs (L' := [(0, _), (1, _), (2, _), (3, _)]) ?_ ⟨rfl, rfl, rfl, rfl, trivial⟩
            refine kw_iinc (pc := 58) dL_rises_58 (by decide) rfl rfl rfl ?_
            refine kw_goto (tgt := 6) (pc := 61) dL_rises_61 (by decide) ?_
            have e1 : riN s0 (b + 1) = riN s0 b + 0 := congrArg (riN s0 b + ·) (if_pos (by rw [hp, hR]; exact (nI_ltI (by omega) (by omega)).mpr (by omega)))
            have e2 : rM s0 (b + 1) = rM s0 b := if_neg (fun q => by rw [hp, hR] at q; exact absurd ((nI_ltI (by omega) (by omega)).mp q) (by omega))
            exact kW.locs (ih (12 - (b + 1)) (by omega) (b + 1) w2 rfl (by omega) H2) ⟨rfl, kgE rfl ((kA (a := (riN s0 b)) (b := 0) rfl (rfl : (0 : Int32) = nI 0)).trans (congrArg nI e1.symm)), kgE rfl e2.symm, kgE rfl (kA (a := b) (b := 1) rfl (rfl : (Int32.ofInt 1) = nI 1)), trivial⟩
          · have h48 := mt (kLeI (a := p) (b := R) (by omega) (by omega) hp hR).mpr h48
            refine kw_iload (pc := 51) dL_rises_51 rfl ?_
            refine kw_goto (tgt := 57) (pc := 53) dL_rises_53 (by decide) ?_
            refine kw_istore_n (pc := 57) dL_rises_57 (by decide) rfl ?_
            refine kW.locs (L' := [(0, _), (1, _), (2, _), (3, _)]) ?_ ⟨rfl, rfl, rfl, rfl, trivial⟩
            refine kw_iinc (pc := 58) dL_rises_58 (by decide) rfl rfl rfl ?_
            refine kw_goto (tgt := 6) (pc := 61) dL_rises_61 (by decide) ?_
            have e1 : riN s0 (b + 1) = riN s0 b + 0 := congrArg (riN s0 b + ·) (if_pos (by rw [hp, hR]; exact (nI_ltI (by omega) (by omega)).mpr (by omega)))
            have e2 : rM s0 (b + 1) = s0 (4 + b) := if_pos (by rw [hp, hR]; exact (nI_ltI (by omega) (by omega)).mpr (by omega))
            exact kW.locs (ih (12 - (b + 1)) (by omega) (b + 1) w2 rfl (by omega) H2) ⟨rfl, kgE rfl ((kA (a := (riN s0 b)) (b := 0) rfl (rfl : (0 : Int32) = nI 0)).trans (congrArg nI e1.symm)), kgE rfl e2.symm, kgE rfl (kA (a := b) (b := 1) rfl (rfl : (Int32.ofInt 1) = nI 1)), trivial⟩
        · have h30 := mt (kLtI (a := p) (b := R) (by omega) (by omega) hp hR).mpr h30
          refine kw_iload (pc := 33) dL_rises_33 rfl ?_
          refine kw_if_lt (tgt := 42) (pc := 35) dL_rises_35 (by decide) (fun h35 => ?_) (fun h35 => ?_)
          · have h35 := (kLtI (a := u) (b := 0) (by omega) (by decide) rfl (rfl : (0 : Int32) = nI 0)).mp h35
            exfalso; omega
          · have h35 := mt (kLtI (a := u) (b := 0) (by omega) (by decide) rfl (rfl : (0 : Int32) = nI 0)).mpr h35
            refine kw_iconst (v := 1) (pc := 38) dL_rises_38 (by decide) ?_
            refine kw_goto (tgt := 43) (pc := 39) dL_rises_39 (by decide) ?_
            refine kw_iadd (pc := 43) dL_rises_43 ?_
            refine kw_istore_n (pc := 44) dL_rises_44 (by decide) rfl ?_
            refine kW.locs (L' := [(0, _), (1, _), (2, _), (3, _), (4, _)]) ?_ ⟨rfl, rfl, rfl, rfl, rfl, trivial⟩
            refine kw_iload (pc := 45) dL_rises_45 rfl ?_
            refine kw_iload_n (pc := 47) dL_rises_47 rfl ?_
            refine kw_icmp_le (tgt := 56) (pc := 48) dL_rises_48 (by decide) (fun h48 => ?_) (fun h48 => ?_)
            · have h48 := (kLeI (a := p) (b := R) (by omega) (by omega) hp hR).mp h48
              refine kw_iload_n (pc := 56) dL_rises_56 rfl ?_
              refine kw_istore_n (pc := 57) dL_rises_57 (by decide) rfl ?_
              refine kW.locs (L' := [(0, _), (1, _), (2, _), (3, _)]) ?_ ⟨rfl, rfl, rfl, rfl, trivial⟩
              refine kw_iinc (pc := 58) dL_rises_58 (by decide) rfl rfl rfl ?_
              refine kw_goto (tgt := 6) (pc := 61) dL_rises_61 (by decide) ?_
              have e1 : riN s0 (b + 1) = riN s0 b + 1 := congrArg (riN s0 b + ·) (if_neg (fun q => by rw [hp, hR] at q; exact absurd ((nI_ltI (by omega) (by omega)).mp q) (by omega)))
              have e2 : rM s0 (b + 1) = rM s0 b := if_neg (fun q => by rw [hp, hR] at q; exact absurd ((nI_ltI (by omega) (by omega)).mp q) (by omega))
              exact kW.locs (ih (12 - (b + 1)) (by omega) (b + 1) w2 rfl (by omega) H2) ⟨rfl, kgE rfl ((kA (a := (riN s0 b)) (b := 1) rfl (rfl : (1 : Int32) = nI 1)).trans (congrArg nI e1.symm)), kgE rfl e2.symm, kgE rfl (kA (a := b) (b := 1) rfl (rfl : (Int32.ofInt 1) = nI 1)), trivial⟩
            · have h48 := mt (kLeI (a := p) (b := R) (by omega) (by omega) hp hR).mpr h48
              refine kw_iload (pc := 51) dL_rises_51 rfl ?_
              refine kw_goto (tgt := 57) (pc := 53) dL_rises_53 (by decide) ?_
              refine kw_istore_n (pc := 57) dL_rises_57 (by decide) rfl ?_
              refine kW.locs (L' := [(0, _), (1, _), (2, _), (3, _)]) ?_ ⟨rfl, rfl, rfl, rfl, trivial⟩
              refine kw_iinc (pc := 58) dL_rises_58 (by decide) rfl rfl rfl ?_
              refine kw_goto (tgt := 6) (pc := 61) dL_rises_61 (by decide) ?_
              have e1 : riN s0 (b + 1) = riN s0 b + 1 := congrArg (riN s0 b + ·) (if_neg (fun q => by rw [hp, hR] at q; exact absurd ((nI_ltI (by omega) (by omega)).mp q) (by omega)))
              have e2 : rM s0 (b + 1) = s0 (4 + b) := if_pos (by rw [hp, hR]; exact (nI_ltI (by omega) (by omega)).mpr (by omega))
              exact kW.locs (ih (12 - (b + 1)) (by omega) (b + 1) w2 rfl (by omega) H2) ⟨rfl, kgE rfl ((kA (a := (riN s0 b)) (b := 1) rfl (rfl : (1 : Int32) = nI 1)).trans (congrArg nI e1.symm)), kgE rfl e2.symm, kgE rfl (kA (a := b) (b := 1) rfl (rfl : (Int32.ofInt 1) = nI 1)), trivial⟩
  refine kw_iconst (v := 0) (pc := 0) dL_rises_0 (by decide) ?_
  refine kw_istore_n (pc := 1) dL_rises_1 (by decide) rfl ?_
  refine kW.locs (L' := [(0, _), (1, _)]) ?_ ⟨rfl, rfl, trivial⟩
  refine kw_iconst (v := 0) (pc := 2) dL_rises_2 (by decide) ?_
  refine kw_istore_n (pc := 3) dL_rises_3 (by decide) rfl ?_
  refine kW.locs (L' := [(0, _), (1, _), (2, _)]) ?_ ⟨rfl, rfl, rfl, trivial⟩
  refine kw_iconst (v := 0) (pc := 4) dL_rises_4 (by decide) ?_
  refine kw_istore_n (pc := 5) dL_rises_5 (by decide) rfl ?_
  exact kW.locs (loop (12 - 0) 0 w rfl (Nat.zero_le _) h) ⟨rfl, rfl, rfl, rfl, trivial⟩
/-- the band of the length 1 + 49 i -/
def bdL (i : Nat) : Nat := if 49 * i < 600 then 49 * i / 50 else 11
theorem bdL_ok : ∀ i : Nat, i < 21 → bnd (nI (1 + 49 * i)) = nI (bdL i) ∧ bdL i < 12 ∧ (0 < i → bdL (i - 1) ≤ bdL i) ∧ (14 ≤ i → bdL (i - 1) = bdL i) := by decide +kernel
theorem okN.rmM {s : Nat → Int32} {c : Nat} (h : okN s c) : ∀ (d k : Nat), k + d ≤ 12 → ∃ R R', rM s k = nI R ∧ rM s (k + d) = nI R' ∧ R ≤ R' ∧ R' ≤ 99
  | 0, k, hk => by
    obtain ⟨R, r1, r2⟩ := h.rm k (by omega)
    exact ⟨R, R, r2, r2, Nat.le_refl _, r1⟩
  | d + 1, k, hk => by
    obtain ⟨R, R', r1, r2, r3, r4⟩ := okN.rmM h d k (by omega)
    obtain ⟨x, -, x2, x3⟩ := bI (lo := 0) (hi := 99) (by decide) (by decide) (h.2.2.2.1 (k + d) (by omega))
    refine ⟨R, max x R', r1, ?_, by omega, by omega⟩
    show gI (s (4 + (k + d))) (rM s (k + d)) = _
    rw [r2, x3, gI_nI (by omega) (by omega)]
/-- the rate of the length before 1 + 49 i -/
def bfR (s : Nat → Int32) (i : Nat) : Int32 := if i = 0 then 0 else rM s (bdL (i - 1) + 1)
theorem bfR_ok {s : Nat → Int32} {c : Nat} (h : okN s c) {i : Nat} (hi : i < 21) : ∃ b R, bfR s i = nI b ∧ rM s (bdL i + 1) = nI R ∧ b ≤ R ∧ R ≤ 99 ∧ (14 ≤ i → R = b) := by
  obtain ⟨-, b2, b3, b4⟩ := bdL_ok i hi
  unfold bfR
  by_cases e : i = 0
  · rw [if_pos e]
    obtain ⟨R, r1, r2⟩ := h.rm (bdL i + 1) (by omega)
    exact ⟨0, R, rfl, r2, Nat.zero_le _, r1, fun q => by omega⟩
  · rw [if_neg e]
    have g := b3 (by omega)
    obtain ⟨R, R', r1, r2, r3, r4⟩ := h.rmM (bdL i - bdL (i - 1)) (bdL (i - 1) + 1) (by omega)
    rw [show bdL (i - 1) + 1 + (bdL i - bdL (i - 1)) = bdL i + 1 by omega] at r2
    refine ⟨R, R', r1, r2, r3, r4, fun q => ?_⟩
    rw [b4 q, r2] at r1
    exact (nI_eq (by omega) (by omega)).mp r1
set_option maxRecDepth 100000 in
set_option maxHeartbeats 40000000 in
theorem K.rates (h : K m s0 c w) : kCtrW mL_rates 14 [.ref 0] w (some (.int 1)) (K m s0 c) := by
  refine kCtrW.of plLw nlL_rates rfl (Nat.le_of_ble_eq_true rfl) (fun n => ?_)
  have N0 := h.ok.1
  have loop : ∀ (mm : Nat) (i : Nat), mm = 21 - i → i ≤ 21 → kW (0, fun _ => 0) mL_rates 14 (fun o' w' n' => o' = .inl (some (.int 1)) ∧ (K m s0 c) w' ∧ n' = n) 0 0 n w 4 [(0, .ref 0), (1, .int (bfR s0 i)), (2, .int (nI (1 + 49 * i)))] [] := by
    intro mm
    induction mm using Nat.strongRecOn with
    | _ mm ih =>
      intro i hm hi0
      refine kw_iload_n (pc := 4) dL_rates_4 rfl ?_
      refine kw_sipush (v := 1000) (pc := 5) dL_rates_5 (by decide) ?_
      refine kw_icmp_ge (tgt := 62) (pc := 8) dL_rates_8 (by decide) (fun h8 => ?_) (fun h8 => ?_)
      · have h8 := (kLeI (a := 1000) (b := (1 + 49 * i)) (by decide) (by omega) (rfl : (1000 : Int32) = nI 1000) rfl).mp h8
        obtain ⟨lo, hlo, hlr⟩ := low_ri (s := s0) 12
        refine kw_aload_n (pc := 62) dL_rates_62 rfl ?_
        refine kw_bipush (v := 8) (pc := 63) dL_rates_63 (by decide) ?_
        refine kw_callSr (pc := 65) dL_rates_65 lL_98 (V0.countE (j := 8) h.v (rfl : (8 : Int32) = nI 8) (by decide)) rfl rfl ⟨by decide, by decide, Nat.le_of_ble_eq_true rfl⟩ ?_
        refine kw_if_le (tgt := 75) (pc := 68) dL_rates_68 (by decide) (fun h68 => ?_) (fun h68 => ?_)
        · have h68 := (kLeI (a := lo) (b := 0) (by omega) (by decide) hlo (rfl : (0 : Int32) = nI 0)).mp h68
          refine kw_iconst (v := 0) (pc := 75) dL_rates_75 (by decide) ?_
          refine kw_aload_n (pc := 76) dL_rates_76 rfl ?_
          refine kw_callSw1 (pc := 77) dL_rates_77 lL_117 h.rises rfl rfl ⟨by decide, by decide, Nat.le_of_ble_eq_true rfl⟩ (fun w2 H2 => ?_)
          refine kw_bipush (v := 12) (pc := 80) dL_rates_80 (by decide) ?_
          refine kw_icmp_ge (tgt := 89) (pc := 82) dL_rates_82 (by decide) (fun h82 => ?_) (fun h82 => ?_)
          · have h82 := (kLeI (a := 12) (b := (riN s0 12)) (by decide) (by omega) (rfl : (12 : Int32) = nI 12) rfl).mp h82
            refine kw_iconst (v := 0) (pc := 89) dL_rates_89 (by decide) ?_
            refine kw_icmp_ne (tgt := 97) (pc := 90) dL_rates_90 (by decide) (fun h90 => ?_) (fun h90 => ?_)
            · exact absurd (by decide) h90
            · refine kw_iconst (v := 1) (pc := 93) dL_rates_93 (by decide) ?_
              refine kw_goto (tgt := 98) (pc := 94) dL_rates_94 (by decide) ?_
              exact kw_ireturn nlL_rates (pc := 98) dL_rates_98 rfl (by first | rfl | exact b2i_z _ | exact hbool) ⟨rfl, H2, rfl⟩
          · have h82 := mt (kLeI (a := 12) (b := (riN s0 12)) (by decide) (by omega) (rfl : (12 : Int32) = nI 12) rfl).mpr h82
            refine kw_iconst (v := 1) (pc := 85) dL_rates_85 (by decide) ?_
            refine kw_goto (tgt := 90) (pc := 86) dL_rates_86 (by decide) ?_
            refine kw_icmp_ne (tgt := 97) (pc := 90) dL_rates_90 (by decide) (fun h90 => ?_) (fun h90 => ?_)
            · exfalso; omega
            · exact absurd h90 (by decide)
        · have h68 := mt (kLeI (a := lo) (b := 0) (by omega) (by decide) hlo (rfl : (0 : Int32) = nI 0)).mpr h68
          refine kw_iconst (v := 1) (pc := 71) dL_rates_71 (by decide) ?_
          refine kw_goto (tgt := 76) (pc := 72) dL_rates_72 (by decide) ?_
          refine kw_aload_n (pc := 76) dL_rates_76 rfl ?_
          refine kw_callSw1 (pc := 77) dL_rates_77 lL_117 h.rises rfl rfl ⟨by decide, by decide, Nat.le_of_ble_eq_true rfl⟩ (fun w2 H2 => ?_)
          refine kw_bipush (v := 12) (pc := 80) dL_rates_80 (by decide) ?_
          refine kw_icmp_ge (tgt := 89) (pc := 82) dL_rates_82 (by decide) (fun h82 => ?_) (fun h82 => ?_)
          · have h82 := (kLeI (a := 12) (b := (riN s0 12)) (by decide) (by omega) (rfl : (12 : Int32) = nI 12) rfl).mp h82
            refine kw_iconst (v := 0) (pc := 89) dL_rates_89 (by decide) ?_
            refine kw_icmp_ne (tgt := 97) (pc := 90) dL_rates_90 (by decide) (fun h90 => ?_) (fun h90 => ?_)
            · exfalso; omega
            · exact absurd h90 (by decide)
          · have h82 := mt (kLeI (a := 12) (b := (riN s0 12)) (by decide) (by omega) (rfl : (12 : Int32) = nI 12) rfl).mpr h82
            refine kw_iconst (v := 1) (pc := 85) dL_rates_85 (by decide) ?_
            refine kw_goto (tgt := 90) (pc := 86) dL_rates_86 (by decide) ?_
            refine kw_icmp_ne (tgt := 97) (pc := 90) dL_rates_90 (by decide) (fun h90 => ?_) (fun h90 => ?_)
            · exact absurd (by decide) h90
            · refine kw_iconst (v := 1) (pc := 93) dL_rates_93 (by decide) ?_
              refine kw_goto (tgt := 98) (pc := 94) dL_rates_94 (by decide) ?_
              exact kw_ireturn nlL_rates (pc := 98) dL_rates_98 rfl (by first | rfl | exact b2i_z _ | exact hbool) ⟨rfl, H2, rfl⟩
      · have h8 := mt (kLeI (a := 1000) (b := (1 + 49 * i)) (by decide) (by omega) (rfl : (1000 : Int32) = nI 1000) rfl).mpr h8
        have hi : i < 21 := by omega
        obtain ⟨b, R, hb, hR, h1, h2, h3⟩ := bfR_ok N0 hi
        obtain ⟨hbd, hB, -⟩ := bdL_ok i hi
        have hz : 1 ≤ nI (1 + 49 * i) ∧ nI (1 + 49 * i) ≤ 999 := ⟨nI_le (a := 1) (by omega) (by omega), nI_le (b := 999) (by omega) (by decide)⟩
        refine kw_aload_n (pc := 11) dL_rates_11 rfl ?_
        refine kw_iload_n (pc := 12) dL_rates_12 rfl ?_
        refine kw_iconst (v := 0) (pc := 13) dL_rates_13 (by decide) ?_
        refine kw_callSr (pc := 14) dL_rates_14 lL_104 (h.v.rate0 hz hbd hB) rfl rfl ⟨by decide, by decide, Nat.le_of_ble_eq_true rfl⟩ ?_
        refine kw_istore_n (pc := 17) dL_rates_17 (by decide) rfl ?_
        refine kW.locs (L' := [(0, _), (1, _), (2, _), (3, _)]) ?_ ⟨rfl, rfl, rfl, rfl, trivial⟩
        refine kw_iload_n (pc := 18) dL_rates_18 rfl ?_
        refine kw_iload_n (pc := 19) dL_rates_19 rfl ?_
        refine kw_icmp_lt (tgt := 52) (pc := 20) dL_rates_20 (by decide) (fun h20 => ?_) (fun h20 => ?_)
        · have h20 := (kLtI (a := R) (b := b) (by omega) (by omega) hR hb).mp h20
          exfalso; omega
        · have h20 := mt (kLtI (a := R) (b := b) (by omega) (by omega) hR hb).mpr h20
          refine kw_iload_n (pc := 23) dL_rates_23 rfl ?_
          refine kw_aload_n (pc := 24) dL_rates_24 rfl ?_
          refine kw_iload_n (pc := 25) dL_rates_25 rfl ?_
          refine kw_iconst (v := 1) (pc := 26) dL_rates_26 (by decide) ?_
          refine kw_callSr (pc := 27) dL_rates_27 lL_104 (h.v.rate1 hz hbd hB) rfl rfl ⟨by decide, by decide, Nat.le_of_ble_eq_true rfl⟩ ?_
          refine kw_icmp_ne (tgt := 52) (pc := 30) dL_rates_30 (by decide) (fun h30 => ?_) (fun h30 => ?_)
          · have h30 := mt (kEqI (a := R) (b := R) (by omega) (by omega) hR hR).mpr h30
            exfalso; omega
          · have h30 := (kEqI (a := R) (b := R) (by omega) (by omega) hR hR).mp h30
            refine kw_iload_n (pc := 33) dL_rates_33 rfl ?_
            refine kw_sipush (v := 600) (pc := 34) dL_rates_34 (by decide) ?_
            refine kw_icmp_le (tgt := 54) (pc := 37) dL_rates_37 (by decide) (fun h37 => ?_) (fun h37 => ?_)
            · have h37 := (kLeI (a := (1 + 49 * i)) (b := 600) (by omega) (by decide) rfl (rfl : (600 : Int32) = nI 600)).mp h37
              refine kw_iload_n (pc := 54) dL_rates_54 rfl ?_
              refine kw_istore_n (pc := 55) dL_rates_55 (by decide) rfl ?_
              refine kW.locs (L' := [(0, _), (1, _), (2, _)]) ?_ ⟨rfl, rfl, rfl, trivial⟩
              refine kw_iinc (pc := 56) dL_rates_56 (by decide) rfl rfl rfl ?_
              refine kw_goto (tgt := 4) (pc := 59) dL_rates_59 (by decide) ?_
              exact kW.locs (ih (21 - (i + 1)) (by omega) (i + 1) rfl (by omega)) ⟨rfl, kgE rfl (show rM s0 (bdL i + 1) = bfR s0 (i + 1) from rfl), kgE rfl ((kA (a := (1 + 49 * i)) (b := 49) rfl (rfl : (Int32.ofInt 49) = nI 49)).trans (congrArg nI (by omega))), trivial⟩
            · have h37 := mt (kLeI (a := (1 + 49 * i)) (b := 600) (by omega) (by decide) rfl (rfl : (600 : Int32) = nI 600)).mpr h37
              refine kw_iload_n (pc := 40) dL_rates_40 rfl ?_
              refine kw_iload_n (pc := 41) dL_rates_41 rfl ?_
              refine kw_icmp_eq (tgt := 54) (pc := 42) dL_rates_42 (by decide) (fun h42 => ?_) (fun h42 => ?_)
              · have h42 := (kEqI (a := R) (b := b) (by omega) (by omega) hR hb).mp h42
                refine kw_iload_n (pc := 54) dL_rates_54 rfl ?_
                refine kw_istore_n (pc := 55) dL_rates_55 (by decide) rfl ?_
                refine kW.locs (L' := [(0, _), (1, _), (2, _)]) ?_ ⟨rfl, rfl, rfl, trivial⟩
                refine kw_iinc (pc := 56) dL_rates_56 (by decide) rfl rfl rfl ?_
                refine kw_goto (tgt := 4) (pc := 59) dL_rates_59 (by decide) ?_
                exact kW.locs (ih (21 - (i + 1)) (by omega) (i + 1) rfl (by omega)) ⟨rfl, kgE rfl (show rM s0 (bdL i + 1) = bfR s0 (i + 1) from rfl), kgE rfl ((kA (a := (1 + 49 * i)) (b := 49) rfl (rfl : (Int32.ofInt 49) = nI 49)).trans (congrArg nI (by omega))), trivial⟩
              · have h42 := mt (kEqI (a := R) (b := b) (by omega) (by omega) hR hb).mpr h42
                refine kw_iload_n (pc := 45) dL_rates_45 rfl ?_
                refine kw_sipush (v := 650) (pc := 46) dL_rates_46 (by decide) ?_
                refine kw_icmp_le (tgt := 54) (pc := 49) dL_rates_49 (by decide) (fun h49 => ?_) (fun h49 => ?_)
                · have h49 := (kLeI (a := (1 + 49 * i)) (b := 650) (by omega) (by decide) rfl (rfl : (650 : Int32) = nI 650)).mp h49
                  refine kw_iload_n (pc := 54) dL_rates_54 rfl ?_
                  refine kw_istore_n (pc := 55) dL_rates_55 (by decide) rfl ?_
                  refine kW.locs (L' := [(0, _), (1, _), (2, _)]) ?_ ⟨rfl, rfl, rfl, trivial⟩
                  refine kw_iinc (pc := 56) dL_rates_56 (by decide) rfl rfl rfl ?_
                  refine kw_goto (tgt := 4) (pc := 59) dL_rates_59 (by decide) ?_
                  exact kW.locs (ih (21 - (i + 1)) (by omega) (i + 1) rfl (by omega)) ⟨rfl, kgE rfl (show rM s0 (bdL i + 1) = bfR s0 (i + 1) from rfl), kgE rfl ((kA (a := (1 + 49 * i)) (b := 49) rfl (rfl : (Int32.ofInt 49) = nI 49)).trans (congrArg nI (by omega))), trivial⟩
                · have h49 := mt (kLeI (a := (1 + 49 * i)) (b := 650) (by omega) (by decide) rfl (rfl : (650 : Int32) = nI 650)).mpr h49
                  exfalso; omega
  refine kw_iconst (v := 0) (pc := 0) dL_rates_0 (by decide) ?_
  refine kw_istore_n (pc := 1) dL_rates_1 (by decide) rfl ?_
  refine kW.locs (L' := [(0, _), (1, _)]) ?_ ⟨rfl, rfl, trivial⟩
  refine kw_iconst (v := 1) (pc := 2) dL_rates_2 (by decide) ?_
  refine kw_istore_n (pc := 3) dL_rates_3 (by decide) rfl ?_
  exact kW.locs (loop (21 - 0) 0 rfl (Nat.zero_le _)) ⟨rfl, rfl, rfl, trivial⟩
end LK
