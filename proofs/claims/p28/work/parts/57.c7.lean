theorem kup_at {w w1 : kM} {a : Nat} {c : kC} (h : w1 = kup w a c) : w1 a = c := by rw [h]; exact kup_self _ _ _
section KI
variable {X : Nat × (Nat → Int32)} {M : kMi} {dd : Nat} {Q : kQ} {rc rs n : Nat} {w : kM} {L : List (Nat × Value)}
/-- a constructor that makes mc cells, as far as nn -/
def kCtrI (M : kMi) (d mc ms : Nat) (As : List Value) (w : kM) (n nn : Nat) (P : kM → Prop) : Prop := kCtr M d mc ms As w n (fun o w' n' => o = .inl none ∧ P w' ∧ n' = nn)
theorem kw_callNi {My : kMi} {host : String} {dy mc ms pc idx o k nn : Nat} {As rest st0 : List Value} {P : kM → Prop} (d : decode M.2.1 pc = .ok (.invokespecial idx, 3)) (hl0 : kLN M.1.cls idx My host k) (hC : kCtrI My dy mc ms (.ref o :: As) w n nn P) {ci : Nat} {F : Nat → Value} (ho : w o = kO ci F) (hst : st0 = As.reverse ++ .ref o :: rest) (hk : As.length = k)
    (hroom : dy + 1 ≤ dd ∧ My.2.2.1 ≤ 40 ∧ (rest.map fun v => v.category).sum ≤ 8 ∧ mc ≤ rc ∧ ms ≤ rs)
    (kk : ∀ (w' : kM), P w' → kW X M dd Q (rc - mc) (rs - ms) nn w' (pc + 3) L rest) : kW X M dd Q rc rs n w pc L st0 := by
  refine kw_callN d hl0 hC (fun E w' n' h => by cases h.1) ho hst hk hroom (fun v' w' n' h => ?_)
  obtain ⟨h1, h2, rfl⟩ := h
  cases h1
  exact kk w' h2
theorem kw_callIi {My : kMi} {dy mc ms pc idx o k nn : Nat} {As rest st0 : List Value} {P : kM → Prop} (d : decode M.2.1 pc = .ok (.invokespecial idx, 3)) (hl0 : kLI M.1.cls idx My k) (hC : kCtrI My dy mc ms (.ref o :: As) w n nn P) {ci : Nat} {F : Nat → Value} (ho : w o = kO ci F) (hst : st0 = As.reverse ++ .ref o :: rest) (hk : As.length = k)
    (hroom : dy + 1 ≤ dd ∧ My.2.2.1 ≤ 40 ∧ (rest.map fun v => v.category).sum ≤ 8 ∧ mc ≤ rc ∧ ms ≤ rs)
    (kk : ∀ (w' : kM), P w' → kW X M dd Q (rc - mc) (rs - ms) nn w' (pc + 3) L rest) : kW X M dd Q rc rs n w pc L st0 := by
  refine kw_callI d hl0 hC (fun E w' n' h => by cases h.1) ho hst hk hroom (fun v' w' n' h => ?_)
  obtain ⟨h1, h2, rfl⟩ := h
  cases h1
  exact kk w' h2
end KI
/-- a new parcel's fields; a new office's -/
def tyP : Nat → FieldType := fun k => if k < 7 then .int else .object ""
theorem tyP_ok : ∀ k, k < 7 → parseFieldDescriptor (TX2 k).2.2.1 = some (tyP k) := by decide +kernel
theorem tyP_F : (fun k => defaultValue (tyP k)) = pF z0 := by
  funext k
  unfold tyP pF
  split <;> rfl
def tyO : Nat → FieldType := fun k => match k with
  | 0 => .array (.object "StringRates$Parcel")
  | 1 => .array .int
  | 2 => .array .int
  | 3 => .array .int
  | 4 => .int
  | 5 => .int
  | 6 => .int
  | 7 => .int
  | 8 => .int
  | 9 => .int
  | _ => .object ""
theorem tyO_ok : ∀ k, k < 10 → parseFieldDescriptor (TX1 k).2.2.1 = some (tyO k) := by decide +kernel
def oF0 : Nat → Value := fun k => defaultValue (tyO k)
theorem oF0_s {o : Nat} : kuF (kuF (kuF (kuF oF0 0 (.ref (o + 1))) 1 (.ref (o + 1 + 1))) 2 (.ref (o + 1 + 1 + 1))) 3 (.ref (o + 1 + 1 + 1 + 1)) = oF o z0 := by
  funext j
  match j with
  | 0 => rfl
  | 1 => rfl
  | 2 => rfl
  | 3 => rfl
  | 4 => rfl
  | 5 => rfl
  | 6 => rfl
  | 7 => rfl
  | 8 => rfl
  | 9 => rfl
  | z + 10 => simp [kuF, oF, oF0, tyO, defaultValue]
def gN (i : Nat) (f : Nat → Int32) : Nat → Int32 := tr i f
theorem gN_s {i : Nat} {f : Nat → Int32} {x : Int32} (h : x = f i) : kuf (tr i f) i x = tr (i + 1) f := by
  subst h
  funext j
  unfold kuf tr
  by_cases h1 : j = i
  · rw [if_pos h1, if_pos (by omega), h1]
  · rw [if_neg h1]
    by_cases h2 : j < i
    · rw [if_pos h2, if_pos (by omega)]
    · rw [if_neg h2, if_neg (by omega)]
theorem gN_0 {f : Nat → Int32} : tr 0 f = fun _ => 0 := by
  funext j
  exact if_neg (by omega)
theorem tvN_s {i : Nat} {f : Nat → Value} {x : Value} (h : x = f i) : kuF (tv i f) i x = tv (i + 1) f := by
  subst h
  funext j
  unfold kuF tv
  by_cases h1 : j = i
  · rw [if_pos h1, if_pos (by omega), h1]
  · rw [if_neg h1]
    by_cases h2 : j < i
    · rw [if_pos h2, if_pos (by omega)]
    · rw [if_neg h2, if_neg (by omega)]
theorem tvN_0 {f : Nat → Value} : tv 0 f = fun _ => .null := by
  funext j
  exact if_neg (by omega)
theorem iniS_pr {j : Nat} (h : j < 12) : iniS (4 + j) = nI (5 * j + 5) := by
  unfold iniS iniZ iniB
  rw [if_neg (by omega), if_neg (by omega), if_neg (by omega), if_neg (by omega), if_neg (by omega), if_pos (by omega), show 4 + j - 4 = j by omega]
theorem iniS_fa {j : Nat} (h : j < 4) : iniS (16 + j) = nI (j + 1) := by
  unfold iniS iniZ
  rw [if_pos (by omega), show 16 + j - 16 = j by omega]
theorem iniS_se {j : Nat} (h : j < 4) : iniS j = ([5, 150, 2, 10] : List Int32).getD j 0 := by
  match j, h with
  | 0, _ => rfl
  | 1, _ => rfl
  | 2, _ => rfl
  | 3, _ => rfl
theorem iniS_hi {i : Nat} (h : 20 ≤ i) : iniS i = 0 := by
  unfold iniS iniZ iniB
  rw [if_neg (by omega), if_neg (by omega), if_neg (by omega), if_neg (by omega), if_neg (by omega), if_neg (by omega)]
set_option maxRecDepth 100000 in
set_option maxHeartbeats 4000000 in
theorem c2_init {w : kM} {n p : Nat} : kCtrI mX2_init 1 0 0 [.ref p] w n n (fun w' => w' = w) := by
  refine kCtr.of (X := (0, fun _ => 0)) pl2 nlX2_init rfl (Nat.le_of_ble_eq_true rfl) ?_
  refine kw_aload_n (pc := 0) dX2_init_0 rfl ?_
  refine kw_objInit (pc := 1) dX2_init_1 lX2_3 koi1 koi2 (by decide) (Nat.le_of_ble_eq_true rfl) ?_
  exact kw_return nlX2_init (pc := 4) dX2_init_4 rfl ⟨rfl, rfl, rfl⟩
theorem oF_ini {o : Nat} : oF o z0 = oF o iniS := by
  unfold oF
  rw [iniS_hi (by decide), iniS_hi (by decide), iniS_hi (by decide), iniS_hi (by decide), iniS_hi (by decide), iniS_hi (by decide)]
set_option maxRecDepth 100000 in
set_option maxHeartbeats 4000000 in
theorem c1_init {w : kM} {o : Nat} (h0 : w o = kO 1 oF0) : kCtrI mX1_init 2 11 76 [.ref o] w (o + 1) (o + 12) (fun w' => offP w' o iniS 0 (fun j => j) ∧ ∀ a, (a < o ∨ o + 12 ≤ a) → w' a = w a) := by
  refine kCtr.of (X := (0, fun _ => 0)) pl1 nlX1_init rfl (Nat.le_of_ble_eq_true rfl) ?_
  have loop4 : ∀ (m i : Nat) (wi : kM), m = 4 - i → i ≤ 4 → wi o = kO 1 (oF o z0) → wi (o + 1) = kV 5 7 (tv 7 (fun j => .ref (o + 5 + j))) → wi (o + 2) = (kI 0 12 (tr 12 (fun j => nI (5 * j + 5)))) → wi (o + 3) = (kI 0 4 (tr 4 (fun j => nI (j + 1)))) → wi (o + 4) = (kI 0 4 (tr i (fun j => ([5, 150, 2, 10] : List Int32).getD j 0))) → (∀ j, j < 7 → wi (o + 5 + j) = kO 2 (pF z0)) → (∀ a, (a < o ∨ o + 12 ≤ a) → wi a = w a) → kW (0, fun _ => 0) mX1_init 2 (fun o' w' n' => o' = .inl none ∧ (fun w' => offP w' o iniS 0 (fun j => j) ∧ ∀ a, (a < o ∨ o + 12 ≤ a) → w' a = w a) w' ∧ n' = o + 12) 0 0 (o + 12) wi 121 [(0, .ref o), (1, .int (nI i))] [] := by
    intro m
    induction m using Nat.strongRecOn with
    | _ m ih =>
      intro i wi hm hi hob hps gp gf gs hpl hfr
      refine kw_iload_n (pc := 121) dX1_init_121 rfl ?_
      refine kw_aload_n (pc := 122) dX1_init_122 rfl ?_
      refine kw_getfield (pc := 123) kfw dX1_init_123 fX1_24 hob rfl ?_
      refine kw_alenI (pc := 126) (v := 4) dX1_init_126 gs rfl ?_
      refine kw_icmp_ge (tgt := 155) (pc := 127) dX1_init_127 (by decide) (fun h127 => ?_) (fun h127 => ?_)
      · have h127 := (kLeI (a := 4) (b := i) (by omega) (by omega) (rfl : (4 : Int32) = nI 4) rfl).mp h127
        exact kw_return nlX1_init (pc := 155) dX1_init_155 rfl ⟨rfl, ⟨⟨hob.trans (congrArg (kO 1) oF_ini), hps, gp.trans (congrArg (kI 0 12) (tr_eq fun j hj => (iniS_pr hj).symm)), gf.trans (congrArg (kI 0 4) (tr_eq fun j hj => (iniS_fa hj).symm)), (by rw [show i = 4 by omega] at gs; exact gs.trans (congrArg (kI 0 4) (tr_eq fun j hj => (iniS_se hj).symm))), fun k hk => hk, fun _ _ _ _ e => e, fun k hk => absurd hk (Nat.not_lt_zero k), fun k hk => ⟨_, hpl k hk⟩, iniS_hi (by decide), by decide⟩, hfr⟩, rfl⟩
      · have h127 := mt (kLeI (a := 4) (b := i) (by omega) (by omega) (rfl : (4 : Int32) = nI 4) rfl).mpr h127
        refine kw_iload_n (pc := 130) dX1_init_130 rfl ?_
        refine kw_getstaticN (pc := 131) (i := 0) (host := "StringRates") dX1_init_131 rfl rfl (List.mem_cons_of_mem _ List.mem_cons_self) ?_
        refine kw_alenS (pc := 134) (i := 0) (v := 4) dX1_init_134 rfl rfl rfl ?_
        refine kw_icmp_ge (tgt := 155) (pc := 135) dX1_init_135 (by decide) (fun h135 => ?_) (fun h135 => ?_)
        · have h135 := (kLeI (a := 4) (b := i) (by omega) (by omega) (rfl : (4 : Int32) = nI 4) rfl).mp h135
          exfalso; omega
        · have h135 := mt (kLeI (a := 4) (b := i) (by omega) (by omega) (rfl : (4 : Int32) = nI 4) rfl).mpr h135
          refine kw_aload_n (pc := 138) dX1_init_138 rfl ?_
          refine kw_getfield (pc := 139) kfw dX1_init_139 fX1_24 hob rfl ?_
          refine kw_iload_n (pc := 142) dX1_init_142 rfl ?_
          refine kw_getstaticN (pc := 143) (i := 0) (host := "StringRates") dX1_init_143 rfl rfl (List.mem_cons_of_mem _ List.mem_cons_self) ?_
          refine kw_iload_n (pc := 146) dX1_init_146 rfl ?_
          refine kw_ialoadS (pc := 147) (i := 0) dX1_init_147 rfl rfl rfl (vp_in_nI (show i < 4 by omega) (by decide)) ?_
          refine kw_iastoreN (pc := 148) (i := i) dX1_init_148 gs rfl (by omega) (by decide) (kgen (fun w1 hw1 => ?_))
          rw [gN_s (i := i) (f := fun j => ([5, 150, 2, 10] : List Int32).getD j 0) (by rw [nI_clamp (by omega)])] at hw1
          refine kw_iinc (pc := 149) dX1_init_149 (by decide) rfl rfl rfl ?_
          refine kw_goto (tgt := 121) (pc := 152) dX1_init_152 (by decide) ?_
          have nw : ∀ a, a ≠ o + 4 → w1 a = wi a := fun a h => by rw [hw1]; exact kup_ne h
          have hob1 := (nw _ (by omega)).trans hob
          have hps1 := (nw _ (by omega)).trans hps
          have gp1 := (nw _ (by omega)).trans gp
          have gf1 := (nw _ (by omega)).trans gf
          have gs1 := kup_at hw1
          have hpl1 : ∀ j, j < 7 → w1 (o + 5 + j) = kO 2 (pF z0) := fun j hj => (nw _ (by omega)).trans (hpl j hj)
          have hfr1 : ∀ a, (a < o ∨ o + 12 ≤ a) → w1 a = w a := fun a h => (nw _ (by omega)).trans (hfr a h)
          exact kW.locs (ih (4 - (i + 1)) (by omega) (i + 1) w1 rfl (by omega) hob1 hps1 gp1 gf1 gs1 hpl1 hfr1) ⟨rfl, kgE rfl (kA (a := i) (b := 1) rfl (rfl : (Int32.ofInt 1) = nI 1)), trivial⟩
  have loop3 : ∀ (m i : Nat) (wi : kM), m = 4 - i → i ≤ 4 → wi o = kO 1 (oF o z0) → wi (o + 1) = kV 5 7 (tv 7 (fun j => .ref (o + 5 + j))) → wi (o + 2) = (kI 0 12 (tr 12 (fun j => nI (5 * j + 5)))) → wi (o + 3) = (kI 0 4 (tr i (fun j => nI (j + 1)))) → wi (o + 4) = kI 0 4 (fun _ => 0) → (∀ j, j < 7 → wi (o + 5 + j) = kO 2 (pF z0)) → (∀ a, (a < o ∨ o + 12 ≤ a) → wi a = w a) → kW (0, fun _ => 0) mX1_init 2 (fun o' w' n' => o' = .inl none ∧ (fun w' => offP w' o iniS 0 (fun j => j) ∧ ∀ a, (a < o ∨ o + 12 ≤ a) → w' a = w a) w' ∧ n' = o + 12) 0 0 (o + 12) wi 95 [(0, .ref o), (1, .int (nI i))] [] := by
    intro m
    induction m using Nat.strongRecOn with
    | _ m ih =>
      intro i wi hm hi hob hps gp gf gs hpl hfr
      refine kw_iload_n (pc := 95) dX1_init_95 rfl ?_
      refine kw_aload_n (pc := 96) dX1_init_96 rfl ?_
      refine kw_getfield (pc := 97) kfw dX1_init_97 fX1_21 hob rfl ?_
      refine kw_alenI (pc := 100) (v := 4) dX1_init_100 gf rfl ?_
      refine kw_icmp_ge (tgt := 119) (pc := 101) dX1_init_101 (by decide) (fun h101 => ?_) (fun h101 => ?_)
      · have h101 := (kLeI (a := 4) (b := i) (by omega) (by omega) (rfl : (4 : Int32) = nI 4) rfl).mp h101
        refine kw_iconst (v := 0) (pc := 119) dX1_init_119 (by decide) ?_
        refine kw_istore_n (pc := 120) dX1_init_120 (by decide) rfl ?_
        exact kW.locs (loop4 (4 - 0) 0 wi rfl (by omega) hob hps gp (by rw [show i = 4 by omega] at gf; exact gf) (by rw [gN_0]; exact gs) hpl hfr) ⟨rfl, rfl, trivial⟩
      · have h101 := mt (kLeI (a := 4) (b := i) (by omega) (by omega) (rfl : (4 : Int32) = nI 4) rfl).mpr h101
        refine kw_aload_n (pc := 104) dX1_init_104 rfl ?_
        refine kw_getfield (pc := 105) kfw dX1_init_105 fX1_21 hob rfl ?_
        refine kw_iload_n (pc := 108) dX1_init_108 rfl ?_
        refine kw_iload_n (pc := 109) dX1_init_109 rfl ?_
        refine kw_iconst (v := 1) (pc := 110) dX1_init_110 (by decide) ?_
        refine kw_iadd (pc := 111) dX1_init_111 ?_
        refine kw_iastoreN (pc := 112) (i := i) dX1_init_112 gf rfl (by omega) (by decide) (kgen (fun w1 hw1 => ?_))
        rw [gN_s (i := i) (f := fun j => nI (j + 1)) (kA (a := i) (b := 1) rfl (rfl : (1 : Int32) = nI 1))] at hw1
        refine kw_iinc (pc := 113) dX1_init_113 (by decide) rfl rfl rfl ?_
        refine kw_goto (tgt := 95) (pc := 116) dX1_init_116 (by decide) ?_
        have nw : ∀ a, a ≠ o + 3 → w1 a = wi a := fun a h => by rw [hw1]; exact kup_ne h
        have hob1 := (nw _ (by omega)).trans hob
        have hps1 := (nw _ (by omega)).trans hps
        have gp1 := (nw _ (by omega)).trans gp
        have gf1 := kup_at hw1
        have gs1 := (nw _ (by omega)).trans gs
        have hpl1 : ∀ j, j < 7 → w1 (o + 5 + j) = kO 2 (pF z0) := fun j hj => (nw _ (by omega)).trans (hpl j hj)
        have hfr1 : ∀ a, (a < o ∨ o + 12 ≤ a) → w1 a = w a := fun a h => (nw _ (by omega)).trans (hfr a h)
        exact kW.locs (ih (4 - (i + 1)) (by omega) (i + 1) w1 rfl (by omega) hob1 hps1 gp1 gf1 gs1 hpl1 hfr1) ⟨rfl, kgE rfl (kA (a := i) (b := 1) rfl (rfl : (Int32.ofInt 1) = nI 1)), trivial⟩
  have loop2 : ∀ (m i : Nat) (wi : kM), m = 12 - i → i ≤ 12 → wi o = kO 1 (oF o z0) → wi (o + 1) = kV 5 7 (tv 7 (fun j => .ref (o + 5 + j))) → wi (o + 2) = (kI 0 12 (tr i (fun j => nI (5 * j + 5)))) → wi (o + 3) = kI 0 4 (fun _ => 0) → wi (o + 4) = kI 0 4 (fun _ => 0) → (∀ j, j < 7 → wi (o + 5 + j) = kO 2 (pF z0)) → (∀ a, (a < o ∨ o + 12 ≤ a) → wi a = w a) → kW (0, fun _ => 0) mX1_init 2 (fun o' w' n' => o' = .inl none ∧ (fun w' => offP w' o iniS 0 (fun j => j) ∧ ∀ a, (a < o ∨ o + 12 ≤ a) → w' a = w a) w' ∧ n' = o + 12) 0 0 (o + 12) wi 67 [(0, .ref o), (1, .int (nI i))] [] := by
    intro m
    induction m using Nat.strongRecOn with
    | _ m ih =>
      intro i wi hm hi hob hps gp gf gs hpl hfr
      refine kw_iload_n (pc := 67) dX1_init_67 rfl ?_
      refine kw_aload_n (pc := 68) dX1_init_68 rfl ?_
      refine kw_getfield (pc := 69) kfw dX1_init_69 fX1_17 hob rfl ?_
      refine kw_alenI (pc := 72) (v := 12) dX1_init_72 gp rfl ?_
      refine kw_icmp_ge (tgt := 93) (pc := 73) dX1_init_73 (by decide) (fun h73 => ?_) (fun h73 => ?_)
      · have h73 := (kLeI (a := 12) (b := i) (by omega) (by omega) (rfl : (12 : Int32) = nI 12) rfl).mp h73
        refine kw_iconst (v := 0) (pc := 93) dX1_init_93 (by decide) ?_
        refine kw_istore_n (pc := 94) dX1_init_94 (by decide) rfl ?_
        exact kW.locs (loop3 (4 - 0) 0 wi rfl (by omega) hob hps (by rw [show i = 12 by omega] at gp; exact gp) (by rw [gN_0]; exact gf) gs hpl hfr) ⟨rfl, rfl, trivial⟩
      · have h73 := mt (kLeI (a := 12) (b := i) (by omega) (by omega) (rfl : (12 : Int32) = nI 12) rfl).mpr h73
        refine kw_aload_n (pc := 76) dX1_init_76 rfl ?_
        refine kw_getfield (pc := 77) kfw dX1_init_77 fX1_17 hob rfl ?_
        refine kw_iload_n (pc := 80) dX1_init_80 rfl ?_
        refine kw_iconst (v := 5) (pc := 81) dX1_init_81 (by decide) ?_
        refine kw_iload_n (pc := 82) dX1_init_82 rfl ?_
        refine kw_imul (pc := 83) dX1_init_83 ?_
        refine kw_iconst (v := 5) (pc := 84) dX1_init_84 (by decide) ?_
        refine kw_iadd (pc := 85) dX1_init_85 ?_
        refine kw_iastoreN (pc := 86) (i := i) dX1_init_86 gp rfl (by omega) (by decide) (kgen (fun w1 hw1 => ?_))
        rw [gN_s (i := i) (f := fun j => nI (5 * j + 5)) (kA (a := 5 * i) (b := 5) (kMu (a := 5) (b := i) (rfl : (5 : Int32) = nI 5) rfl) (rfl : (5 : Int32) = nI 5))] at hw1
        refine kw_iinc (pc := 87) dX1_init_87 (by decide) rfl rfl rfl ?_
        refine kw_goto (tgt := 67) (pc := 90) dX1_init_90 (by decide) ?_
        have nw : ∀ a, a ≠ o + 2 → w1 a = wi a := fun a h => by rw [hw1]; exact kup_ne h
        have hob1 := (nw _ (by omega)).trans hob
        have hps1 := (nw _ (by omega)).trans hps
        have gp1 := kup_at hw1
        have gf1 := (nw _ (by omega)).trans gf
        have gs1 := (nw _ (by omega)).trans gs
        have hpl1 : ∀ j, j < 7 → w1 (o + 5 + j) = kO 2 (pF z0) := fun j hj => (nw _ (by omega)).trans (hpl j hj)
        have hfr1 : ∀ a, (a < o ∨ o + 12 ≤ a) → w1 a = w a := fun a h => (nw _ (by omega)).trans (hfr a h)
        exact kW.locs (ih (12 - (i + 1)) (by omega) (i + 1) w1 rfl (by omega) hob1 hps1 gp1 gf1 gs1 hpl1 hfr1) ⟨rfl, kgE rfl (kA (a := i) (b := 1) rfl (rfl : (Int32.ofInt 1) = nI 1)), trivial⟩
  have loop1 : ∀ (m i : Nat) (wi : kM), m = 7 - i → i ≤ 7 → wi o = kO 1 (oF o z0) → wi (o + 1) = kV 5 7 (tv i (fun j => .ref (o + 5 + j))) → wi (o + 2) = kI 0 12 (fun _ => 0) → wi (o + 3) = kI 0 4 (fun _ => 0) → wi (o + 4) = kI 0 4 (fun _ => 0) → (∀ j, j < i → wi (o + 5 + j) = kO 2 (pF z0)) → (∀ a, (a < o ∨ o + 5 + i ≤ a) → wi a = w a) → kW (0, fun _ => 0) mX1_init 2 (fun o' w' n' => o' = .inl none ∧ (fun w' => offP w' o iniS 0 (fun j => j) ∧ ∀ a, (a < o ∨ o + 12 ≤ a) → w' a = w a) w' ∧ n' = o + 12) (7 - i) (7 * (7 - i)) (o + 5 + i) wi 37 [(0, .ref o), (1, .int (nI i))] [] := by
    intro m
    induction m using Nat.strongRecOn with
    | _ m ih =>
      intro i wi hm hi hob hps gp gf gs hpl hfr
      refine kw_iload_n (pc := 37) dX1_init_37 rfl ?_
      refine kw_aload_n (pc := 38) dX1_init_38 rfl ?_
      refine kw_getfield (pc := 39) kfw dX1_init_39 fX1_11 hob rfl ?_
      refine kw_alenV (pc := 42) (v := 7) dX1_init_42 hps rfl ?_
      refine kw_icmp_ge (tgt := 65) (pc := 43) dX1_init_43 (by decide) (fun h43 => ?_) (fun h43 => ?_)
      · have h43 := (kLeI (a := 7) (b := i) (by omega) (by omega) (rfl : (7 : Int32) = nI 7) rfl).mp h43
        refine kw_iconst (v := 0) (pc := 65) dX1_init_65 (by decide) ?_
        refine kw_istore_n (pc := 66) dX1_init_66 (by decide) rfl ?_
        obtain rfl : i = 7 := by omega
        exact kW.locs (kW.less (rc' := 0) (rs' := 0) (Nat.zero_le _) (Nat.zero_le _) (loop2 (12 - 0) 0 wi rfl (by omega) hob hps (by rw [gN_0]; exact gp) gf gs hpl (fun a h => hfr a (by omega)))) ⟨rfl, rfl, trivial⟩
      · have h43 := mt (kLeI (a := 7) (b := i) (by omega) (by omega) (rfl : (7 : Int32) = nI 7) rfl).mpr h43
        refine kw_aload_n (pc := 46) dX1_init_46 rfl ?_
        refine kw_getfield (pc := 47) kfw dX1_init_47 fX1_11 hob rfl ?_
        refine kw_iload_n (pc := 50) dX1_init_50 rfl ?_
        refine kw_new (pc := 51) tyP kfw dX1_init_51 (ci := 2) rfl tyP_ok nX1_9 ki_2 kj_2 (by omega) (by omega) ?_
        rw [tyP_F]
        refine kw_dup (pc := 54) dX1_init_54 rfl ?_
        refine kw_callNi (pc := 55) dX1_init_55 lX1_27 c2_init (kup_self _ _ _) rfl rfl ⟨by decide, by decide, Nat.le_of_ble_eq_true rfl, Nat.zero_le _, Nat.zero_le _⟩ (fun wz hz => ?_)
        have hz : wz = _ := hz
        subst hz
        refine kw_aastore (pc := 58) (ci := 2) dX1_init_58 ((kup_ne (by omega)).trans hps) rfl rfl (vp_in_nI (by omega) (by decide)) (kup_self _ _ _) (kgen (fun w1 hw1 => ?_))
        rw [nI_clamp (by omega), tvN_s rfl] at hw1
        refine kw_iinc (pc := 59) dX1_init_59 (by decide) rfl rfl rfl ?_
        refine kw_goto (tgt := 37) (pc := 62) dX1_init_62 (by decide) ?_
        have nw : ∀ a, a ≠ o + 1 → a ≠ o + 5 + i → w1 a = wi a := fun a h1 h2 => by rw [hw1]; exact (kup_ne h1).trans (kup_ne h2)
        have hps1 := kup_at hw1
        have hnew : w1 (o + 5 + i) = kO 2 (pF z0) := by rw [hw1]; exact (kup_ne (by omega)).trans (kup_self _ _ _)
        refine kW.locs (kW.less (rc' := 7 - (i + 1)) (rs' := 7 * (7 - (i + 1))) (by omega) (by omega) (ih (7 - (i + 1)) (by omega) (i + 1) w1 rfl (by omega) ((nw _ (by omega) (by omega)).trans hob) hps1 ((nw _ (by omega) (by omega)).trans gp) ((nw _ (by omega) (by omega)).trans gf) ((nw _ (by omega) (by omega)).trans gs) (fun j hj => ?_) (fun a h => (nw _ (by omega) (by omega)).trans (hfr a (by omega))))) ⟨rfl, kgE rfl (kA (a := i) (b := 1) rfl (rfl : (Int32.ofInt 1) = nI 1)), trivial⟩
        by_cases e : j = i
        · subst e; exact hnew
        · exact (nw _ (by omega) (by omega)).trans (hpl j (by omega))
  refine kw_aload_n (pc := 0) dX1_init_0 rfl ?_
  refine kw_objInit (pc := 1) dX1_init_1 lX1_3 koi1 koi2 (by decide) (Nat.le_of_ble_eq_true rfl) ?_
  refine kw_aload_n (pc := 4) dX1_init_4 rfl ?_
  refine kw_bipush (v := 7) (pc := 5) dX1_init_5 (by decide) ?_
  refine kw_anewarray (pc := 7) (t := 5) (N := 7) dX1_init_7 (by decide) rfl nX1_9 (Or.inl rfl) (by decide) rfl (Nat.le_of_ble_eq_true rfl) (by decide) (Nat.le_of_ble_eq_true rfl) ?_
  refine kw_putfieldF (pc := 10) kfw dX1_init_10 fX1_11 rfl rfl ((kup_ne (by omega)).trans h0) (fun _ _ => rfl) (fun _ _ => rfl) ?_
  refine kw_aload_n (pc := 13) dX1_init_13 rfl ?_
  refine kw_bipush (v := 12) (pc := 14) dX1_init_14 (by decide) ?_
  refine kw_newarray (pc := 16) (t := 0) (N := 12) dX1_init_16 (by decide) rfl ka_int (by decide) rfl (Nat.le_of_ble_eq_true rfl) (by decide) (Nat.le_of_ble_eq_true rfl) ?_
  refine kw_putfieldF (pc := 18) kfw dX1_init_18 fX1_17 rfl rfl ((kup_ne (by omega)).trans (kup_self _ _ _)) (fun _ _ => rfl) (fun _ _ => rfl) ?_
  refine kw_aload_n (pc := 21) dX1_init_21 rfl ?_
  refine kw_iconst (v := 4) (pc := 22) dX1_init_22 (by decide) ?_
  refine kw_newarray (pc := 23) (t := 0) (N := 4) dX1_init_23 (by decide) rfl ka_int (by decide) rfl (Nat.le_of_ble_eq_true rfl) (by decide) (Nat.le_of_ble_eq_true rfl) ?_
  refine kw_putfieldF (pc := 25) kfw dX1_init_25 fX1_21 rfl rfl ((kup_ne (by omega)).trans (kup_self _ _ _)) (fun _ _ => rfl) (fun _ _ => rfl) ?_
  refine kw_aload_n (pc := 28) dX1_init_28 rfl ?_
  refine kw_iconst (v := 4) (pc := 29) dX1_init_29 (by decide) ?_
  refine kw_newarray (pc := 30) (t := 0) (N := 4) dX1_init_30 (by decide) rfl ka_int (by decide) rfl (Nat.le_of_ble_eq_true rfl) (by decide) (Nat.le_of_ble_eq_true rfl) ?_
  refine kw_putfieldF (pc := 32) kfw dX1_init_32 fX1_24 rfl rfl ((kup_ne (by omega)).trans (kup_self _ _ _)) (fun _ _ => rfl) (fun _ _ => rfl) ?_
  refine kw_iconst (v := 0) (pc := 35) dX1_init_35 (by decide) ?_
  refine kw_istore_n (pc := 36) dX1_init_36 (by decide) rfl ?_
  refine kgen (fun w1 hw1 => ?_)
  rw [oF0_s] at hw1
  exact kW.locs (kW.less (rc' := 7 - 0) (rs' := 7 * (7 - 0)) (Nat.le_of_ble_eq_true rfl) (Nat.le_of_ble_eq_true rfl) (loop1 (7 - 0) 0 w1 rfl (by omega) (by rw [hw1]; exact kup_self _ _ _) (by rw [hw1, tvN_0]; exact (kup_ne (by omega)).trans ((kup_ne (by omega)).trans ((kup_ne (by omega)).trans ((kup_ne (by omega)).trans ((kup_ne (by omega)).trans ((kup_ne (by omega)).trans ((kup_ne (by omega)).trans (kup_self _ _ _)))))))) (by rw [hw1]; exact (kup_ne (by omega)).trans ((kup_ne (by omega)).trans ((kup_ne (by omega)).trans ((kup_ne (by omega)).trans ((kup_ne (by omega)).trans (kup_self _ _ _)))))) (by rw [hw1]; exact (kup_ne (by omega)).trans ((kup_ne (by omega)).trans ((kup_ne (by omega)).trans (kup_self _ _ _)))) (by rw [hw1]; exact (kup_ne (by omega)).trans (kup_self _ _ _)) (fun j hj => absurd hj (Nat.not_lt_zero j)) (fun a h => by rw [hw1, kup_ne (by omega), kup_ne (by omega), kup_ne (by omega), kup_ne (by omega), kup_ne (by omega), kup_ne (by omega), kup_ne (by omega), kup_ne (by omega)]))) ⟨rfl, rfl, trivial⟩
