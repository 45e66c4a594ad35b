/-! ===== naturals in ints ===== -/
theorem kA {x y : Int32} {a b : Nat} (h1 : x = nI a) (h2 : y = nI b) : x + y = nI (a + b) := by
  subst h1; subst h2
  unfold nI
  exact (Int32.ofNat_add a b).symm
theorem kMu {x y : Int32} {a b : Nat} (h1 : x = nI a) (h2 : y = nI b) : x * y = nI (a * b) := by
  subst h1; subst h2
  unfold nI
  exact (Int32.ofNat_mul a b).symm
theorem kS {x y : Int32} {a b : Nat} (h1 : x = nI a) (h2 : y = nI b) (h : b ≤ a) : x - y = nI (a - b) := by
  have e := kA (x := nI (a - b)) (y := nI b) rfl rfl
  rw [Nat.sub_add_cancel h] at e
  rw [h1, h2, ← e]
  exact Int32.add_sub_cancel _ _
theorem kEqI {x y : Int32} {a b : Nat} (ha : a < 2147483648) (hb : b < 2147483648) (h1 : x = nI a) (h2 : y = nI b) : x = y ↔ a = b := by
  subst h1; subst h2
  rw [← Int32.toInt_inj, nI_toInt ha, nI_toInt hb]
  omega
theorem kLtI {x y : Int32} {a b : Nat} (ha : a < 2147483648) (hb : b < 2147483648) (h1 : x = nI a) (h2 : y = nI b) : x < y ↔ a < b := by
  subst h1; subst h2
  rw [Int32.lt_iff_toInt_lt, nI_toInt ha, nI_toInt hb]
  omega
theorem kLeI {x y : Int32} {a b : Nat} (ha : a < 2147483648) (hb : b < 2147483648) (h1 : x = nI a) (h2 : y = nI b) : x ≤ y ↔ a ≤ b := by
  subst h1; subst h2
  rw [Int32.le_iff_toInt_le, nI_toInt ha, nI_toInt hb]
  omega
theorem kcl0 {j : Int32} {i : Nat} (hj : j = nI i) (hi : i < 2147483648) : j.toNatClampNeg = i := by
  subst hj
  exact nI_clamp hi
/-- a truth value, as the machine keeps it -/
def b2i (p : Prop) [Decidable p] : Int32 := if p then 1 else 0
theorem b2i_t {p : Prop} [Decidable p] (h : p) : b2i p = 1 := if_pos h
theorem b2i_f {p : Prop} [Decidable p] (h : ¬ p) : b2i p = 0 := if_neg h
theorem b2i_0 {p : Prop} [Decidable p] : b2i p = 0 ↔ ¬ p := by
  unfold b2i
  by_cases h : p <;> simp [h]
theorem b2i_z (p : Prop) [Decidable p] : narrow .boolean (.int (b2i p)) = .int (b2i p) := by
  unfold b2i
  by_cases h : p
  · rw [if_pos h]; rfl
  · rw [if_neg h]; rfl
section KN
variable {X : Nat × (Nat → Int32)} {M : kMi} {dd : Nat} {Q : kQ} {rc rs n : Nat} {w : kM} {L : List (Nat × Value)} {st : List Value}
theorem kw_ialoadN {pc a N i : Nat} {f : Nat → Int32} {j : Int32} (d : decode M.2.1 pc = .ok (.iaload, 1)) (h : w a = kI 0 N f) (hj : j = nI i) (hi : i < N) (hN : N < 100000) (kk : kW X M dd Q rc rs n w (pc + 1) L (.int (f i) :: st)) : kW X M dd Q rc rs n w pc L (.int j :: .ref a :: st) := by
  refine kw_iaload d h (by rw [hj]; exact vp_in_nI hi (by omega)) ?_
  rw [kcl0 hj (by omega)]
  exact kk
theorem kw_zaloadN {pc a N i : Nat} {f : Nat → Int32} {j : Int32} (d : decode M.2.1 pc = .ok (.baload, 1)) (h : w a = kI 1 N f) (hj : j = nI i) (hi : i < N) (hN : N < 100000) (kk : kW X M dd Q rc rs n w (pc + 1) L (.int (f i) :: st)) : kW X M dd Q rc rs n w pc L (.int j :: .ref a :: st) := by
  refine kw_zaload d h (by rw [hj]; exact vp_in_nI hi (by omega)) ?_
  rw [kcl0 hj (by omega)]
  exact kk
theorem kw_iastoreN {pc a N i : Nat} {f : Nat → Int32} {j x : Int32} (d : decode M.2.1 pc = .ok (.iastore, 1)) (h : w a = kI 0 N f) (hj : j = nI i) (hi : i < N) (hN : N < 100000) (kk : kW X M dd Q rc rs n (kup w a (kI 0 N (kuf f i x))) (pc + 1) L st) : kW X M dd Q rc rs n w pc L (.int x :: .int j :: .ref a :: st) := by
  refine kw_iastore d h (by rw [hj]; exact vp_in_nI hi (by omega)) ?_
  rw [kcl0 hj (by omega)]
  exact kk
theorem kw_zastoreN {pc a N i : Nat} {f : Nat → Int32} {j x : Int32} (d : decode M.2.1 pc = .ok (.bastore, 1)) (h : w a = kI 1 N f) (hj : j = nI i) (hi : i < N) (hN : N < 100000) (hz : narrow .boolean (.int x) = .int x) (kk : kW X M dd Q rc rs n (kup w a (kI 1 N (kuf f i x))) (pc + 1) L st) : kW X M dd Q rc rs n w pc L (.int x :: .int j :: .ref a :: st) := by
  refine kw_zastore d h (by rw [hj]; exact vp_in_nI hi (by omega)) hz ?_
  rw [kcl0 hj (by omega)]
  exact kk
/-- a method that reads and answers v -/
def kCtrR (M : kMi) (d : Nat) (As : List Value) (w : kM) (v : Value) : Prop := ∀ n : Nat, kCtr M d 0 0 As w n (fun o w' n' => o = .inl (some v) ∧ w' = w ∧ n' = n)
/-- .. that answers v, in a world that becomes another -/
def kCtrW (M : kMi) (d : Nat) (As : List Value) (w : kM) (v : Option Value) (P : kM → Prop) : Prop := ∀ n : Nat, kCtr M d 0 0 As w n (fun o w' n' => o = .inl v ∧ P w' ∧ n' = n)
theorem kCtrW.weak {d : Nat} {As : List Value} {v : Option Value} {P P' : kM → Prop} (h : kCtrW M d As w v P) (hP : ∀ w', P w' → P' w') : kCtrW M d As w v P' := by
  intro n l hl G b p e h1 h2 h3 s m args below hf ha hPc hK
  obtain ⟨k, o, a1, a2, a3, hq⟩ := h n l hl G b p e h1 h2 h3 s m args below hf ha hPc hK
  refine ⟨k, o, a1, a2, a3, ?_⟩
  rcases hq with ⟨⟨⟨v', w', n', q1, ⟨q2, q3, q4⟩, q5⟩, q6⟩, q7⟩ | ⟨q, q1, E, ce, L', ⟨⟨w', n', ⟨q2, _⟩, _⟩, _⟩, _⟩
  · exact Or.inl ⟨⟨⟨v', w', n', q1, ⟨q2, hP _ q3, q4⟩, q5⟩, q6⟩, q7⟩
  · cases q2
theorem kw_callVr {My : kMi} {dy pc idx o ci k : Nat} {F : Nat → Value} {As rest st0 : List Value} {v : Value} (d : decode M.2.1 pc = .ok (.invokevirtual idx, 3)) (hl0 : kLV M.1.cls idx My k) (hC : kCtrR My dy (.ref o :: As) w v) (ho : w o = kO ci F) (hci : (kcl[ci]?).map (fun r => r.1) = some My.1.cls) (hst : st0 = As.reverse ++ .ref o :: rest) (hk : As.length = k)
    (hroom : dy + 1 ≤ dd ∧ My.2.2.1 ≤ 40 ∧ (rest.map fun v => v.category).sum ≤ 8)
    (kk : kW X M dd Q rc rs n w (pc + 3) L (v :: rest)) : kW X M dd Q rc rs n w pc L st0 := by
  refine kw_callV d hl0 (hC n) ho hci hst hk ⟨hroom.1, hroom.2.1, hroom.2.2, Nat.zero_le _, Nat.zero_le _⟩ (fun E w' n' h => by cases h.1) (fun v' w' n' h => ?_)
  obtain ⟨h1, rfl, rfl⟩ := h
  cases h1
  exact kk
theorem kw_callSr {My : kMi} {dy pc idx k : Nat} {As rest st0 : List Value} {v : Value} (d : decode M.2.1 pc = .ok (.invokestatic idx, 3)) (hl0 : kLS M.1.cls idx My k) (hC : kCtrR My dy As w v) (hst : st0 = As.reverse ++ rest) (hk : As.length = k)
    (hroom : dy + 1 ≤ dd ∧ My.2.2.1 ≤ 40 ∧ (rest.map fun v => v.category).sum ≤ 8)
    (kk : kW X M dd Q rc rs n w (pc + 3) L (v :: rest)) : kW X M dd Q rc rs n w pc L st0 := by
  refine kw_callS d hl0 (hC n) hst hk ⟨hroom.1, hroom.2.1, hroom.2.2, Nat.zero_le _, Nat.zero_le _⟩ (fun E w' n' h => by cases h.1) (fun v' w' n' h => ?_)
  obtain ⟨h1, rfl, rfl⟩ := h
  cases h1
  exact kk
theorem kw_callVw {My : kMi} {dy pc idx o ci k : Nat} {F : Nat → Value} {As rest st0 : List Value} {v : Option Value} {P : kM → Prop} (d : decode M.2.1 pc = .ok (.invokevirtual idx, 3)) (hl0 : kLV M.1.cls idx My k) (hC : kCtrW My dy (.ref o :: As) w v P) (ho : w o = kO ci F) (hci : (kcl[ci]?).map (fun r => r.1) = some My.1.cls) (hst : st0 = As.reverse ++ .ref o :: rest) (hk : As.length = k)
    (hroom : dy + 1 ≤ dd ∧ My.2.2.1 ≤ 40 ∧ (rest.map fun v => v.category).sum ≤ 8)
    (kk : ∀ w', P w' → kW X M dd Q rc rs n w' (pc + 3) L (v.toList ++ rest)) : kW X M dd Q rc rs n w pc L st0 := by
  refine kw_callV d hl0 (hC n) ho hci hst hk ⟨hroom.1, hroom.2.1, hroom.2.2, Nat.zero_le _, Nat.zero_le _⟩ (fun E w' n' h => by cases h.1) (fun v' w' n' h => ?_)
  obtain ⟨h1, h2, rfl⟩ := h
  cases h1
  exact kk w' h2
/-- the judgement of a reading method, and of a writing one: what is proved of its body -/
theorem kCtrR.of {d : Nat} {As : List Value} {v : Value} (hy : plainName M.1.cls = true) (hn : M.1.name ≠ "law") (hh : M.2.2.2.2 = []) (hl : (lg_sl As).length ≤ M.2.2.1) (h : ∀ n, kW (0, fun _ => 0) M d (fun o w' n' => o = .inl (some v) ∧ w' = w ∧ n' = n) 0 0 n w 0 (lv_args 0 As) []) : kCtrR M d As w v := fun n => kCtr.of hy hn hh hl (h n)
theorem kCtrW.of {d : Nat} {As : List Value} {v : Option Value} {P : kM → Prop} (hy : plainName M.1.cls = true) (hn : M.1.name ≠ "law") (hh : M.2.2.2.2 = []) (hl : (lg_sl As).length ≤ M.2.2.1) (h : ∀ n, kW (0, fun _ => 0) M d (fun o w' n' => o = .inl v ∧ P w' ∧ n' = n) 0 0 n w 0 (lv_args 0 As) []) : kCtrW M d As w v P := fun n => kCtr.of hy hn hh hl (h n)
end KN
