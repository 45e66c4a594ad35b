section KS
variable {X : Nat × (Nat → Int32)} {M : kMi} {dd : Nat} {Q : kQ} {rc rs n : Nat} {w : kM} {L : List (Nat × Value)}
theorem kw_callSw {My : kMi} {dy pc idx k : Nat} {As rest st0 : List Value} {v : Option Value} {P : kM → Prop} (d : decode M.2.1 pc = .ok (.invokestatic idx, 3)) (hl0 : kLS M.1.cls idx My k) (hC : kCtrW My dy As w v P) (hst : st0 = As.reverse ++ rest) (hk : As.length = k)
    (hroom : dy + 1 ≤ dd ∧ My.2.2.1 ≤ 40 ∧ (rest.map fun v => v.category).sum ≤ 8)
    (kk : ∀ w', P w' → kW X M dd Q rc rs n w' (pc + 3) L (v.toList ++ rest)) : kW X M dd Q rc rs n w pc L st0 := by
  refine kw_callS d hl0 (hC n) hst hk ⟨hroom.1, hroom.2.1, hroom.2.2, Nat.zero_le _, Nat.zero_le _⟩ (fun E w' n' h => by cases h.1) (fun v' w' n' h => ?_)
  obtain ⟨h1, h2, rfl⟩ := h
  cases h1
  exact kk w' h2
theorem kw_callSw0 {My : kMi} {dy pc idx k : Nat} {As rest st0 : List Value} {P : kM → Prop} (d : decode M.2.1 pc = .ok (.invokestatic idx, 3)) (hl0 : kLS M.1.cls idx My k) (hC : kCtrW My dy As w none P) (hst : st0 = As.reverse ++ rest) (hk : As.length = k)
    (hroom : dy + 1 ≤ dd ∧ My.2.2.1 ≤ 40 ∧ (rest.map fun v => v.category).sum ≤ 8)
    (kk : ∀ w', P w' → kW X M dd Q rc rs n w' (pc + 3) L rest) : kW X M dd Q rc rs n w pc L st0 := kw_callSw d hl0 hC hst hk hroom kk
end KS
theorem svP.ob {w : kM} {v q : Nat} {R : Nat → Nat → Int32} (P : svP w v q R) : w v = kO 4 (svF v (nI q)) := by
  obtain ⟨π, A, -⟩ := P
  exact A.1
theorem offR.c {w : kM} {o : Nat} {r : Nat → Int32} {c : Nat} (H : offR w o r) (hc : r 20 = nI c) (hc7 : c ≤ 7) : ∃ σ, offP w o r c σ := by
  obtain ⟨c', σ, H⟩ := H
  have e : c' = c := (kEqI (a := c') (b := c) (by have := H.c7; omega) (by omega) H.sz rfl).mp hc
  subst e
  exact ⟨σ, H⟩
set_option maxRecDepth 100000 in
set_option maxHeartbeats 4000000 in
theorem c5_isIn {w : kM} (v lo hi : Int32) : kCtrR mX5_isIn 0 [.int v, .int lo, .int hi] w (.int (b2i (lo ≤ v ∧ v ≤ hi))) := by
  refine kCtrR.of pl5 nlX5_isIn rfl (Nat.le_of_ble_eq_true rfl) (fun n => ?_)
  refine kw_iload_n (pc := 0) dX5_isIn_0 rfl ?_
  refine kw_iload_n (pc := 1) dX5_isIn_1 rfl ?_
  refine kw_icmp_lt (tgt := 14) (pc := 2) dX5_isIn_2 (by decide) (fun h2 => ?_) (fun h2 => ?_)
  · refine kw_iconst (v := 0) (pc := 14) dX5_isIn_14 (by decide) ?_
    exact kw_ireturn nlX5_isIn (pc := 15) dX5_isIn_15 rfl (by first | rfl | exact b2i_z _ | exact hbool) ⟨kv_eq (by grind [b2i]), rfl, rfl⟩
  · refine kw_iload_n (pc := 5) dX5_isIn_5 rfl ?_
    refine kw_iload_n (pc := 6) dX5_isIn_6 rfl ?_
    refine kw_icmp_gt (tgt := 14) (pc := 7) dX5_isIn_7 (by decide) (fun h7 => ?_) (fun h7 => ?_)
    · refine kw_iconst (v := 0) (pc := 14) dX5_isIn_14 (by decide) ?_
      exact kw_ireturn nlX5_isIn (pc := 15) dX5_isIn_15 rfl (by first | rfl | exact b2i_z _ | exact hbool) ⟨kv_eq (by grind [b2i]), rfl, rfl⟩
    · refine kw_iconst (v := 1) (pc := 10) dX5_isIn_10 (by decide) ?_
      refine kw_goto (tgt := 15) (pc := 11) dX5_isIn_11 (by decide) ?_
      exact kw_ireturn nlX5_isIn (pc := 15) dX5_isIn_15 rfl (by first | rfl | exact b2i_z _ | exact hbool) ⟨kv_eq (by grind [b2i]), rfl, rfl⟩
theorem c5_isInT {w : kM} {v lo hi : Int32} (h : lo ≤ v ∧ v ≤ hi) : kCtrR mX5_isIn 0 [.int v, .int lo, .int hi] w (.int 1) := by
  have := c5_isIn (w := w) v lo hi
  rw [b2i_t h] at this
  exact this
theorem c5_isInF {w : kM} {v lo hi : Int32} (h : ¬ (lo ≤ v ∧ v ≤ hi)) : kCtrR mX5_isIn 0 [.int v, .int lo, .int hi] w (.int 0) := by
  have := c5_isIn (w := w) v lo hi
  rw [b2i_f h] at this
  exact this
set_option maxRecDepth 100000 in
set_option maxHeartbeats 4000000 in
theorem c5_argT {w : kM} {v : Int32} (h : ¬ v = 0) : kCtrW mX5_requireArgument 0 [.int v] w none (fun w' => w' = w) := by
  refine kCtrW.of pl5 nlX5_requireArgument rfl (Nat.le_of_ble_eq_true rfl) (fun n => ?_)
  refine kw_iload_n (pc := 0) dX5_requireArgument_0 rfl ?_
  refine kw_if_ne (tgt := 14) (pc := 1) dX5_requireArgument_1 (by decide) (fun h1 => ?_) (fun h1 => ?_)
  · exact kw_return nlX5_requireArgument (pc := 14) dX5_requireArgument_14 rfl ⟨rfl, rfl, rfl⟩
  · exact absurd h1 h
set_option maxRecDepth 100000 in
set_option maxHeartbeats 4000000 in
theorem c5_argX {w : kM} {v : Int32} (h : v = 0) : kCtrX mX5_requireArgument 6 [.int v] w kIAE (fun w' => w' = w) := by
  refine kCtrX.of pl5 nlX5_requireArgument rfl (Nat.le_of_ble_eq_true rfl) (fun n => ?_)
  refine kw_iload_n (pc := 0) dX5_requireArgument_0 rfl ?_
  refine kw_if_ne (tgt := 14) (pc := 1) dX5_requireArgument_1 (by decide) (fun h1 => ?_) (fun h1 => ?_)
  · exact absurd h h1
  · exact kw_throw (pc := 4) (ik := 229) (is := 231) (ic := 233) (si := 0) (cls := kIAE) (text := "an argument is out of range") (names := ["java/lang/RuntimeException", "java/lang/Exception"]) nlX5_requireArgument rfl rfl kt5_IAE kt6 kt4_IAE kj_IAE (by simp [kStr]) kt1_IAE kt2_IAE kt3_IAE kt7 dX5_requireArgument_4 dX5_requireArgument_7 dX5_requireArgument_8 dX5_requireArgument_10 dX5_requireArgument_13 ⟨by decide, by decide, by decide, by decide⟩ (fun n' hn => ⟨rfl, rfl, hn⟩)
set_option maxRecDepth 100000 in
set_option maxHeartbeats 4000000 in
theorem c5_idxT {w : kM} {v m : Int32} (h : 0 ≤ v ∧ v < m) : kCtrW mX5_requireIndex 0 [.int v, .int m] w none (fun w' => w' = w) := by
  refine kCtrW.of pl5 nlX5_requireIndex rfl (Nat.le_of_ble_eq_true rfl) (fun n => ?_)
  refine kw_iload_n (pc := 0) dX5_requireIndex_0 rfl ?_
  refine kw_if_lt (tgt := 9) (pc := 1) dX5_requireIndex_1 (by decide) (fun h1 => ?_) (fun h1 => ?_)
  · exfalso; grind
  · refine kw_iload_n (pc := 4) dX5_requireIndex_4 rfl ?_
    refine kw_iload_n (pc := 5) dX5_requireIndex_5 rfl ?_
    refine kw_icmp_lt (tgt := 19) (pc := 6) dX5_requireIndex_6 (by decide) (fun h6 => ?_) (fun h6 => ?_)
    · exact kw_return nlX5_requireIndex (pc := 19) dX5_requireIndex_19 rfl ⟨rfl, rfl, rfl⟩
    · exfalso; grind
set_option maxRecDepth 100000 in
set_option maxHeartbeats 4000000 in
theorem c5_idxX {w : kM} {v m : Int32} (h : ¬ (0 ≤ v ∧ v < m)) : kCtrX mX5_requireIndex 6 [.int v, .int m] w kIOB (fun w' => w' = w) := by
  refine kCtrX.of pl5 nlX5_requireIndex rfl (Nat.le_of_ble_eq_true rfl) (fun n => ?_)
  refine kw_iload_n (pc := 0) dX5_requireIndex_0 rfl ?_
  refine kw_if_lt (tgt := 9) (pc := 1) dX5_requireIndex_1 (by decide) (fun h1 => ?_) (fun h1 => ?_)
  · exact kw_throw (pc := 9) (ik := 234) (is := 236) (ic := 238) (si := 1) (cls := kIOB) (text := "there is no such number") (names := ["java/lang/RuntimeException", "java/lang/Exception"]) nlX5_requireIndex rfl rfl kt5_IOB kt6 kt4_IOB kj_IOB (by simp [kStr]) kt1_IOB kt2_IOB kt3_IOB kt7 dX5_requireIndex_9 dX5_requireIndex_12 dX5_requireIndex_13 dX5_requireIndex_15 dX5_requireIndex_18 ⟨by decide, by decide, by decide, by decide⟩ (fun n' hn => ⟨rfl, rfl, hn⟩)
  · refine kw_iload_n (pc := 4) dX5_requireIndex_4 rfl ?_
    refine kw_iload_n (pc := 5) dX5_requireIndex_5 rfl ?_
    refine kw_icmp_lt (tgt := 19) (pc := 6) dX5_requireIndex_6 (by decide) (fun h6 => ?_) (fun h6 => ?_)
    · exfalso; grind
    · exact kw_throw (pc := 9) (ik := 234) (is := 236) (ic := 238) (si := 1) (cls := kIOB) (text := "there is no such number") (names := ["java/lang/RuntimeException", "java/lang/Exception"]) nlX5_requireIndex rfl rfl kt5_IOB kt6 kt4_IOB kj_IOB (by simp [kStr]) kt1_IOB kt2_IOB kt3_IOB kt7 dX5_requireIndex_9 dX5_requireIndex_12 dX5_requireIndex_13 dX5_requireIndex_15 dX5_requireIndex_18 ⟨by decide, by decide, by decide, by decide⟩ (fun n' hn => ⟨rfl, rfl, hn⟩)
theorem pX_iff {s : Nat → Int32} {c : Nat} (hc : s 20 = nI c) (hc7 : c ≤ 7) (p : Int32) : (0 ≤ p ∧ p < s 20) ↔ ∃ k, k < c ∧ p = nI k := by
  rw [← isP_iff hc hc7 p]
  have h1 : (0 : Int32) ≤ s 20 := by rw [hc]; exact nI_pos' (by omega)
  constructor
  · rintro ⟨a, b⟩
    exact ⟨a, by grind⟩
  · rintro ⟨a, b⟩
    refine ⟨a, ?_⟩
    rw [hc] at b ⊢
    match c, hc7 with
    | 0, _ => exact absurd (Int32.le_trans a b) (by decide)
    | n + 1, h =>
      rw [show nI (n + 1) - 1 = nI n from kS (a := n + 1) (b := 1) rfl rfl (by omega)] at b
      exact Int32.lt_of_le_of_lt b (nI_lt (by omega) (by omega))
set_option maxRecDepth 100000 in
set_option maxHeartbeats 4000000 in
theorem c5_parT {w : kM} {s : Nat → Int32} {q : Nat} {kp bf : Nat → Int32} {T : Nat} (C : cls w s q kp bf T) {c : Nat} (hc : s 20 = nI c) (hc7 : c ≤ 7) {k : Nat} (hk : k < c) : kCtrW mX5_requireParcel 1 [.ref 0, .int (nI k)] w none (fun w' => w' = w) := by
  refine kCtrW.of pl5 nlX5_requireParcel rfl (Nat.le_of_ble_eq_true rfl) (fun n => ?_)
  obtain ⟨σ, H⟩ := C.2.1.c hc hc7
  have hob := H.ob
  refine kw_iload_n (pc := 0) dX5_requireParcel_0 rfl ?_
  refine kw_aload_n (pc := 1) dX5_requireParcel_1 rfl ?_
  refine kw_getfield (pc := 2) kfw dX5_requireParcel_2 fX5_10 C.1 rfl ?_
  refine kw_getfield (pc := 5) kfw dX5_requireParcel_5 fX5_88 hob rfl ?_
  refine kw_callSw0 (pc := 8) dX5_requireParcel_8 lX5_92 (c5_idxT ((pX_iff hc hc7 _).mpr ⟨k, hk, rfl⟩)) rfl rfl ⟨by decide, by decide, Nat.le_of_ble_eq_true rfl⟩ (fun wq hwq => ?_)
  have hwq : w = wq := Eq.symm hwq
  subst hwq
  exact kw_return nlX5_requireParcel (pc := 11) dX5_requireParcel_11 rfl ⟨rfl, rfl, rfl⟩
set_option maxRecDepth 100000 in
set_option maxHeartbeats 4000000 in
theorem c5_parX {w : kM} {s : Nat → Int32} {q : Nat} {kp bf : Nat → Int32} {T : Nat} (C : cls w s q kp bf T) {c : Nat} (hc : s 20 = nI c) (hc7 : c ≤ 7) {p : Int32} (hp : ¬ ∃ k, k < c ∧ p = nI k) : kCtrX mX5_requireParcel 7 [.ref 0, .int p] w kIOB (fun w' => w' = w) := by
  refine kCtrX.of pl5 nlX5_requireParcel rfl (Nat.le_of_ble_eq_true rfl) (fun n => ?_)
  obtain ⟨σ, H⟩ := C.2.1.c hc hc7
  have hob := H.ob
  refine kw_iload_n (pc := 0) dX5_requireParcel_0 rfl ?_
  refine kw_aload_n (pc := 1) dX5_requireParcel_1 rfl ?_
  refine kw_getfield (pc := 2) kfw dX5_requireParcel_2 fX5_10 C.1 rfl ?_
  refine kw_getfield (pc := 5) kfw dX5_requireParcel_5 fX5_88 hob rfl ?_
  exact kw_callSx (pc := 8) dX5_requireParcel_8 lX5_92 (c5_idxX (mt (pX_iff hc hc7 _).mp hp)) rfl rfl ⟨by decide, by decide, Nat.le_of_ble_eq_true rfl, by decide, by decide⟩ nlX5_requireParcel rfl (fun w' n' hp hn => ⟨rfl, hp, hn⟩)
