section KZ
variable {X : Nat × (Nat → Int32)} {M : kMi} {dd : Nat} {Q : kQ} {rc rs n : Nat} {w : kM} {L : List (Nat × Value)} {st : List Value}
theorem kw_zastoreT {pc a N i : Nat} {f : Nat → Int32} {j x : Int32} (d : decode M.2.1 pc = .ok (.bastore, 1)) (h : w a = kI 1 N (tr N f)) (hj : j = nI i) (hi : i < N) (hN : N < 100000) (hz : narrow .boolean (.int x) = .int x) (kk : kW X M dd Q rc rs n (kup w a (kI 1 N (tr N (kuf f i x)))) (pc + 1) L st) : kW X M dd Q rc rs n w pc L (.int x :: .int j :: .ref a :: st) := by
  refine kw_zastoreN d h hj hi hN hz ?_
  rw [tr_s hi]
  exact kk
end KZ
theorem cpR_hi {s : Nat → Int32} {f i : Nat} (h : 75 ≤ i) : cpR s f 0 75 i = s i := by
  unfold cpR
  rw [if_neg (by omega)]
theorem cpR_0row {s : Nat → Int32} {f i : Nat} (h : i < 75) : cpR s f 0 75 i = s (75 * f + i) := by
  unfold cpR
  rw [if_pos (by omega), show 75 * f + (i - 75 * 0) = 75 * f + i by omega]
theorem cls.keep {w w' : kM} {s : Nat → Int32} {q : Nat} {kp bf : Nat → Int32} {T b : Nat} (C : cls w s q kp bf T) (hb : b < 2) (ho : offR w' (104 + 12 * b) s) (hk : w' 14 = kI 1 2 (tr 2 (kuf kp b 1))) (h : ∀ a, a ≠ 14 → (a < 104 + 12 * b ∨ 104 + 12 * b + 12 ≤ a) → w' a = w a) : cls w' (cpR s 0 (7 + b) 75) q (kuf kp b 1) bf T := by
  have h6 := C.q6
  have lo : ∀ i, i < 525 → cpR s 0 (7 + b) 75 i = s i := fun i hi => by
    unfold cpR
    rw [if_neg (by omega)]
  refine ⟨(h _ (by omega) (by omega)).trans C.1, (C.2.1.fr (fun k _ _ => h k (by omega) (by omega))).cg (fun i hi => lo i (by omega)), (C.2.2.1.fr (fun k _ _ => h k (by omega) (by omega))).cg (fun i hi j hj => lo _ (by omega)), ⟨(h _ (by omega) (by omega)).trans C.2.2.2.1.1, hk, fun b' hb' => ?_, fun b' hb' hk' => ?_⟩, C.2.2.2.2.1.fr (fun k _ g => h k (by omega) (by omega)), C.2.2.2.2.2.fr (fun k _ g => h k (by omega) (by omega))⟩
  · by_cases e : b' = b
    · subst e; exact ho.a
    · exact (C.2.2.2.1.2.2.1 b' hb').fr (fun k g1 g2 => h k (by omega) (by omega))
  · by_cases e : b' = b
    · subst e
      refine ho.cg (fun i hi => ?_)
      show cpR s 0 (7 + b') 75 (75 * (7 + b') + i) = s i
      unfold cpR
      rw [if_pos (by omega)]
      congr 1
      omega
    · refine ((C.2.2.2.1.2.2.2 b' hb' (by rw [kuf_ne e] at hk'; exact hk')).fr (fun k g1 g2 => h k (by omega) (by omega))).cg (fun i hi => ?_)
      show cpR s 0 (7 + b) 75 (75 * (7 + b') + i) = s (75 * (7 + b') + i)
      unfold cpR
      rw [if_neg (by omega)]
set_option maxRecDepth 100000 in
set_option maxHeartbeats 4000000 in
theorem c5_undo {w : kM} {s : Nat → Int32} {q : Nat} {kp bf : Nat → Int32} {T : Nat} (C : cls w s (q + 1) kp bf T) : kCtrW mX5_undo 3 [.ref 0] w (some (.int (nI q))) (fun w' => cls w' (cpR s (q + 1) 0 75) q kp bf T ∧ ∀ a, 128 ≤ a → w' a = w a) := by
  refine kCtrW.of pl5 nlX5_undo rfl (Nat.le_of_ble_eq_true rfl) (fun n => ?_)
  have hq6 := C.q6
  refine kw_aload_n (pc := 0) dX5_undo_0 rfl ?_
  refine kw_getfield (pc := 1) kfw dX5_undo_1 fX5_27 C.1 rfl ?_
  refine kw_getfield (pc := 4) kfw dX5_undo_4 fX5_150 C.2.2.1.ob rfl ?_
  refine kw_if_ne (tgt := 20) (pc := 7) dX5_undo_7 (by decide) (fun h7 => ?_) (fun h7 => ?_)
  · have h7 := mt (kEqI (a := (q + 1)) (b := 0) (by omega) (by omega) rfl (rfl : (0 : Int32) = nI 0)).mpr h7
    refine kw_aload_n (pc := 20) dX5_undo_20 rfl ?_
    refine kw_getfield (pc := 21) kfw dX5_undo_21 fX5_27 C.1 rfl ?_
    refine kw_aload_n (pc := 24) dX5_undo_24 rfl ?_
    refine kw_getfield (pc := 25) kfw dX5_undo_25 fX5_10 C.1 rfl ?_
    refine kw_callVw0 (pc := 28) dX5_undo_28 lX5_153 (c4_restore C.2.2.1 C.2.1 (by decide)) C.2.2.1.ob rfl rfl rfl ⟨by decide, by decide, Nat.le_of_ble_eq_true rfl⟩ (fun w1 hw1 => ?_)
    obtain ⟨H1, P1, G1⟩ := hw1
    have hx1 := (G1 0 (by omega) (by omega)).trans C.1
    refine kw_aload_n (pc := 31) dX5_undo_31 rfl ?_
    refine kw_getfield (pc := 32) kfw dX5_undo_32 fX5_27 hx1 rfl ?_
    refine kw_getfield (pc := 35) kfw dX5_undo_35 fX5_150 P1.ob rfl ?_
    exact kw_ireturn nlX5_undo (pc := 38) dX5_undo_38 rfl rfl ⟨rfl, ⟨⟨hx1, H1.cg (fun i hi => cpR_0row hi), P1.cg (fun i hi j hj => cpR_hi (by omega)), C.2.2.2.1.fr (fun k g => G1 k (by omega) (by omega)) (fun i h1 h2 => cpR_hi (by omega)), C.2.2.2.2.1.fr (fun k _ g => G1 k (by omega) (by omega)), C.2.2.2.2.2.fr (fun k _ g => G1 k (by omega) (by omega))⟩, fun a h => G1 a (by omega) (by omega)⟩, rfl⟩
  · have h7 := (kEqI (a := (q + 1)) (b := 0) (by omega) (by omega) rfl (rfl : (0 : Int32) = nI 0)).mp h7
    exfalso; omega
set_option maxRecDepth 100000 in
set_option maxHeartbeats 4000000 in
theorem c5_undoA {w : kM} {s : Nat → Int32} {kp bf : Nat → Int32} {T : Nat} (C : cls w s 0 kp bf T) : kCtrX mX5_undo 6 [.ref 0] w kISE (fun w' => w' = w) := by
  refine kCtrX.of pl5 nlX5_undo rfl (Nat.le_of_ble_eq_true rfl) (fun n => ?_)
  refine kw_aload_n (pc := 0) dX5_undo_0 rfl ?_
  refine kw_getfield (pc := 1) kfw dX5_undo_1 fX5_27 C.1 rfl ?_
  refine kw_getfield (pc := 4) kfw dX5_undo_4 fX5_150 C.2.2.1.ob rfl ?_
  refine kw_if_ne (tgt := 20) (pc := 7) dX5_undo_7 (by decide) (fun h7 => ?_) (fun h7 => ?_)
  · have h7 := mt (kEqI (a := 0) (b := 0) (by omega) (by omega) rfl (rfl : (0 : Int32) = nI 0)).mpr h7
    exfalso; omega
  · have h7 := (kEqI (a := 0) (b := 0) (by omega) (by omega) rfl (rfl : (0 : Int32) = nI 0)).mp h7
    exact kw_throw (pc := 10) (ik := 116) (is := 151) (ic := 120) (si := 4) (cls := kISE) (text := "there is no saved state") (names := ["java/lang/RuntimeException", "java/lang/Exception"]) nlX5_undo rfl rfl kt5_ISE kt6 kt4_ISE kj_ISE (by simp [kStr]) kt1_ISE kt2_ISE kt3_ISE kt7 dX5_undo_10 dX5_undo_13 dX5_undo_14 dX5_undo_16 dX5_undo_19 ⟨by decide, by decide, by decide, by decide⟩ (fun n' hn => ⟨rfl, rfl, hn⟩)
