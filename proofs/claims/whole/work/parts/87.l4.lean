/-! ===== every call: class and model answer alike ===== -/
theorem mdl.use {w1 : kM} {s : Nat → Int32} {q : Nat} {kp bf : Nat → Int32} {T : Nat} {MM : kMi} {d : Nat} {as : List Value} {r : Option Value} {P : kM → Prop} (M : mdl w1 s q kp bf T) (h : ∀ th co ma sp, kCtrW MM d as (mM w1 128 s (nI q) kp bf (nI T) th co ma sp) r P) : kCtrW MM d as w1 r P := by
  obtain ⟨th, co, ma, sp, e⟩ := M
  have h2 := h th co ma sp
  rw [← e] at h2
  exact h2
theorem clP_eq {w : kM} {s : Nat → Int32} {q : Nat} {kp bf : Nat → Int32} {T : Nat} (C : cls w s q kp bf T) : ∀ w1, w1 = w → clP w s q kp bf T w1 := fun w1 e => by
  rw [e]
  exact ⟨C, fun _ _ => rfl⟩
section OPS
variable {w : kM} {s : Nat → Int32} {q : Nat} {kp bf : Nat → Int32} {T c : Nat}
theorem op_bring (J : JS w s q kp bf T c) (x y z wt zn : Int32) : opOK mL_bring mX6_bring [.int x, .int y, .int z, .int wt, .int zn] w s q kp bf T := by
  obtain ⟨C, M, ho, ok, tx⟩ := J
  have hc := ok.1.2.1
  have h7 := ok.1.1
  have h6 := C.q6
  by_cases hB : (1 ≤ x ∧ x ≤ 60) ∧ (1 ≤ y ∧ y ≤ 60) ∧ (1 ≤ z ∧ z ≤ 60) ∧ (1 ≤ wt ∧ wt ≤ 99) ∧ 0 ≤ zn ∧ zn ≤ 3
  · exact ⟨0, _, _, _, _, _, _, _, ok.save h6 (ok.1.sv.come ⟨hB.1, hB.2.1, hB.2.2.1, hB.2.2.2.1, hB.2.2.2.2, by decide, by decide⟩) (fun i hi => comeS_up h7 hi), tx, hL_bring_T (by decide) C.1 ho (c5_bring C hc h7 hB), fun w1 M1 => ⟨3, _, by decide, fun _ => rfl, M1.use (fun _ _ _ _ => c_bring rfl h6 hc h7 hB)⟩⟩
  · exact ⟨1, 0, _, _, _, _, _, _, ok, tx, hL_bring_X1 (by decide) C.1 ho (c5_bringX hB) (clP_eq C), fun w1 M1 => ⟨3, _, by decide, fun q => absurd q (by decide), M1.use (fun _ _ _ _ => c_bringN hB)⟩⟩
theorem op_change (J : JS w s q kp bf T c) (p v u : Int32) : opOK mL_change mX6_change [.int p, .int v, .int u] w s q kp bf T := by
  obtain ⟨C, M, ho, ok, tx⟩ := J
  have hc := ok.1.2.1
  have h7 := ok.1.1
  have h6 := C.q6
  by_cases hp : ∃ k, k < c ∧ p = nI k
  · obtain ⟨k, hk, rfl⟩ := hp
    by_cases hB : (0 ≤ v ∧ v ≤ 1) ∧ 0 ≤ u ∧ u ≤ (if v = 0 then 2 else 8)
    · exact ⟨0, _, _, _, _, _, _, _, ok.save h6 (ok.1.sv.change hk hB) (fun i hi => kuf_ne (by split <;> omega)), tx, hL_change_T (by decide) C.1 ho (c5_change C hc h7 hk hB), fun w1 M1 => ⟨3, _, by decide, fun _ => rfl, M1.use (fun _ _ _ _ => c_change rfl h6 hc h7 hk hB)⟩⟩
    · exact ⟨2, 0, _, _, _, _, _, _, ok, tx, hL_change_X2 (by decide) C.1 ho (c5_changeB C hc h7 hk hB) (clP_eq C), fun w1 M1 => ⟨3, _, by decide, fun q => absurd q (by decide), M1.use (fun _ _ _ _ => c_changeB hc h7 hk hB)⟩⟩
  · exact ⟨1, 0, _, _, _, _, _, _, ok, tx, hL_change_X1 (by decide) C.1 ho (c5_changeA C hc h7 hp) (clP_eq C), fun w1 M1 => ⟨3, _, by decide, fun q => absurd q (by decide), M1.use (fun _ _ _ _ => c_changeA hc h7 hp)⟩⟩
theorem pR_pos {s P : Nat → Int32} (h : ¬ pR s P = 0) : 0 < pR s P := by
  unfold pR at h ⊢
  split
  · decide
  · rw [if_neg ‹_›] at h
    split
    · decide
    · rw [if_neg ‹_›] at h
      split
      · decide
      · rw [if_neg ‹_›] at h
        exact absurd rfl h
theorem op_send (J : JS w s q kp bf T c) (p : Int32) : opOK mL_send mX6_send [.int p] w s q kp bf T := by
  obtain ⟨C, M, ho, ok, tx⟩ := J
  have hc := ok.1.2.1
  have h7 := ok.1.1
  have h6 := C.q6
  by_cases hp : ∃ k, k < c ∧ p = nI k
  · obtain ⟨k, hk, rfl⟩ := hp
    have F := (ok.1.fine.2.2.1 k hk).1
    by_cases ht : pR s (pa s (21 + 7 * k)) = 0
    · exact ⟨0, _, _, _, _, _, _, _, ok.save h6 (ok.1.sv.sent hk) (fun i hi => sentS_up h7 hi), tx, hL_send_T (by decide) C.1 ho (c5_sendT C hc h7 hk F ht), fun w1 M1 => ⟨4, _, by decide, fun _ => rfl, M1.use (fun _ _ _ _ => c_sendT rfl h6 hc h7 hk F ht)⟩⟩
    · exact ⟨0, _, _, _, _, _, _, _, ok.save h6 (ok.1.sv.set (by decide)) (fun i hi => kuf_ne (by omega)), tx, hL_send_T (by decide) C.1 ho (c5_sendR C hc h7 hk rfl ht), fun w1 M1 => ⟨4, _, by decide, fun _ => rfl, M1.use (fun _ _ _ _ => c_sendR rfl h6 hc h7 hk rfl (pR_pos ht))⟩⟩
  · exact ⟨1, 0, _, _, _, _, _, _, ok, tx, hL_send_X1 (by decide) C.1 ho (c5_sendA C hc h7 hp) (clP_eq C), fun w1 M1 => ⟨4, _, by decide, fun q => absurd q (by decide), M1.use (fun _ _ _ _ => c_sendA hc h7 hp)⟩⟩
theorem len_fine {z : Int32} (h : 1 ≤ z ∧ z ≤ 999) : fineB z := by
  obtain ⟨n, h1, h2, rfl⟩ := bI (lo := 1) (hi := 999) (by decide) (by decide) h
  exact fineB_nI h1 (by omega)
theorem sub_toInt {a b : Nat} (ha : a < 100000) (hb : b < 100000) : (nI a - nI b).toInt = (a : Int) - b := by
  rw [Int32.toInt_sub, nI_toInt (by omega), nI_toInt (by omega)]
  exact Int.bmod_eq_of_le (by simp; omega) (by simp; omega)
theorem neg_toInt {a : Nat} (ha : a < 100000) : (-nI a).toInt = -(a : Int) := by
  rw [Int32.toInt_neg, nI_toInt (by omega)]
  exact Int.bmod_eq_of_le (by simp; omega) (by simp; omega)
theorem abs_iff {a b t : Nat} (ha : a < 10000) (hb : b < 10000) (ht : t < 1000) : (if 0 ≤ nI a - nI b then nI a - nI b else 0 - (nI a - nI b)) ≤ nI t ↔ -nI t ≤ nI a - nI b ∧ nI a - nI b ≤ nI t := by
  have e1 := sub_toInt (a := a) (b := b) (by omega) (by omega)
  have e2 := neg_toInt (a := t) (by omega)
  have e3 := nI_toInt (n := t) (by omega)
  have e0 : (0 : Int32).toInt = 0 := by decide
  have e4 : (0 - (nI a - nI b)).toInt = (b : Int) - a := by
    rw [Int32.toInt_sub, e1, e0]
    exact (Int.bmod_eq_of_le (by simp; omega) (by simp; omega)).trans (by omega)
  rw [Int32.le_iff_toInt_le (x := -nI t), Int32.le_iff_toInt_le (x := nI a - nI b) (y := nI t), e1, e2, e3]
  by_cases h : 0 ≤ nI a - nI b
  · rw [if_pos h, Int32.le_iff_toInt_le, e1, e3]
    rw [Int32.le_iff_toInt_le, e0, e1] at h
    omega
  · rw [if_neg h, Int32.le_iff_toInt_le, e4, e3]
    rw [Int32.le_iff_toInt_le, e0, e1] at h
    omega
theorem op_dispute (J : JS w s q kp bf T c) (p z : Int32) : opOK mL_dispute mX6_dispute [.int p, .int z] w s q kp bf T := by
  obtain ⟨C, M, ho, ok, tx⟩ := J
  have hc := ok.1.2.1
  have h7 := ok.1.1
  have h6 := C.q6
  by_cases hp : ∃ k, k < c ∧ p = nI k
  · obtain ⟨k, hk, rfl⟩ := hp
    by_cases hz : 1 ≤ z ∧ z ≤ 999
    · have hP := (ok.1.2.2.2.2.2 k hk).nat
      by_cases ht : pR s (pa s (21 + 7 * k)) = 0
      · have habs : (if 0 ≤ (z - pS s (pa s (21 + 7 * k))) then (z - pS s (pa s (21 + 7 * k))) else 0 - (z - pS s (pa s (21 + 7 * k)))) ≤ s 3 ↔ -(s 3) ≤ z - pS s (pa s (21 + 7 * k)) ∧ z - pS s (pa s (21 + 7 * k)) ≤ s 3 := by
          obtain ⟨Z, z1, z2, e⟩ := hP.str (by decide) ok.1.2.2.1.1
          obtain ⟨a, a1, a2, rfl⟩ := bI (lo := 1) (hi := 999) (by decide) (by decide) hz
          obtain ⟨t, t1, t2, e3⟩ := bI (lo := 0) (hi := 50) (by decide) (by decide) ok.1.2.2.1.2.2.2
          rw [e, e3]
          exact abs_iff (by omega) (by omega) (by omega)
        by_cases hA : (if 0 ≤ (z - pS s (pa s (21 + 7 * k))) then (z - pS s (pa s (21 + 7 * k))) else 0 - (z - pS s (pa s (21 + 7 * k)))) ≤ s 3
        · exact ⟨0, _, _, _, _, _, _, _, ok.save h6 ((ok.1.sv.set (by decide)).sent hk) (fun i hi => (sentS_up h7 hi).trans (kuf_ne (by omega))), tx, hL_dispute_T (by decide) C.1 ho (c5_dispT C hc h7 hk hz hP.fz (len_fine hz) ht hA), fun w1 M1 => ⟨4, _, by decide, fun _ => rfl, M1.use (fun _ _ _ _ => c_disputeT rfl h6 hc h7 hk hz hP.fz (len_fine hz) ht (habs.mp hA))⟩⟩
        · exact ⟨0, _, _, _, _, _, _, _, ok.save h6 (ok.1.sv.set (by decide)) (fun i hi => kuf_ne (by omega)), tx, hL_dispute_T (by decide) C.1 ho (c5_dispL C hc h7 hk hz ht hA), fun w1 M1 => ⟨4, _, by decide, fun _ => rfl, M1.use (fun _ _ _ _ => c_disputeL rfl h6 hc h7 hk hz ht (mt habs.mpr hA))⟩⟩
      · exact ⟨0, _, _, _, _, _, _, _, ok.save h6 (ok.1.sv.set (by decide)) (fun i hi => kuf_ne (by omega)), tx, hL_dispute_T (by decide) C.1 ho (c5_dispR C hc h7 hk hz rfl ht), fun w1 M1 => ⟨4, _, by decide, fun _ => rfl, M1.use (fun _ _ _ _ => c_disputeR rfl h6 hc h7 hk hz rfl (pR_pos ht))⟩⟩
    · exact ⟨2, 0, _, _, _, _, _, _, ok, tx, hL_dispute_X2 (by decide) C.1 ho (c5_dispB C hc h7 hk hz) (clP_eq C), fun w1 M1 => ⟨4, _, by decide, fun q => absurd q (by decide), M1.use (fun _ _ _ _ => c_disputeB hc h7 hk hz)⟩⟩
  · exact ⟨1, 0, _, _, _, _, _, _, ok, tx, hL_dispute_X1 (by decide) C.1 ho (c5_dispA C hc h7 hp) (clP_eq C), fun w1 M1 => ⟨4, _, by decide, fun q => absurd q (by decide), M1.use (fun _ _ _ _ => c_disputeA hc h7 hp)⟩⟩
theorem op_takeBack (J : JS w s q kp bf T c) (p : Int32) : opOK mL_takeBack mX6_takeBack [.int p] w s q kp bf T := by
  obtain ⟨C, M, ho, ok, tx⟩ := J
  have hc := ok.1.2.1
  have h7 := ok.1.1
  have h6 := C.q6
  by_cases hp : ∃ k, k < c ∧ p = nI k
  · obtain ⟨k, hk, rfl⟩ := hp
    exact ⟨0, _, _, _, _, _, _, _, ok.save h6 (ok.1.sv.gone hk) (fun i hi => goneS_up h7 hi), tx, hL_takeBack_T (by decide) C.1 ho (c5_takeBack C hc h7 hk), fun w1 M1 => ⟨3, _, by decide, fun _ => rfl, M1.use (fun _ _ _ _ => c_takeBack rfl h6 hc h7 hk)⟩⟩
  · exact ⟨1, 0, _, _, _, _, _, _, ok, tx, hL_takeBack_X1 (by decide) C.1 ho (c5_takeBackA C hc h7 hp) (clP_eq C), fun w1 M1 => ⟨3, _, by decide, fun q => absurd q (by decide), M1.use (fun _ _ _ _ => c_takeBackA hc h7 hp)⟩⟩
theorem op_price (J : JS w s q kp bf T c) (b v : Int32) : opOK mL_price mX6_price [.int b, .int v] w s q kp bf T := by
  obtain ⟨C, M, ho, ok, tx⟩ := J
  have hc := ok.1.2.1
  have h7 := ok.1.1
  have h6 := C.q6
  by_cases hb : 0 ≤ b ∧ b ≤ 11
  · obtain ⟨k, -, hk, rfl⟩ := bI (lo := 0) (hi := 11) (by decide) (by decide) hb
    have hk : k < 12 := by omega
    by_cases hB : 0 ≤ v ∧ v ≤ 99
    · exact ⟨0, _, _, _, _, _, _, _, ok.save h6 (ok.1.sv.setPrice hk hB) (fun i hi => kuf_ne (by omega)), tx, hL_price_T (by decide) C.1 ho (c5_price C hc h7 hk hB), fun w1 M1 => ⟨3, _, by decide, fun _ => rfl, M1.use (fun _ _ _ _ => c_price rfl h6 hk hB)⟩⟩
    · exact ⟨2, 0, _, _, _, _, _, _, ok, tx, hL_price_X2 (by decide) C.1 ho (c5_priceB hk hB) (clP_eq C), fun w1 M1 => ⟨3, _, by decide, fun q => absurd q (by decide), M1.use (fun _ _ _ _ => c_priceB hb hB)⟩⟩
  · exact ⟨1, 0, _, _, _, _, _, _, ok, tx, hL_price_X1 (by decide) C.1 ho (c5_priceA (fun h => hb ⟨h.1, by grind⟩)) (clP_eq C), fun w1 M1 => ⟨3, _, by decide, fun q => absurd q (by decide), M1.use (fun _ _ _ _ => c_priceA hb)⟩⟩
theorem op_zone (J : JS w s q kp bf T c) (b v : Int32) : opOK mL_zone mX6_zone [.int b, .int v] w s q kp bf T := by
  obtain ⟨C, M, ho, ok, tx⟩ := J
  have hc := ok.1.2.1
  have h7 := ok.1.1
  have h6 := C.q6
  by_cases hb : 0 ≤ b ∧ b ≤ 3
  · obtain ⟨k, -, hk, rfl⟩ := bI (lo := 0) (hi := 3) (by decide) (by decide) hb
    have hk : k < 4 := by omega
    by_cases hB : 1 ≤ v ∧ v ≤ 9
    · exact ⟨0, _, _, _, _, _, _, _, ok.save h6 (ok.1.sv.setZone hk hB) (fun i hi => kuf_ne (by omega)), tx, hL_zone_T (by decide) C.1 ho (c5_zone C hc h7 hk hB), fun w1 M1 => ⟨3, _, by decide, fun _ => rfl, M1.use (fun _ _ _ _ => c_zone rfl h6 hk hB)⟩⟩
    · exact ⟨2, 0, _, _, _, _, _, _, ok, tx, hL_zone_X2 (by decide) C.1 ho (c5_zoneB hk hB) (clP_eq C), fun w1 M1 => ⟨3, _, by decide, fun q => absurd q (by decide), M1.use (fun _ _ _ _ => c_zoneB hb hB)⟩⟩
  · exact ⟨1, 0, _, _, _, _, _, _, ok, tx, hL_zone_X1 (by decide) C.1 ho (c5_zoneA (fun h => hb ⟨h.1, by grind⟩)) (clP_eq C), fun w1 M1 => ⟨3, _, by decide, fun q => absurd q (by decide), M1.use (fun _ _ _ _ => c_zoneA hb)⟩⟩
theorem op_set (J : JS w s q kp bf T c) (b v : Int32) : opOK mL_set mX6_set [.int b, .int v] w s q kp bf T := by
  obtain ⟨C, M, ho, ok, tx⟩ := J
  have hc := ok.1.2.1
  have h7 := ok.1.1
  have h6 := C.q6
  by_cases hb : 0 ≤ b ∧ b ≤ 3
  · obtain ⟨k, -, hk, rfl⟩ := bI (lo := 0) (hi := 3) (by decide) (by decide) hb
    have hk : k < 4 := by omega
    by_cases hB : (if nI k = 1 then 50 else 0) ≤ v ∧ v ≤ (if nI k = 1 then 300 else if nI k = 3 then 50 else 20)
    · exact ⟨0, _, _, _, _, _, _, _, ok.save h6 (ok.1.sv.setSet hk hB) (fun i hi => kuf_ne (by omega)), tx, hL_set_T (by decide) C.1 ho (c5_set C hc h7 hk hB), fun w1 M1 => ⟨3, _, by decide, fun _ => rfl, M1.use (fun _ _ _ _ => c_set rfl h6 hk hB)⟩⟩
    · exact ⟨2, 0, _, _, _, _, _, _, ok, tx, hL_set_X2 (by decide) C.1 ho (c5_setB hk hB) (clP_eq C), fun w1 M1 => ⟨3, _, by decide, fun q => absurd q (by decide), M1.use (fun _ _ _ _ => c_setB hb hB)⟩⟩
  · exact ⟨1, 0, _, _, _, _, _, _, ok, tx, hL_set_X1 (by decide) C.1 ho (c5_setA (fun h => hb ⟨h.1, by grind⟩)) (clP_eq C), fun w1 M1 => ⟨3, _, by decide, fun q => absurd q (by decide), M1.use (fun _ _ _ _ => c_setA hb)⟩⟩
theorem op_append (J : JS w s q kp bf T c) (v : Int32) : opOK mL_append mX6_append [.int v] w s q kp bf T := by
  obtain ⟨C, M, ho, ok, tx⟩ := J
  by_cases hv : 33 ≤ v ∧ v ≤ 126
  · by_cases hT : T < 60
    · exact ⟨0, _, _, _, _, _, _, _, ok, ⟨hT, fun j hj => by
        by_cases e : j = T
        · subst e; rw [kuf_eq]; exact hv
        · rw [kuf_ne e]; exact tx.2 j (by omega)⟩, hL_append_T (by decide) C.1 ho (c5_append C hv hT), fun w1 M1 => ⟨3, _, by decide, fun _ => rfl, M1.use (fun _ _ _ _ => c_append hv rfl hT)⟩⟩
    · have e : T = 60 := by have := tx.1; omega
      exact ⟨2, 0, _, _, _, _, _, _, ok, tx, hL_append_X2 (by decide) C.1 ho (c5_appendB C hv hT) (clP_eq C), fun w1 M1 => ⟨3, _, by decide, fun q => absurd q (by decide), M1.use (fun _ _ _ _ => c_appendB hv (by rw [e]))⟩⟩
  · exact ⟨1, 0, _, _, _, _, _, _, ok, tx, hL_append_X1 (by decide) C.1 ho (c5_appendA hv) (clP_eq C), fun w1 M1 => ⟨3, _, by decide, fun q => absurd q (by decide), M1.use (fun _ _ _ _ => c_appendA hv)⟩⟩
theorem op_run (J : JS w s q kp bf T c) : opOK mL_run mX6_run [] w s q kp bf T := by
  obtain ⟨C, M, ho, ok, tx⟩ := J
  have hc := ok.1.2.1
  have h7 := ok.1.1
  have h6 := C.q6
  by_cases ht : tells bf T
  · obtain ⟨⟨c', r1⟩, r2⟩ := run_ok (ok.1.sv (q := q)) ht
    exact ⟨0, _, _, _, _, _, _, _, ok.save h6 r1 r2, ⟨Nat.zero_le _, fun j hj => absurd hj (Nat.not_lt_zero j)⟩, hL_run_T (by decide) C.1 ho (c5_run C hc h7 ht rfl), fun w1 M1 => ⟨5, _, by decide, fun _ => rfl, M1.use (fun _ _ _ _ => c_run rfl h6 hc h7 rfl tx.1 tx.2 ht rfl)⟩⟩
  · exact ⟨1, 0, _, _, _, _, _, _, ok, tx, hL_run_X1 (by decide) C.1 ho (c5_runA C ht) (fun w1 h => h), fun w1 M1 => ⟨5, _, by decide, fun q => absurd q (by decide), M1.use (fun _ _ _ _ => c_runA rfl tx.1 tx.2 ht)⟩⟩
theorem op_keep (J : JS w s q kp bf T c) (v : Int32) : opOK mL_keep mX6_keep [.int v] w s q kp bf T := by
  obtain ⟨C, M, ho, ok, tx⟩ := J
  have hc := ok.1.2.1
  have h7 := ok.1.1
  have h6 := C.q6
  by_cases hv : v = 0 ∨ v = 1
  · obtain ⟨b, hb, rfl⟩ : ∃ b, b < 2 ∧ v = nI b := hv.elim (fun e => ⟨0, by decide, e⟩) (fun e => ⟨1, by decide, e⟩)
    exact ⟨0, _, _, _, _, _, _, _, ok.keep h6 hb, tx, hL_keep_T (by decide) C.1 ho (c5_keep C hc h7 hb), fun w1 M1 => ⟨2, _, by decide, fun _ => rfl, M1.use (fun _ _ _ _ => c_keep hb)⟩⟩
  · exact ⟨1, 0, _, _, _, _, _, _, ok, tx, hL_keep_X1 (by decide) C.1 ho (c5_keepA hv) (clP_eq C), fun w1 M1 => ⟨2, _, by decide, fun q => absurd q (by decide), M1.use (fun _ _ _ _ => c_keepA hv)⟩⟩
theorem op_goBack (J : JS w s q kp bf T c) (v : Int32) : opOK mL_goBack mX6_goBack [.int v] w s q kp bf T := by
  obtain ⟨C, M, ho, ok, tx⟩ := J
  have hc := ok.1.2.1
  have h7 := ok.1.1
  have h6 := C.q6
  by_cases hv : v = 0 ∨ v = 1
  · obtain ⟨b, hb, rfl⟩ : ∃ b, b < 2 ∧ v = nI b := hv.elim (fun e => ⟨0, by decide, e⟩) (fun e => ⟨1, by decide, e⟩)
    by_cases hk : kp b = 0
    · exact ⟨2, 0, _, _, _, _, _, _, ok, tx, hL_goBack_X2 (by decide) C.1 ho (c5_goBackB C hb hk) (clP_eq C), fun w1 M1 => ⟨3, _, by decide, fun q => absurd q (by decide), M1.use (fun _ _ _ _ => c_goBackB hb hk)⟩⟩
    · obtain ⟨c', r⟩ := ok.back h6 hb hk
      exact ⟨0, _, _, _, _, _, _, _, r, tx, hL_goBack_T (by decide) C.1 ho (c5_goBack C hc h7 hb hk), fun w1 M1 => ⟨3, _, by decide, fun _ => rfl, M1.use (fun _ _ _ _ => c_goBack rfl h6 hb hk)⟩⟩
  · exact ⟨1, 0, _, _, _, _, _, _, ok, tx, hL_goBack_X1 (by decide) C.1 ho (c5_goBackA hv) (clP_eq C), fun w1 M1 => ⟨3, _, by decide, fun q => absurd q (by decide), M1.use (fun _ _ _ _ => c_goBackA hv)⟩⟩
theorem op_undo (J : JS w s q kp bf T c) : opOK mL_undo mX6_undo [] w s q kp bf T := by
  obtain ⟨C, M, ho, ok, tx⟩ := J
  have h6 := C.q6
  match q, C, ok, h6 with
  | 0, C, ok, _ => exact ⟨1, 0, _, _, _, _, _, _, ok, tx, hL_undo_X1 (by decide) C.1 ho (c5_undoA C) (clP_eq C), fun w1 M1 => ⟨2, _, by decide, fun q => absurd q (by decide), M1.use (fun _ _ _ _ => c_undoA rfl)⟩⟩
  | q + 1, C, ok, h6 =>
    obtain ⟨c', r⟩ := ok.undo
    exact ⟨0, _, _, _, _, _, _, _, r, tx, hL_undo_T (by decide) C.1 ho (c5_undo C), fun w1 M1 => ⟨2, _, by decide, fun _ => rfl, M1.use (fun _ _ _ _ => c_undo rfl (by omega))⟩⟩
theorem op_parcelOf (J : JS w s q kp bf T c) (p v : Int32) : opOK mL_parcelOf mX6_parcelOf [.int p, .int v] w s q kp bf T := by
  obtain ⟨C, M, ho, ok, tx⟩ := J
  have hc := ok.1.2.1
  have h7 := ok.1.1
  by_cases hp : ∃ k, k < c ∧ p = nI k
  · obtain ⟨k, hk, rfl⟩ := hp
    have F := (ok.1.fine.2.2.1 k hk).1
    by_cases hv : 0 ≤ v ∧ v ≤ 10
    · obtain ⟨j, -, hj, rfl⟩ := bI (lo := 0) (hi := 10) (by decide) (by decide) hv
      have hj : j < 11 := by omega
      exact ⟨0, _, _, _, _, _, _, _, ok, tx, hL_parcelOf_T (by decide) C.1 ho ((c5_parcelOf C hc h7 hk hj F).toW ⟨C, fun _ _ => rfl⟩), fun w1 M1 => ⟨5, _, by decide, fun _ => rfl, M1.use (fun _ _ _ _ => c_parcelOf hc h7 hk hj F)⟩⟩
    · exact ⟨2, 0, _, _, _, _, _, _, ok, tx, hL_parcelOf_X2 (by decide) C.1 ho (c5_parcelOfB C hc h7 hk hv) (clP_eq C), fun w1 M1 => ⟨5, _, by decide, fun q => absurd q (by decide), M1.use (fun _ _ _ _ => c_parcelOfB hc h7 hk hv)⟩⟩
  · exact ⟨1, 0, _, _, _, _, _, _, ok, tx, hL_parcelOf_X1 (by decide) C.1 ho (c5_parcelOfA C hc h7 hp) (clP_eq C), fun w1 M1 => ⟨5, _, by decide, fun q => absurd q (by decide), M1.use (fun _ _ _ _ => c_parcelOfA hc h7 hp)⟩⟩
theorem op_rate (J : JS w s q kp bf T c) (z v : Int32) : opOK mL_rate mX6_rate [.int z, .int v] w s q kp bf T := by
  obtain ⟨C, M, ho, ok, tx⟩ := J
  have hc := ok.1.2.1
  have h7 := ok.1.1
  by_cases hz : (1 ≤ z ∧ z ≤ 999) ∧ (0 ≤ v ∧ v ≤ 1)
  · obtain ⟨K, hK, hb⟩ := len_fine hz.1
    exact ⟨0, _, _, _, _, _, _, _, ok, tx, hL_rate_T (by decide) C.1 ho ((c5_rate C hc h7 hz.1 hz.2 hb hK).toW ⟨C, fun _ _ => rfl⟩), fun w1 M1 => ⟨3, _, by decide, fun _ => rfl, M1.use (fun _ _ _ _ => c_rate hz.1 hz.2 hb hK)⟩⟩
  · exact ⟨1, 0, _, _, _, _, _, _, ok, tx, hL_rate_X1 (by decide) C.1 ho (c5_rateA hz) (clP_eq C), fun w1 M1 => ⟨3, _, by decide, fun q => absurd q (by decide), M1.use (fun _ _ _ _ => c_rateA hz)⟩⟩
theorem op_count (J : JS w s q kp bf T c) (v : Int32) : opOK mL_count mX6_count [.int v] w s q kp bf T := by
  obtain ⟨C, M, ho, ok, tx⟩ := J
  have hc := ok.1.2.1
  have h7 := ok.1.1
  by_cases hv : 0 ≤ v ∧ v ≤ 9
  · obtain ⟨j, -, hj, rfl⟩ := bI (lo := 0) (hi := 9) (by decide) (by decide) hv
    have hj : j < 10 := by omega
    exact ⟨0, _, _, _, _, _, _, _, ok, tx, hL_count_T (by decide) C.1 ho ((c5_count C hc h7 hj).toW ⟨C, fun _ _ => rfl⟩), fun w1 M1 => ⟨5, _, by decide, fun _ => rfl, M1.use (fun _ _ _ _ => c_count hc h7 hj)⟩⟩
  · exact ⟨1, 0, _, _, _, _, _, _, ok, tx, hL_count_X1 (by decide) C.1 ho (c5_countA hv) (clP_eq C), fun w1 M1 => ⟨5, _, by decide, fun q => absurd q (by decide), M1.use (fun _ _ _ _ => c_countA hv)⟩⟩
theorem op_setting (J : JS w s q kp bf T c) (v : Int32) : opOK mL_setting mX6_setting [.int v] w s q kp bf T := by
  obtain ⟨C, M, ho, ok, tx⟩ := J
  have hc := ok.1.2.1
  have h7 := ok.1.1
  by_cases hv : 0 ≤ v ∧ v ≤ 3
  · obtain ⟨j, -, hj, rfl⟩ := bI (lo := 0) (hi := 3) (by decide) (by decide) hv
    have hj : j < 4 := by omega
    exact ⟨0, _, _, _, _, _, _, _, ok, tx, hL_setting_T (by decide) C.1 ho ((c5_setting C hc h7 hj).toW ⟨C, fun _ _ => rfl⟩), fun w1 M1 => ⟨5, _, by decide, fun _ => rfl, M1.use (fun _ _ _ _ => c_setting hj)⟩⟩
  · exact ⟨1, 0, _, _, _, _, _, _, ok, tx, hL_setting_X1 (by decide) C.1 ho (c5_settingA (fun h => hv ⟨h.1, by grind⟩)) (clP_eq C), fun w1 M1 => ⟨5, _, by decide, fun q => absurd q (by decide), M1.use (fun _ _ _ _ => c_settingA hv)⟩⟩
theorem op_cheapestWay (J : JS w s q kp bf T c) (p : Int32) : opOK mL_cheapestWay mX6_cheapestWay [.int p] w s q kp bf T := by
  obtain ⟨C, M, ho, ok, tx⟩ := J
  have hc := ok.1.2.1
  have h7 := ok.1.1
  by_cases hp : ∃ k, k < c ∧ p = nI k
  · obtain ⟨k, hk, rfl⟩ := hp
    have F := (ok.1.fine.2.2.1 k hk).2
    exact ⟨0, _, _, _, _, _, _, _, ok, tx, hL_cheapestWay_T (by decide) C.1 ho ((c5_cheapestWay C hc h7 hk F).toW ⟨C, fun _ _ => rfl⟩), fun w1 M1 => ⟨5, _, by decide, fun _ => rfl, M1.use (fun _ _ _ _ => c_cheapestWay hc h7 hk F)⟩⟩
  · exact ⟨1, 0, _, _, _, _, _, _, ok, tx, hL_cheapestWay_X1 (by decide) C.1 ho (c5_cheapestWayA C hc h7 hp) (clP_eq C), fun w1 M1 => ⟨5, _, by decide, fun q => absurd q (by decide), M1.use (fun _ _ _ _ => c_cheapestWayA hc h7 hp)⟩⟩
theorem op_ifBundled (J : JS w s q kp bf T c) (p v : Int32) : opOK mL_ifBundled mX6_ifBundled [.int p, .int v] w s q kp bf T := by
  obtain ⟨C, M, ho, ok, tx⟩ := J
  have hc := ok.1.2.1
  have h7 := ok.1.1
  by_cases hp : ∃ k, k < c ∧ p = nI k
  · by_cases hv : ∃ k, k < c ∧ v = nI k
    · obtain ⟨k, hk, rfl⟩ := hp
      obtain ⟨j, hj, rfl⟩ := hv
      by_cases hne : k = j
      · subst hne
        exact ⟨2, 0, _, _, _, _, _, _, ok, tx, hL_ifBundled_X2 (by decide) C.1 ho (c5_ifBundledB C hc h7 hk) (clP_eq C), fun w1 M1 => ⟨5, _, by decide, fun q => absurd q (by decide), M1.use (fun _ _ _ _ => c_ifBundledB hc h7 hk)⟩⟩
      · exact ⟨0, _, _, _, _, _, _, _, ok, tx, hL_ifBundled_T (by decide) C.1 ho (c5_ifBundled C hc h7 ok.1.fine ok.1.nn hk hj hne), fun w1 M1 => ⟨5, _, by decide, fun _ => rfl, M1.use (fun _ _ _ _ => c_ifBundled hc h7 ok.1.fine hk hj hne)⟩⟩
    · have hpv : ¬ ((∃ k, k < c ∧ p = nI k) ∧ ∃ j, j < c ∧ v = nI j) := fun h => hv h.2
      obtain ⟨k, hk, rfl⟩ := hp
      exact ⟨1, 0, _, _, _, _, _, _, ok, tx, hL_ifBundled_X1 (by decide) C.1 ho (c5_ifBundledA2 C hc h7 hk hv) (clP_eq C), fun w1 M1 => ⟨5, _, by decide, fun q => absurd q (by decide), M1.use (fun _ _ _ _ => c_ifBundledA hc h7 hpv)⟩⟩
  · exact ⟨1, 0, _, _, _, _, _, _, ok, tx, hL_ifBundled_X1 (by decide) C.1 ho (c5_ifBundledA C hc h7 hp) (clP_eq C), fun w1 M1 => ⟨5, _, by decide, fun q => absurd q (by decide), M1.use (fun _ _ _ _ => c_ifBundledA hc h7 (fun h => hp h.1))⟩⟩
theorem op_cheapest (J : JS w s q kp bf T c) (v : Int32) : opOK mL_cheapest mX6_cheapest [.int v] w s q kp bf T := by
  obtain ⟨C, M, ho, ok, tx⟩ := J
  have hc := ok.1.2.1
  have h7 := ok.1.1
  by_cases hv : 0 ≤ v ∧ v ≤ 1
  · exact ⟨0, _, _, _, _, _, _, _, ok, tx, hL_cheapest_T (by decide) C.1 ho (c5_cheapest C hc h7 ok.1.fine ok.1.nn hv), fun w1 M1 => ⟨8, _, by decide, fun _ => by rw [try_alike ok.1], M1.use (fun _ _ _ _ => c_cheapest ok.1.fine hv)⟩⟩
  · exact ⟨1, 0, _, _, _, _, _, _, ok, tx, hL_cheapest_X1 (by decide) C.1 ho (c5_cheapestA hv) (clP_eq C), fun w1 M1 => ⟨8, _, by decide, fun q => absurd q (by decide), M1.use (fun _ _ _ _ => c_cheapestA hv)⟩⟩
end OPS
