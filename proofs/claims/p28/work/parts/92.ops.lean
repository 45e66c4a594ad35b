/-! ===== calls that change the office, as the law makes them ===== -/
theorem lgc0 {x : Int64} : lg_cmp x x = 0 := by
  unfold lg_cmp
  rw [if_neg (Int64.lt_irrefl), if_pos rfl]
theorem sent_70 {s : Nat → Int32} {k c : Nat} {z : Int32} (hc : c ≤ 7) : sentS s k c z 70 = s 70 + z ∧ sentS s k c z 71 = s 71 + 1 ∧ sentS s k c z 72 = s 72 := by
  unfold sentS
  rw [goneS_hi hc (by decide), goneS_hi hc (by decide), goneS_hi hc (by decide)]
  exact ⟨by rw [kuf_ne (by decide), kuf_eq], by rw [kuf_eq], by rw [kuf_ne (by decide), kuf_ne (by decide)]⟩
theorem sent_lo {s : Nat → Int32} {k c i : Nat} {z : Int32} (h : i < 20) : sentS s k c z i = s i := by
  unfold sentS
  rw [goneS_lo h, kuf_ne (by omega), kuf_ne (by omega)]
def bz (z : Nat) : Nat := if z ≤ 600 then (z - 1) / 50 else 11
theorem bz_ok : ∀ z : Nat, z < 1000 → 1 ≤ z → bnd (nI z) = nI (bz z) ∧ bz z < 12 := by decide +kernel
theorem bz_mono {a b : Nat} (h : a ≤ b) : bz a ≤ bz b := by
  unfold bz
  split <;> split <;> omega
theorem pW_mono {m : Nat} {s : Nat → Int32} {c k : Nat} (G : okG m s c) (hk : k < c) {z1 z2 : Nat} (h1 : 1 ≤ z1) (h2 : z1 ≤ z2) (h3 : z2 ≤ 999) : ∃ W1 W2, pW s (pa s (21 + 7 * k)) (nI z1) = nI W1 ∧ pW s (pa s (21 + 7 * k)) (nI z2) = nI W2 ∧ W1 ≤ W2 ∧ W2 ≤ 2000 := by
  have N := G.1
  obtain ⟨p0, p1, p2, p3, p4, p5, p6⟩ := N.2.2.2.2.2 k hk
  obtain ⟨z, -, zz, hz⟩ := bI (lo := 0) (hi := 3) (by decide) (by decide) p4
  obtain ⟨co, -, c2, hc⟩ := bI (lo := 0) (hi := 8) (by decide) (by decide) p5
  obtain ⟨x2, -, x22, hx2⟩ := bI (lo := 0) (hi := 20) (by decide) (by decide) N.2.2.1.2.2.1
  obtain ⟨f, f1, f2, hf⟩ := bI (lo := 1) (hi := 9) (by decide) (by decide) (N.2.2.2.2.1 z (by omega))
  obtain ⟨a1, a2⟩ := bz_ok z1 (by omega) h1
  obtain ⟨b1, b2⟩ := bz_ok z2 (by omega) (by omega)
  have hm := bz_mono h2
  obtain ⟨R1, R2, r1, r2, r3, r4⟩ := N.rmM (bz z2 - bz z1) (bz z1 + 1) (by omega)
  rw [show bz z1 + 1 + (bz z2 - bz z1) = bz z2 + 1 by omega] at r2
  have m0 : R1 * f ≤ R2 * f := Nat.mul_le_mul_right f r3
  have m1 : R2 * f ≤ 99 * 9 := Nat.mul_le_mul r4 f2
  have m2 : x2 * co ≤ 20 * 8 := Nat.mul_le_mul x22 c2
  rw [pW_of a1 a2 hz (by omega), pW_of b1 b2 hz (by omega), r1, r2, hf, hx2, hc, nI_mul, nI_mul, nI_mul, nI_2e, nI_div (by omega) (by decide) (by decide), nI_div (by omega) (by decide) (by decide)]
  split
  · rw [nI_add, nI_add, nI_add, nI_add]
    exact ⟨_, _, rfl, rfl, by omega, by omega⟩
  · rw [nI_0e, nI_add, nI_add, nI_add, nI_add]
    exact ⟨_, _, rfl, rfl, by omega, by omega⟩
section OPS
variable {m c : Nat} {s0 : Nat → Int32} {w : kM}
theorem noK {c p : Nat} (h : c ≤ p) (hp : p < 100) (hc : c ≤ 7) : ¬ ∃ k, k < c ∧ nI p = nI k := by
  rintro ⟨k, k1, k2⟩
  have := (nI_eq (by omega) (by omega)).mp k2
  omega
theorem kCtrX.toK {M : kMi} {d : Nat} {As : List Value} {E : String} (h : K m s0 c w) (t : kCtrX M d As w E (fun w' => w' = w)) : kCtrX M d As w E (K m s0 c) := t.weak (fun w' e => by rw [e]; exact h)
theorem K.sendX (h : K m s0 c w) {p : Nat} (hp : c ≤ p) (hp2 : p < 100) : kCtrG mL_send 12 1 6 [.ref 0, .int (nI p)] w (.int (-1000001)) (K m s0 c) := by
  obtain ⟨s, q, ⟨C, N, R⟩, e⟩ := id h
  exact hL_send_X1 (by decide) C.1 (kCtrX.toK h (c5_sendA C N.1.2.1 N.1.1 (noK hp hp2 N.1.1)))
theorem K.dispX (h : K m s0 c w) {p : Nat} (hp : c ≤ p) (hp2 : p < 100) {z : Int32} : kCtrG mL_dispute 12 1 6 [.ref 0, .int (nI p), .int z] w (.int (-1000001)) (K m s0 c) := by
  obtain ⟨s, q, ⟨C, N, R⟩, e⟩ := id h
  exact hL_dispute_X1 (by decide) C.1 (kCtrX.toK h (c5_dispA C N.1.2.1 N.1.1 (noK hp hp2 N.1.1)))
theorem K.backX (h : K m s0 c w) {p : Nat} (hp : c ≤ p) (hp2 : p < 100) : kCtrG mL_takeBack 12 1 6 [.ref 0, .int (nI p)] w (.int (-1000001)) (K m s0 c) := by
  obtain ⟨s, q, ⟨C, N, R⟩, e⟩ := id h
  exact hL_takeBack_X1 (by decide) C.1 (kCtrX.toK h (c5_takeBackA C N.1.2.1 N.1.1 (noK hp hp2 N.1.1)))
theorem K.bundX (h : K m s0 c w) {p : Nat} (hp : p < c) : kCtrG mL_ifBundled 12 1 6 [.ref 0, .int (nI p), .int (nI p)] w (.int (-1000002)) (K m s0 c) := by
  obtain ⟨s, q, ⟨C, N, R⟩, e⟩ := id h
  exact hL_ifBundled_X2 (by decide) C.1 (kCtrX.toK h (c5_ifBundledB C N.1.2.1 N.1.1 hp))
theorem K.sendT (h : K m s0 c w) {k : Nat} (hk : k < c) (ht : pR s0 (pa s0 (21 + 7 * k)) = 0) : kCtrW mL_send 12 [.ref 0, .int (nI k)] w (some (.int (10 + pP s0 (pa s0 (21 + 7 * k))))) (fun w' => ∃ s1, Dn m s0 c s1 (c - 1) w' ∧ s1 70 = s0 70 + pP s0 (pa s0 (21 + 7 * k)) ∧ s1 71 = s0 71 + 1) := by
  have N0 := h.ok.1
  obtain ⟨s, q, ⟨C, N, R⟩, e⟩ := h
  have h7 := N.1.1
  have eP : pP s (pa s (21 + 7 * k)) = pP s0 (pa s0 (21 + 7 * k)) := pP_congr e (fun j hj => e _ (by omega)) (N0.fine.2.2.1 k hk).1
  have eR : pR s (pa s (21 + 7 * k)) = 0 := (pR_congr e (fun j hj => e _ (by omega))).trans ht
  have t := c5_sendT C N.1.2.1 h7 hk (N.1.fine.2.2.1 k hk).1 eR
  rw [eP] at t
  obtain ⟨a1, a2, -⟩ := sent_70 (s := svS s q) (k := k) (c := c) (z := pP s0 (pa s0 (21 + 7 * k))) h7
  refine hL_send_T (by decide) C.1 (t.weak (fun w' hw => ⟨_, ⟨s, q, ⟨N, R, C.q6, e⟩, hw.1, fun i hi => sentS_up h7 hi, N.1.sv.sent hk⟩, ?_, ?_⟩))
  · rw [a1, svS_low (by decide), e 70 (by decide)]
  · rw [a2, svS_low (by decide), e 71 (by decide)]
theorem K.sendR (h : K m s0 c w) {k : Nat} (hk : k < c) (ht : ¬ pR s0 (pa s0 (21 + 7 * k)) = 0) : kCtrW mL_send 12 [.ref 0, .int (nI k)] w (some (.int (pR s0 (pa s0 (21 + 7 * k))))) (fun w' => ∃ s1, Dn m s0 c s1 c w' ∧ s1 70 = s0 70 ∧ s1 74 = s0 74 + 1) := by
  obtain ⟨s, q, ⟨C, N, R⟩, e⟩ := h
  have h7 := N.1.1
  have eR : pR s (pa s (21 + 7 * k)) = pR s0 (pa s0 (21 + 7 * k)) := pR_congr e (fun j hj => e _ (by omega))
  refine hL_send_T (by decide) C.1 ((c5_sendR C N.1.2.1 h7 hk eR ht).weak (fun w' hw => ⟨_, ⟨s, q, ⟨N, R, C.q6, e⟩, hw.1, fun i hi => kuf_ne (by omega), N.1.sv.set (by decide)⟩, ?_, ?_⟩))
  · rw [kuf_ne (by decide), svS_low (by decide), e 70 (by decide)]
  · rw [kuf_eq, svS_low (by decide), e 74 (by decide)]
theorem sub_toInt {a b : Nat} (ha : a < 100000) (hb : b < 100000) : (nI a - nI b).toInt = (a : Int) - b := by
  rw [Int32.toInt_sub, nI_toInt (by omega), nI_toInt (by omega)]
  exact Int.bmod_eq_of_le (by simp; omega) (by simp; omega)
theorem absI {a b : Nat} (ha : a < 100000) (hb : b < 100000) : (if 0 ≤ nI a - nI b then nI a - nI b else 0 - (nI a - nI b)) = nI (if b ≤ a then a - b else b - a) := by
  by_cases h : b ≤ a
  · rw [kS rfl rfl h, if_pos (show (0 : Int32) ≤ nI (a - b) from nI_le (a := 0) (Nat.zero_le _) (by omega)), if_pos h]
  · have e : (0 : Int32) - (nI a - nI b) = nI (b - a) := by
      rw [← kS (a := b) (b := a) rfl rfl (by omega), Int32.zero_sub, Int32.neg_sub]
    have e2 : ¬ (0 : Int32) ≤ nI a - nI b := fun q => by
      have q3 : nI (b - a) ≤ 0 := by
        rw [← e, Int32.le_iff_toInt_le]
        have q2 := Int32.le_iff_toInt_le.mp q
        rw [sub_toInt ha hb] at q2
        have : (0 : Int32).toInt = 0 := by decide
        omega
      have := (kLeI (a := b - a) (b := 0) (by omega) (by decide) rfl rfl).mp q3
      omega
    rw [if_neg e2, e, if_neg h]
/-- a dispute about the length z: what it answers, what becomes of the office -/
theorem K.dispT (h : K m s0 c w) {k z Z x3 : Nat} (hk : k < c) (ht : pR s0 (pa s0 (21 + 7 * k)) = 0) (hZ : pS s0 (pa s0 (21 + 7 * k)) = nI Z) (hz : 1 ≤ z ∧ z ≤ 999) (hZ9 : Z ≤ 999) (h3 : s0 3 = nI x3) (hx3 : x3 ≤ 50) (hA : (if Z ≤ z then z - Z else Z - z) ≤ x3) : kCtrW mL_dispute 12 [.ref 0, .int (nI k), .int (nI z)] w (some (.int (10 + pW s0 (pa s0 (21 + 7 * k)) (nI z)))) (fun w' => ∃ s1, Dn m s0 c s1 (c - 1) w' ∧ s1 3 = s0 3) := by
  have N0 := h.ok.1
  obtain ⟨s, q, ⟨C, N, R⟩, e⟩ := h
  have h7 := N.1.1
  have eS : pS s (pa s (21 + 7 * k)) = nI Z := (pS_congr e (fun j hj => e _ (by omega))).trans hZ
  have eR : pR s (pa s (21 + 7 * k)) = 0 := (pR_congr e (fun j hj => e _ (by omega))).trans ht
  obtain ⟨B1, B2⟩ := bz_ok z (by omega) hz.1
  have hfz := (N0.fine.2.2.1 k hk).1.1
  have eW : pW s (pa s (21 + 7 * k)) (nI z) = pW s0 (pa s0 (21 + 7 * k)) (nI z) := pW_congr e (fun j hj => e _ (by omega)) hfz ⟨_, B2, B1⟩
  have t := c5_dispT C N.1.2.1 h7 hk (z := nI z) ⟨nI_le (a := 1) hz.1 (by omega), nI_le (b := 999) hz.2 (by decide)⟩ (N.1.fine.2.2.1 k hk).1.1 ⟨_, B2, B1⟩ eR (by rw [eS, absI (by omega) (by omega), e 3 (by decide), h3]; exact nI_le hA (by omega))
  rw [eW] at t
  refine hL_dispute_T (by decide) C.1 (t.weak (fun w' hw => ⟨_, ⟨s, q, ⟨N, R, C.q6, e⟩, hw.1, fun i hi => (sentS_up h7 hi).trans (kuf_ne (by omega)), (N.1.sv.set (by decide)).sent hk⟩, ?_⟩))
  rw [sent_lo (by decide), kuf_ne (by decide), svS_low (by decide), e 3 (by decide)]
theorem K.dispL (h : K m s0 c w) {k z Z x3 : Nat} (hk : k < c) (ht : pR s0 (pa s0 (21 + 7 * k)) = 0) (hZ : pS s0 (pa s0 (21 + 7 * k)) = nI Z) (hz : 1 ≤ z ∧ z ≤ 999) (hZ9 : Z ≤ 999) (h3 : s0 3 = nI x3) (hx3 : x3 ≤ 50) (hA : ¬ (if Z ≤ z then z - Z else Z - z) ≤ x3) : kCtrW mL_dispute 12 [.ref 0, .int (nI k), .int (nI z)] w (some (.int 4)) (fun w' => ∃ s1, Dn m s0 c s1 c w' ∧ s1 73 = s0 73 + 1 ∧ s1 3 = s0 3) := by
  obtain ⟨s, q, ⟨C, N, R⟩, e⟩ := h
  have h7 := N.1.1
  have eS : pS s (pa s (21 + 7 * k)) = nI Z := (pS_congr e (fun j hj => e _ (by omega))).trans hZ
  have eR : pR s (pa s (21 + 7 * k)) = 0 := (pR_congr e (fun j hj => e _ (by omega))).trans ht
  have hd : (if Z ≤ z then z - Z else Z - z) < 100000 := by split <;> omega
  refine hL_dispute_T (by decide) C.1 ((c5_dispL C N.1.2.1 h7 hk (z := nI z) ⟨nI_le (a := 1) hz.1 (by omega), nI_le (b := 999) hz.2 (by decide)⟩ eR (by rw [eS, absI (by omega) (by omega), e 3 (by decide), h3]; exact fun q => hA ((kLeI (by omega) (by omega) rfl rfl).mp q))).weak (fun w' hw => ⟨_, ⟨s, q, ⟨N, R, C.q6, e⟩, hw.1, fun i hi => kuf_ne (by omega), N.1.sv.set (by decide)⟩, ?_, ?_⟩))
  · rw [kuf_eq, svS_low (by decide), e 73 (by decide)]
  · rw [kuf_ne (by decide), svS_low (by decide), e 3 (by decide)]
theorem K.dispR (h : K m s0 c w) {k z : Nat} (hk : k < c) (ht : ¬ pR s0 (pa s0 (21 + 7 * k)) = 0) (hz : 1 ≤ z ∧ z ≤ 999) : kCtrW mL_dispute 12 [.ref 0, .int (nI k), .int (nI z)] w (some (.int (pR s0 (pa s0 (21 + 7 * k))))) (fun w' => ∃ s1, Dn m s0 c s1 c w') := by
  obtain ⟨s, q, ⟨C, N, R⟩, e⟩ := h
  have h7 := N.1.1
  have eR : pR s (pa s (21 + 7 * k)) = pR s0 (pa s0 (21 + 7 * k)) := pR_congr e (fun j hj => e _ (by omega))
  exact hL_dispute_T (by decide) C.1 ((c5_dispR C N.1.2.1 h7 hk (z := nI z) ⟨nI_le (a := 1) hz.1 (by omega), nI_le (b := 999) hz.2 (by decide)⟩ eR ht).weak (fun w' hw => ⟨_, s, q, ⟨N, R, C.q6, e⟩, hw.1, fun i hi => kuf_ne (by omega), N.1.sv.set (by decide)⟩))
end OPS
