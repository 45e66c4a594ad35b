/-! ===== a parcel's numbers as naturals ===== -/
theorem pR_nat {s P : Nat → Int32} {x1 g wt co v : Nat} (h1 : s 1 = nI x1) (hG : pG P = nI g) (h3 : P 3 = nI wt) (h5 : P 5 = nI co) (h6 : P 6 = nI v) (b1 : x1 < 1000) (b2 : g < 1000) (b3 : wt < 1000) (b5 : co < 1000) (b6 : v < 1000) :
    pR s P = nI (if (30 < wt ∧ v = 0) ∨ (60 < wt ∧ v = 1) then 1 else if 2 * x1 < g then 2 else if 0 < co ∧ v = 0 then 3 else 0) := by
  have e1 : (30 < P 3 ∧ P 6 = 0) ↔ (30 < wt ∧ v = 0) := and_congr (kLtI (a := 30) (b := wt) (by omega) (by omega) rfl h3) (kEqI (a := v) (b := 0) (by omega) (by omega) h6 rfl)
  have e2 : (60 < P 3 ∧ P 6 = 1) ↔ (60 < wt ∧ v = 1) := and_congr (kLtI (a := 60) (b := wt) (by omega) (by omega) rfl h3) (kEqI (a := v) (b := 1) (by omega) (by omega) h6 rfl)
  have e3 : 2 * s 1 < pG P ↔ 2 * x1 < g := kLtI (a := 2 * x1) (b := g) (by omega) (by omega) (by rw [h1, nI_2e, nI_mul]) hG
  have e4 : (0 < P 5 ∧ P 6 = 0) ↔ (0 < co ∧ v = 0) := and_congr (kLtI (a := 0) (b := co) (by omega) (by omega) rfl h5) (kEqI (a := v) (b := 0) (by omega) (by omega) h6 rfl)
  unfold pR
  by_cases c1 : (30 < wt ∧ v = 0) ∨ (60 < wt ∧ v = 1)
  · rw [if_pos ((or_congr e1 e2).mpr c1), if_pos c1]
    rfl
  · rw [if_neg (mt (or_congr e1 e2).mp c1), if_neg c1]
    by_cases c2 : 2 * x1 < g
    · rw [if_pos (e3.mpr c2), if_pos c2]
      rfl
    · rw [if_neg (mt e3.mp c2), if_neg c2]
      by_cases c3 : 0 < co ∧ v = 0
      · rw [if_pos (e4.mpr c3), if_pos c3]
        rfl
      · rw [if_neg (mt e4.mp c3), if_neg c3]
        rfl
theorem pS_nat {s P : Nat → Int32} {a b d v x0 : Nat} (h0 : P 0 = nI a) (h1 : P 1 = nI b) (h2 : P 2 = nI d) (h6 : P 6 = nI v) (hx : s 0 = nI x0) (b1 : 1 ≤ d ∧ d ≤ 60 ∧ 1 ≤ b ∧ b ≤ 60 ∧ 1 ≤ a ∧ a ≤ 60 ∧ x0 ≤ 20) (b2 : d ≤ a) (hv : v ≤ 2) : ∃ Z, pS s P = nI Z ∧ 1 ≤ Z ∧ Z ≤ 999 ∧ (0 < x0 → 2 * (b + d) < Z) := by
  unfold pS
  rw [h0, h1, h2, h6, hx, nI_1, nI_1e, nI_2e, nI_4e, nI_6e]
  by_cases e0 : v = 0
  · subst e0
    rw [if_pos rfl]
    simp only [nI_mul, nI_add]
    exact ⟨_, rfl, by omega, by omega, by omega⟩
  · by_cases e1 : v = 1
    · subst e1
      rw [if_neg (by decide), if_pos rfl]
      simp only [nI_mul, nI_add]
      exact ⟨_, rfl, by omega, by omega, by omega⟩
    · obtain rfl : v = 2 := by omega
      rw [if_neg (by decide), if_neg (by decide)]
      simp only [nI_mul, nI_add]
      exact ⟨_, rfl, by omega, by omega, by omega⟩
theorem pview {m : Nat} {s : Nat → Int32} {c k : Nat} (G : okG m s c) (hk : k < c) : ∃ a b d wt z co v x0 x1 x2 gi Z R W B r : Nat,
    (pa s (21 + 7 * k) 0 = nI a ∧ pa s (21 + 7 * k) 1 = nI b ∧ pa s (21 + 7 * k) 2 = nI d ∧ pa s (21 + 7 * k) 3 = nI wt ∧ pa s (21 + 7 * k) 4 = nI z ∧ pa s (21 + 7 * k) 5 = nI co ∧ pa s (21 + 7 * k) 6 = nI v) ∧ (s 0 = nI x0 ∧ s 1 = nI x1 ∧ s 2 = nI x2) ∧
    (1 ≤ d ∧ d ≤ b ∧ b ≤ a ∧ a ≤ 60 ∧ 1 ≤ wt ∧ wt ≤ 99 ∧ z < 4 ∧ co ≤ 8 ∧ v ≤ 2 ∧ x0 ≤ 20 ∧ 50 ≤ x1 ∧ x1 ≤ 300 ∧ x2 ≤ 20) ∧ (pG (pa s (21 + 7 * k)) = nI gi ∧ gi = a + 2 * (b + d)) ∧
    (pS s (pa s (21 + 7 * k)) = nI Z ∧ 1 ≤ Z ∧ Z ≤ 999 ∧ (0 < x0 → 2 * (b + d) < Z)) ∧ (bnd (pS s (pa s (21 + 7 * k))) = nI B ∧ B < 12 ∧ rM s (B + 1) = nI R ∧ R ≤ 99) ∧
    (pP s (pa s (21 + 7 * k)) = nI W ∧ W ≤ 2000 ∧ co * x2 ≤ W ∧ R ≤ W - co * x2 ∧ (¬ x1 < gi → ¬ R = 0 → (W - co * x2) % R = 0)) ∧
    (pR s (pa s (21 + 7 * k)) = nI r ∧ r ≤ 3 ∧ (r = 0 → ¬ (30 < wt ∧ v = 0) ∧ ¬ (0 < co ∧ v = 0))) := by
  obtain ⟨N, ho, -⟩ := G
  obtain ⟨o1, o2⟩ := ho k hk
  have okp := N.2.2.2.2.2 k hk
  obtain ⟨p0, p1, p2, p3, p4, p5, p6⟩ := okp
  obtain ⟨s0, s1, s2, -⟩ := N.2.2.1
  obtain ⟨a, a1, a2, ha⟩ := bI (lo := 1) (hi := 60) (by decide) (by decide) p0
  obtain ⟨b, b1, b2, hb⟩ := bI (lo := 1) (hi := 60) (by decide) (by decide) p1
  obtain ⟨d, d1, d2, hd⟩ := bI (lo := 1) (hi := 60) (by decide) (by decide) p2
  obtain ⟨wt, w1, w2, hw⟩ := bI (lo := 1) (hi := 99) (by decide) (by decide) p3
  obtain ⟨z, -, z2, hz⟩ := bI (lo := 0) (hi := 3) (by decide) (by decide) p4
  obtain ⟨co, -, c2, hc⟩ := bI (lo := 0) (hi := 8) (by decide) (by decide) p5
  obtain ⟨v, -, v2, hv⟩ := bI (lo := 0) (hi := 2) (by decide) (by decide) p6
  obtain ⟨x0, -, x2', hx0⟩ := bI (lo := 0) (hi := 20) (by decide) (by decide) s0
  obtain ⟨x1, x11, x12, hx1⟩ := bI (lo := 50) (hi := 300) (by decide) (by decide) s1
  obtain ⟨x2, -, x22, hx2⟩ := bI (lo := 0) (hi := 20) (by decide) (by decide) s2
  have hba : b ≤ a := (kLeI (a := b) (b := a) (by omega) (by omega) hb ha).mp o1
  have hdb : d ≤ b := (kLeI (a := d) (b := b) (by omega) (by omega) hd hb).mp o2
  have hG : pG (pa s (21 + 7 * k)) = nI (a + 2 * (b + d)) := by
    unfold pG
    rw [ha, hb, hd, nI_2e]
    simp only [nI_mul, nI_add]
  obtain ⟨Z, Z1, Z2, Z3, Z4⟩ := pS_nat ha hb hd hv hx0 (by omega) (by omega) v2
  obtain ⟨B, B1, B2⟩ := fineB_nI (z := Z) Z2 (by omega)
  rw [← Z1] at B2
  obtain ⟨R, R1, R2⟩ := N.rm (B + 1) (by omega)
  obtain ⟨f, f1, f2, hf⟩ := bI (lo := 1) (hi := 9) (by decide) (by decide) (N.2.2.2.2.1 z (by omega))
  have m1 : R * f ≤ 99 * 9 := Nat.mul_le_mul R1 f2
  have m2 : x2 * co ≤ 20 * 8 := Nat.mul_le_mul x22 c2
  have m3 : co * x2 = x2 * co := Nat.mul_comm _ _
  have m4 : R * 1 ≤ R * f := Nat.mul_le_mul_left R f1
  have hP : ∃ W, pP s (pa s (21 + 7 * k)) = nI W ∧ W ≤ 2000 ∧ co * x2 ≤ W ∧ R ≤ W - co * x2 ∧ (¬ x1 < a + 2 * (b + d) → ¬ R = 0 → (W - co * x2) % R = 0) := by
    unfold pP
    rw [pW_of B2 B1 hz (by omega), R2, hf, hx1, hG, hx2, hc, nI_mul, nI_mul, nI_2e, nI_div (by omega) (by decide) (by decide)]
    by_cases e : x1 < a + 2 * (b + d)
    · rw [if_pos ((nI_ltI (by omega) (by omega)).mpr e), nI_add, nI_add]
      exact ⟨_, rfl, by omega, by omega, by omega, fun q => absurd e q⟩
    · rw [if_neg (mt (nI_ltI (by omega) (by omega)).mp e), nI_0e, nI_add, nI_add]
      refine ⟨_, rfl, by omega, by omega, by omega, fun _ _ => ?_⟩
      rw [show R * f + 0 + x2 * co - co * x2 = R * f by omega]
      exact Nat.mul_mod_right R f
  obtain ⟨W, W1, W2, W3, W4, W5⟩ := hP
  have hR := pR_nat hx1 hG hw hc hv (by omega) (by omega) (by omega) (by omega) (by omega)
  refine ⟨a, b, d, wt, z, co, v, x0, x1, x2, a + 2 * (b + d), Z, R, W, B, _, ⟨ha, hb, hd, hw, hz, hc, hv⟩, ⟨hx0, hx1, hx2⟩, by omega, ⟨hG, rfl⟩, ⟨Z1, Z2, Z3, Z4⟩, ⟨B2, B1, R2, R1⟩, ⟨W1, W2, W3, W4, W5⟩, hR, ?_, ?_⟩
  · split
    · decide
    · split
      · decide
      · split <;> decide
  · split
    · intro q; cases q
    · rename_i g1
      split
      · intro q; cases q
      · split
        · intro q; cases q
        · rename_i g3
          exact fun _ => ⟨fun q => g1 (Or.inl q), g3⟩
/-! ===== the cheapest way, the dearest parcel ===== -/
theorem wyR_ok {s P : Nat → Int32} : ∀ k, k ≤ 3 → ((wyR s P k).1 = -1 ∧ ∀ j, j < k → ¬ pR s (wyP P (nI j)) = 0) ∨ ∃ j, j < k ∧ (wyR s P k).1 = nI j ∧ pR s (wyP P (nI j)) = 0
  | 0, _ => Or.inl ⟨rfl, fun j hj => absurd hj (Nat.not_lt_zero j)⟩
  | k + 1, hk => by
    show ((wyS s P (nI k) (wyR s P k)).1 = -1 ∧ _) ∨ ∃ j, j < k + 1 ∧ (wyS s P (nI k) (wyR s P k)).1 = nI j ∧ _
    unfold wyS
    by_cases h : pR s (wyP P (nI k)) = 0 ∧ ((wyR s P k).1 = -1 ∨ pP s (wyP P (nI k)) < (wyR s P k).2)
    · rw [if_pos h]
      exact Or.inr ⟨k, Nat.lt_succ_self k, rfl, h.1⟩
    · rw [if_neg h]
      rcases wyR_ok (s := s) (P := P) k (by omega) with ⟨h1, h2⟩ | ⟨j, h1, h2, h3⟩
      · refine Or.inl ⟨h1, fun j hj => ?_⟩
        by_cases e : j = k
        · subst e
          exact fun q => h ⟨q, Or.inl h1⟩
        · exact h2 j (by omega)
      · exact Or.inr ⟨j, by omega, h2, h3⟩
theorem wyP_slf {P : Nat → Int32} {v : Nat} (h : P 6 = nI v) : wyP P (nI v) = P := by
  funext k
  unfold wyP
  by_cases e : k = 6
  · rw [if_pos e, e, h]
  · rw [if_neg e]
theorem wy_taken {s P : Nat → Int32} {v : Nat} (h : P 6 = nI v) (hv : v < 3) (ht : pR s P = 0) : ¬ wyF s P < 0 := by
  rcases wyR_ok (s := s) (P := P) 3 (Nat.le_refl _) with ⟨-, h2⟩ | ⟨j, h1, h2, -⟩
  · have := h2 v hv
    rw [wyP_slf h] at this
    exact absurd ht this
  · show ¬ (wyR s P 3).1 < 0
    rw [h2]
    exact fun q => absurd ((nI_ltI (a := j) (b := 0) (by omega) (by decide)).mp q) (by omega)
theorem wy_zero {s P : Nat → Int32} {co : Nat} (h5 : P 5 = nI co) (hc : co ≤ 8) (h : wyF s P = 0) : co = 0 := by
  rcases wyR_ok (s := s) (P := P) 3 (Nat.le_refl _) with ⟨h1, -⟩ | ⟨j, h1, h2, h3⟩
  · have h : (wyR s P 3).1 = 0 := h
    rw [h1] at h
    exact absurd h (by decide)
  · have h : (wyR s P 3).1 = 0 := h
    rw [h2] at h
    have e : j = 0 := (nI_eq (a := j) (b := 0) (by omega) (by decide)).mp h
    subst e
    unfold pR at h3
    rcases Nat.eq_zero_or_pos co with q | q
    · exact q
    · exfalso
      split at h3
      · exact absurd h3 (by decide)
      · split at h3
        · exact absurd h3 (by decide)
        · rw [if_pos ⟨show (0 : Int32) < P 5 from (kLtI (a := 0) (b := co) (by omega) (by omega) rfl h5).mpr q, rfl⟩] at h3
          exact absurd h3 (by decide)
/-- the greatest postage of the first k parcels that are taken -/
def moN (s : Nat → Int32) : Nat → Int32
  | 0 => -1
  | k + 1 => if pR s (pa s (21 + 7 * k)) = 0 ∧ moN s k < pP s (pa s (21 + 7 * k)) then pP s (pa s (21 + 7 * k)) else moN s k
theorem cnt_t {s : Nat → Int32} {k : Nat} (h : pR s (pa s (21 + 7 * k)) = 0) : cntN 0 s (k + 1) = cntN 0 s k + 1 := by
  show cntN 0 s k + _ = _
  rw [if_neg (by decide), if_pos h]
theorem cnt_f {s : Nat → Int32} {k : Nat} (h : ¬ pR s (pa s (21 + 7 * k)) = 0) : cntN 0 s (k + 1) = cntN 0 s k + 0 := by
  show cntN 0 s k + _ = _
  rw [if_neg (by decide), if_neg h]
theorem odd_t {s : Nat → Int32} {k : Nat} (h : s 1 < pG (pa s (21 + 7 * k))) : cntN 1 s (k + 1) = cntN 1 s k + 1 := by
  show cntN 1 s k + _ = _
  rw [if_pos (by decide), if_pos h]
theorem odd_f {s : Nat → Int32} {k : Nat} (h : ¬ s 1 < pG (pa s (21 + 7 * k))) : cntN 1 s (k + 1) = cntN 1 s k + 0 := by
  show cntN 1 s k + _ = _
  rw [if_pos (by decide), if_neg h]
theorem sum_t {s : Nat → Int32} {k : Nat} (h : pR s (pa s (21 + 7 * k)) = 0) : sumF (alS s) (k + 1) = sumF (alS s) k + pP s (pa s (21 + 7 * k)) := by
  show sumF (alS s) k + pAl s _ = _
  unfold pAl
  rw [if_pos h]
theorem sum_f {s : Nat → Int32} {k : Nat} (h : ¬ pR s (pa s (21 + 7 * k)) = 0) : sumF (alS s) (k + 1) = sumF (alS s) k + 0 := by
  show sumF (alS s) k + pAl s _ = _
  unfold pAl
  rw [if_neg h]
theorem dp_ok {m : Nat} {s : Nat → Int32} {c : Nat} (G : okG m s c) : ∀ k, k ≤ c → (dpN s k = none ∧ cntN 0 s k = nI 0 ∧ moN s k = -1) ∨ ∃ f t W, f < k ∧ dpN s k = some f ∧ cntN 0 s k = nI t ∧ 1 ≤ t ∧ t ≤ k ∧ moN s k = pP s (pa s (21 + 7 * f)) ∧ moN s k = nI W ∧ W ≤ 2000
  | 0, _ => Or.inl ⟨rfl, rfl, rfl⟩
  | k + 1, hk => by
    obtain ⟨a, b, d, wt, z, co, v, x0, x1, x2, gi, Z, R, W, B, r, -, -, -, -, -, -, ⟨W1, W2, -⟩, -⟩ := pview G (show k < c by omega)
    by_cases h : pR s (pa s (21 + 7 * k)) = 0
    · rw [cnt_t h]
      rcases dp_ok G k (by omega) with ⟨d1, d2, d3⟩ | ⟨f, t, V, g1, g2, g3, g4, g5, g6, g7, g8⟩
      · refine Or.inr ⟨k, 1, W, Nat.lt_succ_self k, ?_, by rw [d2]; rfl, Nat.le_refl _, by omega, ?_, ?_, W2⟩
        · unfold dpN
          rw [if_pos h, d1]
        · show (if _ then _ else _) = _
          rw [if_pos ⟨h, by rw [d3, W1]; exact Int32.lt_of_lt_of_le (by decide) (nI_le (Nat.zero_le W) (by omega))⟩]
        · show (if _ then _ else _) = _
          rw [if_pos ⟨h, by rw [d3, W1]; exact Int32.lt_of_lt_of_le (by decide) (nI_le (Nat.zero_le W) (by omega))⟩, W1]
      · by_cases e : pP s (pa s (21 + 7 * f)) < pP s (pa s (21 + 7 * k))
        · refine Or.inr ⟨k, t + 1, W, Nat.lt_succ_self k, ?_, by rw [g3, nI_1e, nI_add], by omega, by omega, ?_, ?_, W2⟩
          · unfold dpN
            rw [if_pos h, g2]
            exact if_pos e
          · show (if _ then _ else _) = _
            rw [if_pos ⟨h, by rw [g6]; exact e⟩]
          · show (if _ then _ else _) = _
            rw [if_pos ⟨h, by rw [g6]; exact e⟩, W1]
        · have e2 : moN s (k + 1) = moN s k := if_neg (fun q => e (by rw [← g6]; exact q.2))
          refine Or.inr ⟨f, t + 1, V, by omega, ?_, by rw [g3, nI_1e, nI_add], by omega, by omega, e2.trans g6, e2.trans g7, g8⟩
          unfold dpN
          rw [if_pos h, g2]
          exact if_neg e
    · have e2 : moN s (k + 1) = moN s k := if_neg (fun q => h q.1)
      have e3 : dpN s (k + 1) = dpN s k := if_neg h
      rw [cnt_f h, Int32.add_zero, e2, e3]
      rcases dp_ok G k (by omega) with d1 | ⟨f, t, V, g1, g2, g3, g4, g5, g6, g7, g8⟩
      · exact Or.inl d1
      · exact Or.inr ⟨f, t, V, by omega, g2, g3, g4, by omega, g6, g7, g8⟩
theorem cmp_self {x : UInt64} (h : Jvm.FP.Core.dIsNaN x = false) : Op.cmpValue (FP.dcmp x x) .l = 0 := by
  rw [show FP.dcmp x x = some .eq from Jvm.FP.Core.dcmp_self ((Jvm.FP.Core.notNaN_iff x).mp h)]
  rfl
theorem V0.dearN {s0 : Nat → Int32} {c : Nat} {w : kM} (h : V0 s0 c w) (hd : dpN s0 c = none) : kCtrR mX5_dearest 4 [.ref 0] w (.int (-1)) := by
  have t := h.dearest
  rw [hd] at t
  exact t
theorem V0.dearS {s0 : Nat → Int32} {c f : Nat} {w : kM} (h : V0 s0 c w) (hd : dpN s0 c = some f) : kCtrR mX5_dearest 4 [.ref 0] w (.int (nI f)) := by
  have t := h.dearest
  rw [hd] at t
  exact t
