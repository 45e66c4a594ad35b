/-! ===== numbers in their bounds ===== -/
theorem bI {v : Int32} {lo hi : Nat} (hl : lo < 2147483648) (hh : hi < 2147483648) (h : nI lo ≤ v ∧ v ≤ nI hi) : ∃ n, lo ≤ n ∧ n ≤ hi ∧ v = nI n := rngN hl hh h
theorem nI_mul (a b : Nat) : nI a * nI b = nI (a * b) := kMu rfl rfl
theorem gI_nI {a b : Nat} (ha : a < 2147483648) (hb : b < 2147483648) : gI (nI a) (nI b) = nI (max a b) := by
  unfold gI
  by_cases h : b < a
  · rw [if_pos ((nI_ltI hb ha).mpr h), Nat.max_eq_left (by omega)]
  · rw [if_neg (fun q => h ((nI_ltI hb ha).mp q)), Nat.max_eq_right (by omega)]
theorem nI_div {n k : Nat} (hn : n < 2147483648) (hk : 0 < k) (hk2 : k < 2147483648) : nI n / nI k = nI (n / k) := by
  rw [← Int32.toInt_inj, Int32.toInt_div_of_ne_right _ _ (by
    intro q
    have a := nI_toInt (n := k) (by omega)
    rw [q] at a
    have b : (-1 : Int32).toInt = -1 := by decide
    omega), nI_toInt (by omega), nI_toInt (by omega), nI_toInt (by have := Nat.div_le_self n k; omega), Int.tdiv_eq_ediv_of_nonneg (by omega)]
  omega
theorem nI_0e : (0 : Int32) = nI 0 := rfl
theorem nI_1e : (1 : Int32) = nI 1 := rfl
theorem nI_2e : (2 : Int32) = nI 2 := rfl
theorem nI_4e : (4 : Int32) = nI 4 := rfl
theorem nI_6e : (6 : Int32) = nI 6 := rfl
/-- a parcel or a bundle, its numbers being naturals; no side longer than m -/
def natP (P : Nat → Int32) (m : Nat) : Prop := ∃ a b c wt z k v : Nat, P 0 = nI a ∧ P 1 = nI b ∧ P 2 = nI c ∧ P 3 = nI wt ∧ P 4 = nI z ∧ P 5 = nI k ∧ P 6 = nI v ∧ 1 ≤ a ∧ a ≤ m ∧ 1 ≤ b ∧ b ≤ m ∧ 1 ≤ c ∧ c ≤ m ∧ wt ≤ 198 ∧ z < 4 ∧ k ≤ 16 ∧ v ≤ 2
/-- a parcel -/
def okP (P : Nat → Int32) : Prop := (1 ≤ P 0 ∧ P 0 ≤ 60) ∧ (1 ≤ P 1 ∧ P 1 ≤ 60) ∧ (1 ≤ P 2 ∧ P 2 ≤ 60) ∧ (1 ≤ P 3 ∧ P 3 ≤ 99) ∧ (0 ≤ P 4 ∧ P 4 ≤ 3) ∧ (0 ≤ P 5 ∧ P 5 ≤ 8) ∧ (0 ≤ P 6 ∧ P 6 ≤ 2)
theorem okP.cg {P P' : Nat → Int32} (h : okP P) (e : ∀ k, k < 7 → P' k = P k) : okP P' := by
  unfold okP
  rw [e 0 (by decide), e 1 (by decide), e 2 (by decide), e 3 (by decide), e 4 (by decide), e 5 (by decide), e 6 (by decide)]
  exact h
/-- the numbers of an office of c parcels -/
def okN (r : Nat → Int32) (c : Nat) : Prop := c ≤ 7 ∧ r 20 = nI c ∧ ((0 ≤ r 0 ∧ r 0 ≤ 20) ∧ (50 ≤ r 1 ∧ r 1 ≤ 300) ∧ (0 ≤ r 2 ∧ r 2 ≤ 20) ∧ (0 ≤ r 3 ∧ r 3 ≤ 50)) ∧ (∀ j, j < 12 → 0 ≤ r (4 + j) ∧ r (4 + j) ≤ 99) ∧ (∀ j, j < 4 → 1 ≤ r (16 + j) ∧ r (16 + j) ≤ 9) ∧ ∀ k, k < c → okP (pa r (21 + 7 * k))
theorem okN.cg {r r' : Nat → Int32} {c : Nat} (h : okN r c) (e : ∀ i, i < 70 → r' i = r i) : okN r' c := by
  obtain ⟨h1, h2, ⟨h3, h4, h5, h6⟩, h7, h8, h9⟩ := h
  refine ⟨h1, (e _ (by decide)).trans h2, ⟨?_, ?_, ?_, ?_⟩, fun j hj => ?_, fun j hj => ?_, fun k hk => (h9 k hk).cg (fun i hi => e _ (by omega))⟩
  · rw [e 0 (by decide)]; exact h3
  · rw [e 1 (by decide)]; exact h4
  · rw [e 2 (by decide)]; exact h5
  · rw [e 3 (by decide)]; exact h6
  · rw [e _ (by omega)]; exact h7 j hj
  · rw [e _ (by omega)]; exact h8 j hj
theorem okP.nat {P : Nat → Int32} (h : okP P) : natP P 60 := by
  obtain ⟨h0, h1, h2, h3, h4, h5, h6⟩ := h
  obtain ⟨a, a1, a2, a3⟩ := bI (lo := 1) (hi := 60) (by decide) (by decide) h0
  obtain ⟨b, b1, b2, b3⟩ := bI (lo := 1) (hi := 60) (by decide) (by decide) h1
  obtain ⟨c, c1, c2, c3⟩ := bI (lo := 1) (hi := 60) (by decide) (by decide) h2
  obtain ⟨wt, d1, d2, d3⟩ := bI (lo := 1) (hi := 99) (by decide) (by decide) h3
  obtain ⟨z, e1, e2, e3⟩ := bI (lo := 0) (hi := 3) (by decide) (by decide) h4
  obtain ⟨k, f1, f2, f3⟩ := bI (lo := 0) (hi := 8) (by decide) (by decide) h5
  obtain ⟨v, g1, g2, g3⟩ := bI (lo := 0) (hi := 2) (by decide) (by decide) h6
  exact ⟨a, b, c, wt, z, k, v, a3, b3, c3, d3, e3, f3, g3, a1, a2, b1, b2, c1, c2, by omega, by omega, by omega, by omega⟩
theorem okP.nn {P : Nat → Int32} (h : okP P) : nnP P := by
  obtain ⟨a, b, c, wt, z, k, v, a3, b3, c3, -, -, -, -, h1, h2, h3, h4, h5, h6, -⟩ := h.nat
  unfold nnP
  rw [a3, b3, c3]
  exact ⟨nI_pos' (by omega), nI_pos' (by omega), nI_pos' (by omega), nI_le (b := 1000) (by omega) (by decide)⟩
theorem bnd_lo : ∀ z : Nat, z < 601 → 1 ≤ z → bnd (nI z) = nI ((z - 1) / 50) := by decide +kernel
theorem fineB_nI {z : Nat} (h1 : 1 ≤ z) (h2 : z < 100000) : fineB (nI z) := by
  by_cases h : z < 601
  · exact ⟨(z - 1) / 50, by omega, bnd_lo z h h1⟩
  · refine ⟨11, by decide, ?_⟩
    unfold bnd
    rw [if_pos (show (600 : Int32) < nI z from (nI_ltI (a := 600) (b := z) (by decide) (by omega)).mpr (by omega))]
    rfl
theorem natP.fz {P : Nat → Int32} {m : Nat} (h : natP P m) : fineZ P := by
  obtain ⟨a, b, c, wt, z, k, v, -, -, -, -, h4, -, -, -, -, -, -, -, -, -, hz, -, -⟩ := h
  exact ⟨z, hz, h4⟩
theorem natP.str {s P : Nat → Int32} {m : Nat} (h : natP P m) (hm : m ≤ 200) (hs : 0 ≤ s 0 ∧ s 0 ≤ 20) : ∃ Z, 1 ≤ Z ∧ Z ≤ 5000 ∧ pS s P = nI Z := by
  obtain ⟨a, b, c, wt, z, k, v, h0, h1, h2, h3, h4, h5, h6, a1, a2, b1, b2, c1, c2, -, -, -, v2⟩ := h
  obtain ⟨x, -, x2, hx⟩ := bI (lo := 0) (hi := 20) (by decide) (by decide) hs
  unfold pS
  rw [h0, h1, h2, h6, hx, nI_1, nI_1e, nI_2e, nI_4e, nI_6e]
  by_cases e0 : v = 0
  · subst e0
    rw [if_pos rfl]
    simp only [nI_mul, nI_add]
    exact ⟨_, by omega, by omega, rfl⟩
  · by_cases e1 : v = 1
    · subst e1
      rw [if_neg (by decide), if_pos rfl]
      simp only [nI_mul, nI_add]
      exact ⟨_, by omega, by omega, rfl⟩
    · obtain rfl : v = 2 := by omega
      rw [if_neg (by decide), if_neg (by decide)]
      simp only [nI_mul, nI_add]
      exact ⟨_, by omega, by omega, rfl⟩
theorem natP.fine {s P : Nat → Int32} {m : Nat} (h : natP P m) (hm : m ≤ 200) (hs : 0 ≤ s 0 ∧ s 0 ≤ 20) : fineP s P := by
  obtain ⟨Z, z1, z2, e⟩ := h.str hm hs
  refine ⟨h.fz, ?_⟩
  rw [e]
  exact fineB_nI z1 (by omega)
theorem natP.way {P : Nat → Int32} {m : Nat} (h : natP P m) {v : Nat} (hv : v < 3) : natP (wyP P (nI v)) m := by
  obtain ⟨a, b, c, wt, z, k, u, h0, h1, h2, h3, h4, h5, h6, r⟩ := h
  exact ⟨a, b, c, wt, z, k, v, h0, h1, h2, h3, h4, h5, rfl, r.1, r.2.1, r.2.2.1, r.2.2.2.1, r.2.2.2.2.1, r.2.2.2.2.2.1, r.2.2.2.2.2.2.1, r.2.2.2.2.2.2.2.1, r.2.2.2.2.2.2.2.2.1, by omega⟩
theorem neg_gI {a b : Nat} (ha : a < 2147483648) (hb : b < 2147483648) : -gI (-nI a) (-nI b) = nI (min a b) := by
  have na : (-nI a).toInt = -(a : Int) := by
    rw [Int32.toInt_neg, nI_toInt ha]
    exact Int.bmod_eq_of_le (by simp; omega) (by simp; omega)
  have nb : (-nI b).toInt = -(b : Int) := by
    rw [Int32.toInt_neg, nI_toInt hb]
    exact Int.bmod_eq_of_le (by simp; omega) (by simp; omega)
  unfold gI
  by_cases h : a < b
  · rw [if_pos (by rw [Int32.lt_iff_toInt_lt, na, nb]; omega), Int32.neg_neg, Nat.min_eq_left (by omega)]
  · rw [if_neg (by rw [Int32.lt_iff_toInt_lt, na, nb]; omega), Int32.neg_neg, Nat.min_eq_right (by omega)]
theorem sort3_nI {x y z m : Nat} (hx : 1 ≤ x ∧ x ≤ m) (hy : 1 ≤ y ∧ y ≤ m) (hz : 1 ≤ z ∧ z ≤ m) (hm : m ≤ 1000) : ∃ a b c : Nat, (1 ≤ a ∧ a ≤ m) ∧ (1 ≤ b ∧ b ≤ m) ∧ (1 ≤ c ∧ c ≤ m) ∧ sort3 (nI x) (nI y) (nI z) 0 = nI a ∧ sort3 (nI x) (nI y) (nI z) 1 = nI b ∧ sort3 (nI x) (nI y) (nI z) 2 = nI c := by
  have e0 : gI (nI x) (gI (nI y) (nI z)) = nI (max x (max y z)) := by
    rw [gI_nI (by omega) (by omega), gI_nI (by omega) (by omega)]
  have e2 : -gI (-nI x) (gI (-nI y) (-nI z)) = nI (min x (min y z)) := by
    have h1 : gI (-nI y) (-nI z) = -nI (min y z) := by
      rw [← neg_gI (by omega) (by omega), Int32.neg_neg]
    rw [h1, neg_gI (by omega) (by omega)]
  refine ⟨max x (max y z), x + y + z - max x (max y z) - min x (min y z), min x (min y z), ⟨by omega, by omega⟩, ⟨by omega, by omega⟩, ⟨by omega, by omega⟩, ?_, ?_, ?_⟩
  · show gI (nI x) (gI (nI y) (nI z)) = _
    exact e0
  · show nI x + nI y + nI z - gI (nI x) (gI (nI y) (nI z)) - -gI (-nI x) (gI (-nI y) (-nI z)) = _
    rw [e0, e2, nI_add, nI_add, kS rfl rfl (by omega), kS rfl rfl (by omega)]
  · show -gI (-nI x) (gI (-nI y) (-nI z)) = _
    exact e2
theorem okP.bundle {P B : Nat → Int32} (h1 : okP P) (h2 : okP B) : natP (bnP P B) 120 := by
  obtain ⟨a, b, c, wt, z, k, v, p0, p1, p2, p3, p4, p5, p6, a1, a2, b1, b2, c1, c2, w2, z2, k2, v2⟩ := h1.nat
  obtain ⟨a', b', c', wt', z', k', v', q0, q1, q2, q3, q4, q5, q6, a1', a2', b1', b2', c1', c2', w2', z2', k2', v2'⟩ := h2.nat
  obtain ⟨x, y, u, hx, hy, hu, e0, e1, e2⟩ := sort3_nI (x := max a a') (y := max b b') (z := c + c') (m := 120) (by omega) (by omega) (by omega) (by decide)
  obtain ⟨kk, kk1, kk2, kk3⟩ := bI (lo := 0) (hi := 8) (by decide) (by decide) h1.2.2.2.2.2.1
  obtain ⟨kl, kl1, kl2, kl3⟩ := bI (lo := 0) (hi := 8) (by decide) (by decide) h2.2.2.2.2.2.1
  obtain ⟨wk, wk1, wk2, wk3⟩ := bI (lo := 1) (hi := 99) (by decide) (by decide) h1.2.2.2.1
  obtain ⟨wl, wl1, wl2, wl3⟩ := bI (lo := 1) (hi := 99) (by decide) (by decide) h2.2.2.2.1
  have s3 : ∀ i, sort3 (gI (P 0) (B 0)) (gI (P 1) (B 1)) (P 2 + B 2) i = sort3 (nI (max a a')) (nI (max b b')) (nI (c + c')) i := fun i => by
    rw [p0, p1, p2, q0, q1, q2, gI_nI (by omega) (by omega), gI_nI (by omega) (by omega), nI_add]
  refine ⟨x, y, u, wk + wl, z, kk + kl, max v v', (s3 0).trans e0, (s3 1).trans e1, (s3 2).trans e2, ?_, p4, ?_, ?_, hx.1, hx.2, hy.1, hy.2, hu.1, hu.2, by omega, z2, by omega, by omega⟩
  · show P 3 + B 3 = _
    rw [wk3, wl3, nI_add]
  · show P 5 + B 5 = _
    rw [kk3, kl3, nI_add]
  · show gI (P 6) (B 6) = _
    rw [p6, q6, gI_nI (by omega) (by omega)]
theorem okN.fine {s : Nat → Int32} {c : Nat} (h : okN s c) : fineS s c := by
  obtain ⟨h1, h2, ⟨h3, -⟩, -, -, h9⟩ := h
  exact ⟨h1, h2, fun k hk => ⟨(h9 k hk).nat.fine (by decide) h3, fun v hv => ((h9 k hk).nat.way hv).fine (by decide) h3⟩, fun k hk j hj _ _ => ((h9 k hk).bundle (h9 j hj)).fine (by decide) h3⟩
theorem okN.nn {s : Nat → Int32} {c : Nat} (h : okN s c) : ∀ k, k < c → nnP (pa s (21 + 7 * k)) := fun k hk => (h.2.2.2.2.2 k hk).nn
/-! ===== postages in their bounds ===== -/
theorem okN.rm {s : Nat → Int32} {c : Nat} (h : okN s c) : ∀ k, k ≤ 12 → ∃ R, R ≤ 99 ∧ rM s k = nI R
  | 0, _ => ⟨0, by decide, rfl⟩
  | k + 1, hk => by
    obtain ⟨R, r1, r2⟩ := okN.rm h k (by omega)
    obtain ⟨x, -, x2, x3⟩ := bI (lo := 0) (hi := 99) (by decide) (by decide) (h.2.2.2.1 k (by omega))
    refine ⟨max x R, by omega, ?_⟩
    show gI (s (4 + k)) (rM s k) = _
    rw [r2, x3, gI_nI (by omega) (by omega)]
theorem natP.pw {s P : Nat → Int32} {c m : Nat} (h : okN s c) (hP : natP P m) {z : Int32} (hz : fineB z) : ∃ W, W ≤ 2000 ∧ pW s P z = nI W := by
  obtain ⟨K, k1, k2⟩ := hz
  obtain ⟨R, r1, r2⟩ := h.rm (K + 1) (by omega)
  obtain ⟨a, b, cc, wt, zz, k, v, -, -, -, -, p4, p5, -, -, -, -, -, -, -, -, z2, kk2, -⟩ := hP
  obtain ⟨f, -, f2, f3⟩ := bI (lo := 1) (hi := 9) (by decide) (by decide) (h.2.2.2.2.1 zz z2)
  obtain ⟨g, -, g2, g3⟩ := bI (lo := 0) (hi := 20) (by decide) (by decide) h.2.2.1.2.2.1
  have m1 : R * f ≤ 99 * 9 := Nat.mul_le_mul r1 f2
  have m2 : g * k ≤ 20 * 16 := Nat.mul_le_mul g2 kk2
  rw [pW_of k2 k1 p4 z2, r2, f3, g3, p5, nI_mul, nI_mul, nI_2e, nI_div (by omega) (by decide) (by decide)]
  split
  · rw [nI_add, nI_add]
    exact ⟨_, by omega, rfl⟩
  · rw [nI_0e, nI_add, nI_add]
    exact ⟨_, by omega, rfl⟩
theorem okN.al {s : Nat → Int32} {c : Nat} (h : okN s c) {k : Nat} (hk : k < c) : ∃ A, A ≤ 2000 ∧ alS s k = nI A := by
  unfold alS pAl
  split
  · exact natP.pw h (h.2.2.2.2.2 k hk).nat (h.fine.2.2.1 k hk).1.2
  · exact ⟨0, by decide, rfl⟩
theorem okN.bd {s : Nat → Int32} {c : Nat} (h : okN s c) {k j : Nat} (hk : k < c) (hj : j < c) : bdS s k j = -1 ∨ ∃ A, A ≤ 2000 ∧ bdS s k j = nI A := by
  unfold bdS bdF
  split
  · exact Or.inr (natP.pw h ((h.2.2.2.2.2 k hk).bundle (h.2.2.2.2.2 j hj)) (((h.2.2.2.2.2 k hk).bundle (h.2.2.2.2.2 j hj)).fine (by decide) h.2.2.1.1).2)
  · exact Or.inl rfl
theorem nI_nm1 {a : Nat} (h : a < 2147483648) : ¬ nI a = -1 := by
  intro q
  have e := nI_toInt (n := a) (by omega)
  rw [q] at e
  have : (-1 : Int32).toInt = -1 := by decide
  omega
