/-! ===== by trying: both ways are alike ===== -/
theorem bit_add : ∀ m : Nat, m < 128 → ∀ j : Nat, j < 7 → m.testBit j = false → ∀ q : Nat, q < 7 → (m + 2 ^ j).testBit q = (decide (q = j) || m.testBit q) := by decide +kernel
theorem frN_iff {mu : Nat → Nat} {p : Nat} : ∀ k, frN mu p k = true ↔ ∀ i, i < k → mu i ≠ p
  | 0 => ⟨fun _ i h => absurd h (Nat.not_lt_zero i), fun _ => rfl⟩
  | k + 1 => by
    unfold frN
    rw [Bool.and_eq_true, frN_iff k, decide_eq_true_iff]
    exact ⟨fun h i hi => by
      by_cases e : i = k
      · subst e; exact h.2
      · exact h.1 i (by omega), fun h => ⟨fun i hi => h i (by omega), h k (by omega)⟩⟩
theorem dsI_skip {f : Nat → Int32 → Int32} {c r' : Nat} : ∀ r, r' ≤ r → r ≤ c → (∀ j, c - r ≤ j → j < c - r' → ∀ L, f j L = L) → ∀ L, dsI f c r L = dsI f c r' L
  | 0, h1, _, _, L => by
    obtain rfl : r' = 0 := by omega
    rfl
  | r + 1, h1, h2, h, L => by
    by_cases e : r' = r + 1
    · subst e; rfl
    · show dsI f c r (f (c - (r + 1)) L) = dsI f c r' L
      rw [h _ (by omega) (by omega)]
      exact dsI_skip (f := f) (c := c) (r' := r') r (by omega) (by omega) (fun j h3 h4 => h j (by omega) h4) L
theorem upL_2 {L u v : Int32} (hu : ¬ u = -1) : upL (upL L u) v = upL L (if v < u then v else u) := by
  unfold upL
  by_cases h1 : L = -1 ∨ u < L
  · rw [if_pos h1]
    by_cases h2 : v < u
    · rw [if_pos (Or.inr h2), if_pos h2, if_pos]
      rcases h1 with q | q
      · exact Or.inl q
      · exact Or.inr (Int32.lt_trans h2 q)
    · rw [if_neg (fun q => q.elim hu h2), if_neg h2, if_pos h1]
  · rw [if_neg h1]
    have h1a : ¬ L = -1 := fun q => h1 (Or.inl q)
    have h1b : ¬ u < L := fun q => h1 (Or.inr q)
    by_cases h2 : v < u
    · rw [if_pos h2]
    · rw [if_neg h2, if_neg h1, if_neg]
      intro q
      rcases q with q | q
      · exact h1a q
      · exact h1b (Int32.lt_of_le_of_lt (Int32.not_lt.mp h2) q)
theorem okN.lI {s : Nat → Int32} {c : Nat} (h : okN s c) {d p m : Nat} {rec : Nat → Int32} (hp : p + d + 1 = c) (hr : ∀ x, ∃ N, N ≤ 2000 * d ∧ rec x = nI N) : ∀ r, r ≤ d → ∃ N, N ≤ 2000 * (d + 1) ∧ lfI (alS s) (bdS s) rec p m r = nI N
  | 0, _ => by
    obtain ⟨A, a1, a2⟩ := h.al (k := p) (by omega)
    obtain ⟨N, n1, n2⟩ := hr m
    refine ⟨A + N, by omega, ?_⟩
    show alS s p + rec m = _
    rw [a2, n2, nI_add]
  | r + 1, hd => by
    obtain ⟨N, n1, n2⟩ := okN.lI h (m := m) hp hr r (by omega)
    rw [lfI_u]
    split
    · rename_i hc
      obtain ⟨M, m1, m2⟩ := hr (m + 2 ^ (p + 1 + r))
      rcases h.bd (k := p) (j := p + 1 + r) (by omega) (by omega) with q | ⟨B, b1, b2⟩
      · exact absurd q hc.2.1
      · refine ⟨B + M, by omega, ?_⟩
        rw [b2, m2, nI_add]
    · exact ⟨N, n1, n2⟩
theorem okN.lF {s : Nat → Int32} {c : Nat} (h : okN s c) : ∀ d p m, p + d = c → ∃ N, N ≤ 2000 * d ∧ lfF (alS s) (bdS s) d p m = nI N
  | 0, _, _, _ => ⟨0, by decide, rfl⟩
  | d + 1, p, m, hp => by
    unfold lfF
    split
    · obtain ⟨N, n1, n2⟩ := okN.lF h d (p + 1) m (by omega)
      exact ⟨N, by omega, n2⟩
    · exact h.lI (d := d) (by omega) (fun x => okN.lF h d (p + 1) x (by omega)) d (Nat.le_refl _)
/-- the first p parcels have the mates mu; m tells which of the others are taken -/
def vMu (s : Nat → Int32) (c p : Nat) (mu : Nat → Nat) (m : Nat) : Prop := (∀ k, k < p → mu k < c) ∧ (∀ k, k < p → k < mu k → bdS s k (mu k) ≠ -1) ∧ (∀ k, k < p → ∀ i, i < p → p ≤ mu k → mu k = mu i → k = i) ∧ (∀ q, p ≤ q → q < c → (m.testBit q = true ↔ ∃ k, k < p ∧ mu k = q)) ∧ m < 2 ^ c
theorem cosN_up {s : Nat → Int32} {mu : Nat → Nat} {p j : Nat} : ∀ k, k ≤ p → cosN s (updN mu p j) k = cosN s mu k
  | 0, _ => rfl
  | k + 1, hk => by
    unfold cosN
    rw [cosN_up k (by omega), show updN mu p j k = mu k from if_neg (by omega)]
theorem vMu.cos {s : Nat → Int32} {c p m : Nat} {mu : Nat → Nat} (h : okN s c) (hp : p ≤ c) (V : vMu s c p mu m) : ∀ k, k ≤ p → ∃ N, N ≤ 2000 * k ∧ cosN s mu k = nI N
  | 0, _ => ⟨0, by decide, rfl⟩
  | k + 1, hk => by
    obtain ⟨N, n1, n2⟩ := vMu.cos h hp V k (by omega)
    unfold cosN
    rw [n2]
    split
    · obtain ⟨A, a1, a2⟩ := h.al (k := k) (by omega)
      rw [a2, nI_add]
      exact ⟨_, by omega, rfl⟩
    · split
      · rename_i hlt
        rcases h.bd (k := k) (j := mu k) (by omega) (V.1 k (by omega)) with q | ⟨B, b1, b2⟩
        · exact absurd q (V.2.1 k (by omega) hlt)
        · rw [b2, nI_add]
          exact ⟨_, by omega, rfl⟩
      · refine ⟨N, by omega, Int32.add_zero _⟩
theorem vMu.step {s : Nat → Int32} {c p m m' j : Nat} {mu : Nat → Nat} (V : vMu s c p mu m) (hj : j < c) (hb : p < j → bdS s p j ≠ -1) (hf : p < j → ∀ k, k < p → mu k ≠ j) (hm : ∀ q, p < q → q < c → (m'.testBit q = true ↔ (m.testBit q = true ∨ q = j))) (hm2 : m' < 2 ^ c) : vMu s c (p + 1) (updN mu p j) m' := by
  obtain ⟨v1, v2, v3, v4, v5⟩ := V
  have e1 : updN mu p j p = j := if_pos rfl
  have e2 : ∀ k, k < p → updN mu p j k = mu k := fun k hk => if_neg (by omega)
  refine ⟨fun k hk => ?_, fun k hk hl => ?_, fun k hk i hi h1 h2 => ?_, fun q h1 h2 => ?_, hm2⟩
  · by_cases e : k = p
    · subst e; rw [e1]; exact hj
    · rw [e2 k (by omega)]; exact v1 k (by omega)
  · by_cases e : k = p
    · subst e; rw [e1] at hl ⊢; exact hb hl
    · rw [e2 k (by omega)] at hl ⊢; exact v2 k (by omega) hl
  · by_cases ek : k = p
    · by_cases ei : i = p
      · omega
      · subst ek
        rw [e1] at h1 h2
        rw [e2 i (by omega)] at h2
        exact absurd h2.symm (hf (by omega) i (by omega))
    · by_cases ei : i = p
      · subst ei
        rw [e2 k (by omega)] at h1 h2
        rw [e1] at h2
        exact absurd h2 (hf (by omega) k (by omega))
      · rw [e2 k (by omega)] at h1 h2
        rw [e2 i (by omega)] at h2
        exact v3 k (by omega) i (by omega) (by omega) h2
  · rw [hm q (by omega) h2, v4 q (by omega) h2]
    constructor
    · rintro (⟨k, k1, k2⟩ | rfl)
      · exact ⟨k, by omega, (e2 k k1).trans k2⟩
      · exact ⟨p, by omega, e1⟩
    · rintro ⟨k, k1, k2⟩
      by_cases e : k = p
      · subst e
        rw [e1] at k2
        exact Or.inr k2.symm
      · rw [e2 k (by omega)] at k2
        exact Or.inl ⟨k, by omega, k2⟩
theorem ds_lf {s : Nat → Int32} {c : Nat} (h : okN s c) : ∀ d p mu m L, p + d = c → vMu s c p mu m → dsF s c d mu L = upL L (cosN s mu p + lfF (alS s) (bdS s) d p m)
  | 0, p, mu, m, L, hp, V => by
    obtain rfl : p = c := by omega
    show upL L (cosN s mu p) = upL L (cosN s mu p + 0)
    rw [Int32.add_zero]
  | d + 1, p, mu, m, L, hp, V => by
    have h7 := h.1
    obtain ⟨B, b1, b2⟩ := vMu.cos h (by omega) V p (Nat.le_refl _)
    unfold dsF
    rw [show c - (d + 1) = p by omega]
    have hbit := V.2.2.2.1 p (Nat.le_refl _) (by omega)
    have m128 : m < 128 := by
      have := V.2.2.2.2
      have := pow_mono7 h7
      omega
    by_cases hb : m.testBit p = true
    · obtain ⟨k0, k1, k2⟩ := hbit.mp hb
      have hno : ∀ j, j < c → j ≠ k0 → ∀ L, (if chB s mu p j = true then dsF s c d (updN mu p j) L else L) = L := fun j hj hne L => by
        rw [if_neg]
        intro q
        unfold chB at q
        by_cases h1 : j < p
        · rw [if_pos h1, decide_eq_true_iff] at q
          exact hne (V.2.2.1 j h1 k0 k1 (by omega) (q.trans k2.symm))
        · rw [if_neg h1, Bool.and_eq_true] at q
          exact (frN_iff p).mp q.1 k0 k1 k2
      have hyes : chB s mu p k0 = true := by
        unfold chB
        rw [if_pos k1, decide_eq_true_iff]
        exact k2
      rw [dsI_skip (r' := c - k0) c (by omega) (Nat.le_refl _) (fun j h1 h2 => hno j (by omega) (by omega)), show c - k0 = (c - k0 - 1) + 1 by omega]
      unfold dsI
      rw [show c - (c - k0 - 1 + 1) = k0 by omega, if_pos hyes, dsI_skip (r' := 0) (c - k0 - 1) (by omega) (by omega) (fun j h1 h2 => hno j (by omega) (by omega))]
      unfold dsI
      have V' : vMu s c (p + 1) (updN mu p k0) m := V.step (by omega) (fun q => absurd q (by omega)) (fun q => absurd q (by omega)) (fun q h1 h2 => ⟨Or.inl, fun z => z.elim id (fun e => absurd e (by omega))⟩) V.2.2.2.2
      rw [ds_lf h d (p + 1) _ m L (by omega) V']
      have ec : cosN s (updN mu p k0) (p + 1) = cosN s mu p := by
        show cosN s (updN mu p k0) p + (if updN mu p k0 p = p then alS s p else if p < updN mu p k0 p then bdS s p (updN mu p k0 p) else 0) = _
        rw [cosN_up p (Nat.le_refl _), show updN mu p k0 p = k0 from if_pos rfl, if_neg (by omega), if_neg (by omega), Int32.add_zero]
      rw [ec]
      have el : lfF (alS s) (bdS s) (d + 1) p m = lfF (alS s) (bdS s) d (p + 1) m := by
        show (if m.testBit p = true then lfF (alS s) (bdS s) d (p + 1) m else _) = _
        rw [if_pos hb]
      rw [el]
    · have hfr : ∀ k, k < p → mu k ≠ p := fun k k1 k2 => hb (hbit.mpr ⟨k, k1, k2⟩)
      have hfp : frN mu p p = true := (frN_iff p).mpr hfr
      have el : lfF (alS s) (bdS s) (d + 1) p m = lfI (alS s) (bdS s) (fun m' => lfF (alS s) (bdS s) d (p + 1) m') p m d := by
        show (if m.testBit p = true then lfF (alS s) (bdS s) d (p + 1) m else _) = _
        rw [if_neg hb]
      have hrec : ∀ x, ∃ N, N ≤ 2000 * d ∧ lfF (alS s) (bdS s) d (p + 1) x = nI N := fun x => h.lF d (p + 1) x (by omega)
      rw [dsI_skip (r' := d + 1) c (by omega) (Nat.le_refl _) (fun j h1 h2 L => by
        have hjp : j < p := by omega
        rw [if_neg]
        intro q
        unfold chB at q
        rw [if_pos hjp, decide_eq_true_iff] at q
        exact hfr j hjp q)]
      have hself : ∀ L, (if chB s mu p p = true then dsF s c d (updN mu p p) L else L) = upL L (cosN s mu p + lfI (alS s) (bdS s) (fun m' => lfF (alS s) (bdS s) d (p + 1) m') p m 0) := fun L => by
        have hy : chB s mu p p = true := by
          unfold chB
          rw [if_neg (by omega), hfp]
          simp
        have V' : vMu s c (p + 1) (updN mu p p) m := V.step (by omega) (fun q => absurd q (by omega)) (fun q => absurd q (by omega)) (fun q h1 h2 => ⟨Or.inl, fun z => z.elim id (fun e => absurd e (by omega))⟩) V.2.2.2.2
        rw [if_pos hy, ds_lf h d (p + 1) _ m L (by omega) V']
        have ec : cosN s (updN mu p p) (p + 1) = cosN s mu p + alS s p := by
          show cosN s (updN mu p p) p + (if updN mu p p p = p then alS s p else _) = _
          rw [cosN_up p (Nat.le_refl _), if_pos (show updN mu p p p = p from if_pos rfl)]
        rw [ec, Int32.add_assoc]
        rfl
      have hmate : ∀ t, t < d → ∀ L, (if chB s mu p (p + 1 + t) = true then dsF s c d (updN mu p (p + 1 + t)) L else L) = if ¬ m.testBit (p + 1 + t) = true ∧ bdS s p (p + 1 + t) ≠ -1 then upL L (cosN s mu p + (bdS s p (p + 1 + t) + lfF (alS s) (bdS s) d (p + 1) (m + 2 ^ (p + 1 + t)))) else L := fun t ht L => by
        have hj : p + 1 + t < c := by omega
        have hbj := V.2.2.2.1 (p + 1 + t) (by omega) hj
        have hch : chB s mu p (p + 1 + t) = true ↔ ¬ m.testBit (p + 1 + t) = true ∧ bdS s p (p + 1 + t) ≠ -1 := by
          unfold chB
          rw [if_neg (by omega), hfp, Bool.true_and, Bool.or_eq_true, Bool.and_eq_true, decide_eq_true_iff, decide_eq_true_iff, frN_iff]
          constructor
          · rintro (q | ⟨q1, q2⟩)
            · exact absurd q (by omega)
            · exact ⟨fun z => by
                obtain ⟨k, k1, k2⟩ := hbj.mp z
                exact q1 k k1 k2, q2⟩
          · rintro ⟨q1, q2⟩
            exact Or.inr ⟨fun k k1 k2 => q1 (hbj.mpr ⟨k, k1, k2⟩), q2⟩
        by_cases hc : chB s mu p (p + 1 + t) = true
        · obtain ⟨n1, n2⟩ := hch.mp hc
          have nf : m.testBit (p + 1 + t) = false := by simpa using n1
          have V' : vMu s c (p + 1) (updN mu p (p + 1 + t)) (m + 2 ^ (p + 1 + t)) := V.step hj (fun _ => n2) (fun _ k k1 k2 => n1 (hbj.mpr ⟨k, k1, k2⟩)) (fun q h1 h2 => by
            rw [bit_add m m128 (p + 1 + t) (by omega) nf q (by omega), Bool.or_eq_true, decide_eq_true_iff]
            exact Or.comm) (tb_add c (by omega) m m128 V.2.2.2.2 (p + 1 + t) hj nf)
          rw [if_pos hc, if_pos ⟨n1, n2⟩, ds_lf h d (p + 1) _ _ L (by omega) V']
          have ec : cosN s (updN mu p (p + 1 + t)) (p + 1) = cosN s mu p + bdS s p (p + 1 + t) := by
            show cosN s (updN mu p (p + 1 + t)) p + (if updN mu p (p + 1 + t) p = p then alS s p else if p < updN mu p (p + 1 + t) p then bdS s p (updN mu p (p + 1 + t) p) else 0) = _
            rw [cosN_up p (Nat.le_refl _), show updN mu p (p + 1 + t) p = p + 1 + t from if_pos rfl, if_neg (by omega), if_pos (by omega)]
          rw [ec, Int32.add_assoc]
        · rw [if_neg hc, if_neg (fun z => hc (hch.mpr z))]
      have hfold : ∀ r, r ≤ d → ∀ L, dsI (fun j L => if chB s mu p j = true then dsF s c d (updN mu p j) L else L) c r (upL L (cosN s mu p + lfI (alS s) (bdS s) (fun m' => lfF (alS s) (bdS s) d (p + 1) m') p m (d - r))) = upL L (cosN s mu p + lfI (alS s) (bdS s) (fun m' => lfF (alS s) (bdS s) d (p + 1) m') p m d) := by
        intro r
        induction r with
        | zero => intro _ L; rfl
        | succ r ih =>
          intro hr L
          rw [← ih (by omega) L]
          have step : ∀ Y, dsI (fun j L => if chB s mu p j = true then dsF s c d (updN mu p j) L else L) c (r + 1) Y = dsI (fun j L => if chB s mu p j = true then dsF s c d (updN mu p j) L else L) c r (if chB s mu p (c - (r + 1)) = true then dsF s c d (updN mu p (c - (r + 1))) Y else Y) := fun _ => rfl
          rw [step]
          refine congrArg (dsI (fun j L => if chB s mu p j = true then dsF s c d (updN mu p j) L else L) c r) ?_
          rw [show c - (r + 1) = p + 1 + (d - (r + 1)) by omega, hmate (d - (r + 1)) (by omega)]
          rw [show d - r = d - (r + 1) + 1 by omega]
          have htd : d - (r + 1) < d := by omega
          generalize d - (r + 1) = t at htd ⊢
          rw [lfI_u]
          obtain ⟨N, n1, n2⟩ := h.lI (d := d) (m := m) (p := p) (by omega) hrec t (by omega)
          by_cases hq : ¬ m.testBit (p + 1 + t) = true ∧ bdS s p (p + 1 + t) ≠ -1
          · rw [if_pos hq]
            obtain ⟨M, m1, m2⟩ := hrec (m + 2 ^ (p + 1 + t))
            rcases h.bd (k := p) (j := p + 1 + t) (by omega) (by omega) with q | ⟨D, d1, d2⟩
            · exact absurd q hq.2
            · have e1 : cosN s mu p + lfI (alS s) (bdS s) (fun m' => lfF (alS s) (bdS s) d (p + 1) m') p m t = nI (B + N) := by rw [b2, n2, nI_add]
              have e2 : cosN s mu p + (bdS s p (p + 1 + t) + lfF (alS s) (bdS s) d (p + 1) (m + 2 ^ (p + 1 + t))) = nI (B + (D + M)) := by rw [b2, d2, m2, nI_add, nI_add]
              have e3 : bdS s p (p + 1 + t) + lfF (alS s) (bdS s) d (p + 1) (m + 2 ^ (p + 1 + t)) = nI (D + M) := by rw [d2, m2, nI_add]
              rw [e1, e2, upL_2 (nI_nm1 (by omega))]
              refine congrArg (upL L) ?_
              by_cases hlt : D + M < N
              · rw [if_pos ((nI_ltI (by omega) (by omega)).mpr (by omega)), if_pos ⟨hq.1, hq.2, by
                  show bdS s p (p + 1 + t) + lfF (alS s) (bdS s) d (p + 1) (m + 2 ^ (p + 1 + t)) < _
                  rw [e3, n2]; exact (nI_ltI (by omega) (by omega)).mpr hlt⟩]
                exact e2.symm
              · rw [if_neg (fun z => hlt (by have := (nI_ltI (by omega) (by omega)).mp z; omega)), if_neg (fun z => hlt (by
                  have z3 : bdS s p (p + 1 + t) + lfF (alS s) (bdS s) d (p + 1) (m + 2 ^ (p + 1 + t)) < lfI (alS s) (bdS s) (fun m' => lfF (alS s) (bdS s) d (p + 1) m') p m t := z.2.2
                  rw [e3, n2] at z3
                  exact (nI_ltI (by omega) (by omega)).mp z3))]
                exact e1.symm
          · rw [if_neg hq, if_neg (fun z => hq ⟨z.1, z.2.1⟩)]
      show dsI (fun j L => if chB s mu p j = true then dsF s c d (updN mu p j) L else L) c (d + 1) L = _
      unfold dsI
      rw [show c - (d + 1) = p by omega, hself, el]
      have := hfold d (Nat.le_refl _) L
      rw [Nat.sub_self] at this
      exact this
theorem try_alike {s : Nat → Int32} {c : Nat} (h : okN s c) : lfF (alS s) (bdS s) c 0 0 = tryC s c := by
  have V : vMu s c 0 (fun _ => 0) 0 := ⟨fun k hk => absurd hk (Nat.not_lt_zero k), fun k hk => absurd hk (Nat.not_lt_zero k), fun k hk => absurd hk (Nat.not_lt_zero k), fun q _ _ => ⟨fun z => by simp at z, fun ⟨k, hk, _⟩ => absurd hk (Nat.not_lt_zero k)⟩, Nat.two_pow_pos c⟩
  show _ = dsF s c c (fun _ => 0) (-1)
  rw [ds_lf h c 0 _ 0 (-1) (by omega) V]
  show _ = upL (-1) (0 + _)
  unfold upL
  rw [if_pos (Or.inl rfl), Int32.zero_add]
