/-! ===== both ways of telling the cheapest bundling tell the least ===== -/
abbrev An (s : Nat → Int32) (k : Nat) : Nat := (alS s k).toNatClampNeg
def Bn (s : Nat → Int32) (k j : Nat) : Option Nat := if bdS s k j = -1 then none else some (bdS s k j).toNatClampNeg
theorem Bn_comm (s : Nat → Int32) (k j : Nat) : Bn s k j = Bn s j k := by
  unfold Bn
  rw [show bdS s k j = bdS s j k from bdF_comm]
theorem Bn_some {s : Nat → Int32} {k j b : Nat} (h : Bn s k j = some b) : ¬ bdS s k j = -1 ∧ (bdS s k j).toNatClampNeg = b := by
  unfold Bn at h
  split at h
  · cases h
  · rename_i hq
    exact ⟨hq, Option.some.inj h⟩
theorem Bn_of {s : Nat → Int32} {k j b : Nat} (h : bdS s k j = nI b) (hb : b < 100000) : Bn s k j = some b := by
  unfold Bn
  rw [if_neg (by rw [h]; exact nI_nm1 (by omega)), kcl0 h (by omega)]
theorem okN.anI {s : Nat → Int32} {c k : Nat} (h : okN s c) (hk : k < c) : An s k ≤ 2000 ∧ alS s k = nI (An s k) := by
  obtain ⟨A, a1, a2⟩ := h.al hk
  have e : An s k = A := kcl0 a2 (by omega)
  exact ⟨by rw [e]; exact a1, by rw [e]; exact a2⟩
theorem okN.bnI {s : Nat → Int32} {c k j : Nat} (h : okN s c) (hk : k < c) (hj : j < c) : (bdS s k j = -1 ∧ Bn s k j = none) ∨ ∃ b, b ≤ 2000 ∧ bdS s k j = nI b ∧ Bn s k j = some b := by
  rcases h.bd hk hj with q | ⟨b, b1, b2⟩
  · exact Or.inl ⟨q, if_pos q⟩
  · exact Or.inr ⟨b, b1, b2, Bn_of b2 (by omega)⟩
section INM
variable {s : Nat → Int32} {c : Nat}
theorem in_min (h : okN s c) {T : Nat → Int32} {z m : Nat} (hm : m < c) (hz : 2 ^ m ≤ z) (hz2 : z < 2 ^ (m + 1)) (ih : ∀ y, y < 2 ^ m → ∃ V, V ≤ 2000 * m ∧ T y = nI V ∧ isMin (An s) (Bn s) (bl m y) V) :
    ∀ o, o ≤ m → ∃ V, V ≤ 2000 * (m + 1) ∧ inC (alS s) (bdS s) T z m o = nI V ∧ (∃ n, cst (An s) (Bn s) n (m :: bl m (z - 2 ^ m)) V) ∧ (∀ n u, cst (An s) (Bn s) n (bl m (z - 2 ^ m)) u → V ≤ An s m + u) ∧
      (∀ j, j < o → (z - 2 ^ m).testBit j = true → ∀ b n u, Bn s m j = some b → cst (An s) (Bn s) n (bl m (z - 2 ^ m - 2 ^ j)) u → V ≤ b + u)
  | 0, _ => by
    have h7 := h.1
    have hp := Nat.pow_succ (n := 2) (m := m)
    obtain ⟨V0, v1, v2, ⟨n, v3⟩, v4⟩ := ih (z - 2 ^ m) (by omega)
    obtain ⟨a1, a2⟩ := h.anI hm
    refine ⟨An s m + V0, by omega, ?_, ⟨n + 1, cst_one v3⟩, fun n u hu => ?_, fun j hj => absurd hj (Nat.not_lt_zero j)⟩
    · show T (z - 2 ^ m) + alS s m = _
      rw [v2, a2, nI_add, Nat.add_comm]
    · have := v4 n u hu
      omega
  | o + 1, ho => by
    have h7 := h.1
    have hp := Nat.pow_succ (n := 2) (m := m)
    have hp7 := pow_mono7 (a := m + 1) (b := 7) (by omega)
    have hzz : z < 128 := Nat.lt_of_lt_of_le hz2 hp7
    obtain ⟨V, v1, v2, v3, v4, v5⟩ := in_min h hm hz hz2 ih o (by omega)
    obtain ⟨W, w1, w2, ⟨n, w3⟩, w4⟩ := ih (z - 2 ^ m - 2 ^ o) (Nat.lt_of_le_of_lt (Nat.sub_le _ _) (by omega))
    rw [inC_u]
    split
    · rename_i hc
      obtain ⟨c1, c2, c3⟩ := hc
      rcases h.bnI (k := o) (j := m) (by omega) hm with ⟨q, -⟩ | ⟨D, d1, d2, d3⟩
      · exact absurd q c2
      · have e : T (z - 2 ^ m - 2 ^ o) + bdS s o m = nI (W + D) := by rw [w2, d2, nI_add]
        rw [e, v2] at c3
        have hlt := (nI_ltI (by omega) (by omega)).mp c3
        have hb : Bn s m o = some D := (Bn_comm s m o).trans d3
        have hs := bl_sub m (by omega) (z := z - 2 ^ m) (j := o) (by omega) (by omega) c1
        refine ⟨D + W, by omega, by rw [e, Nat.add_comm], ⟨n + 1, cst_perm (List.Perm.cons m hs.symm) (cst_two hb w3)⟩, fun n u hu => ?_, fun j hj hj2 b n u hb2 hu => ?_⟩
        · have := v4 n u hu
          omega
        · by_cases ej : j = o
          · subst ej
            rw [hb] at hb2
            have := Option.some.inj hb2
            have := w4 n u hu
            omega
          · have := v5 j (by omega) hj2 b n u hb2 hu
            omega
    · rename_i hc
      refine ⟨V, v1, v2, v3, v4, fun j hj hj2 b n u hb2 hu => ?_⟩
      by_cases ej : j = o
      · subst ej
        rcases h.bnI (k := j) (j := m) (by omega) hm with ⟨q, q2⟩ | ⟨D, d1, d2, d3⟩
        · rw [Bn_comm, q2] at hb2
          cases hb2
        · rw [Bn_comm, d3] at hb2
          have e := Option.some.inj hb2
          have hn : ¬ T (z - 2 ^ m - 2 ^ j) + bdS s j m < inC (alS s) (bdS s) T z m j := fun q => hc ⟨hj2, by rw [d2]; exact nI_nm1 (by omega), q⟩
          rw [w2, d2, nI_add, v2] at hn
          have := mt (nI_ltI (a := W + D) (b := V) (by omega) (by omega)).mpr hn
          have := w4 n u hu
          omega
      · exact v5 j (by omega) hj2 b n u hb2 hu
theorem tb_min (h : okN s c) : ∀ m, m ≤ c → ∀ z, z < 2 ^ m → ∃ V, V ≤ 2000 * m ∧ tbC (alS s) (bdS s) (fun _ => 0) (2 ^ c - 1) z = nI V ∧ isMin (An s) (Bn s) (bl m z) V
  | 0, _, z, hz => by
    obtain rfl : z = 0 := by omega
    refine ⟨0, by decide, ?_, isMin_nil⟩
    rw [tbC_pre _ 0 (Nat.zero_le _)]
    rfl
  | m + 1, hm, z, hz => by
    have h7 := h.1
    have p1 := pow_mono7 hm
    have p2 := pow_mono7 h7
    by_cases h0 : z < 2 ^ m
    · obtain ⟨V, v1, v2, v3⟩ := tb_min h m (by omega) z h0
      refine ⟨V, by omega, v2, ?_⟩
      rw [show bl (m + 1) z = bl m z from if_neg (by rw [bit_hi m (by omega) z (by omega) h0]; decide)]
      exact v3
    · have p3 : 1 ≤ 2 ^ m := Nat.one_le_two_pow
      have hl : Nat.log2 z = m := log_of z (by omega) m (by omega) (by omega) hz
      obtain ⟨V, v1, v2, v3, v4, v5⟩ := in_min h (T := tbC (alS s) (bdS s) (fun _ => 0) (2 ^ c - 1)) (z := z) (m := m) (by omega) (by omega) hz (fun y hy => tb_min h m (by omega) y hy) m (Nat.le_refl _)
      have ht := bit_top m (by omega) z (by omega) (by omega) hz
      have hs := (bit_sub z (by omega) m (by omega) ht).2
      refine ⟨V, v1, ?_, ?_⟩
      · rw [tbC_at (by omega) (by omega), hl]
        exact v2
      · rw [show bl (m + 1) z = m :: bl m z from if_pos ht, ← bl_eq m (z := z) (z' := z - 2 ^ m) (fun q hq => by rw [hs q (by omega)]; simp; omega)]
        refine isMin_of (Bn_comm s) v3 v4 (fun j L2 b n u hp hb hu => ?_)
        obtain ⟨j1, j2⟩ := bl_mem m (hp.mem_iff.mpr List.mem_cons_self)
        have hb2 := bl_sub m (by omega) (z := z - 2 ^ m) (by omega) j1 j2
        exact v5 j j1 j2 b n u hb (cst_perm (List.Perm.cons_inv (hp.symm.trans hb2)) hu)
theorem li_min (h : okN s c) {rec : Nat → Int32} {p d m : Nat} (hp : p + (d + 1) = c) (hm : m < 128) (hr : ∀ x, x < 128 → ∃ V, V ≤ 2000 * d ∧ rec x = nI V ∧ isMin (An s) (Bn s) (ul d (p + 1) x) V) :
    ∀ r, r ≤ d → ∃ V, V ≤ 2000 * (d + 1) ∧ lfI (alS s) (bdS s) rec p m r = nI V ∧ (∃ n, cst (An s) (Bn s) n (p :: ul d (p + 1) m) V) ∧ (∀ n u, cst (An s) (Bn s) n (ul d (p + 1) m) u → V ≤ An s p + u) ∧
      (∀ i, i < r → m.testBit (p + 1 + i) = false → ∀ b n u, Bn s p (p + 1 + i) = some b → cst (An s) (Bn s) n (ul d (p + 1) (m + 2 ^ (p + 1 + i))) u → V ≤ b + u)
  | 0, _ => by
    obtain ⟨V0, v1, v2, ⟨n, v3⟩, v4⟩ := hr m hm
    obtain ⟨a1, a2⟩ := h.anI (k := p) (by omega)
    refine ⟨An s p + V0, by omega, ?_, ⟨n + 1, cst_one v3⟩, fun n u hu => ?_, fun j hj => absurd hj (Nat.not_lt_zero j)⟩
    · show alS s p + rec m = _
      rw [v2, ← nI_add, ← a2]
    · have := v4 n u hu
      omega
  | r + 1, hd => by
    have h7 := h.1
    obtain ⟨V, v1, v2, v3, v4, v5⟩ := li_min h hp hm hr r (by omega)
    by_cases hb : m.testBit (p + 1 + r) = true
    · rw [lfI_u, if_neg (fun q => q.1 hb)]
      refine ⟨V, v1, v2, v3, v4, fun i hi hi2 b n u hb2 hu => ?_⟩
      by_cases ei : i = r
      · subst ei
        rw [hb] at hi2
        cases hi2
      · exact v5 i (by omega) hi2 b n u hb2 hu
    · have hbf : m.testBit (p + 1 + r) = false := by simpa using hb
      obtain ⟨W, w1, w2, ⟨n, w3⟩, w4⟩ := hr (m + 2 ^ (p + 1 + r)) (bit_add2 m hm _ (by omega) hbf)
      rw [lfI_u]
      split
      · rename_i hc
        obtain ⟨c1, c2, c3⟩ := hc
        rcases h.bnI (k := p) (j := p + 1 + r) (by omega) (by omega) with ⟨q, -⟩ | ⟨D, d1, d2, d3⟩
        · exact absurd q c2
        · have e : bdS s p (p + 1 + r) + rec (m + 2 ^ (p + 1 + r)) = nI (D + W) := by rw [w2, d2, nI_add]
          rw [e, v2] at c3
          have hlt := (nI_ltI (by omega) (by omega)).mp c3
          have hs := ul_add d (p + 1) (by omega) hm (by omega : p + 1 ≤ p + 1 + r) (by omega) hbf
          refine ⟨D + W, by omega, e, ⟨n + 1, cst_perm (List.Perm.cons p hs.symm) (cst_two d3 w3)⟩, fun n u hu => ?_, fun i hi hi2 b n u hb2 hu => ?_⟩
          · have := v4 n u hu
            omega
          · by_cases ei : i = r
            · subst ei
              rw [d3] at hb2
              have := Option.some.inj hb2
              have := w4 n u hu
              omega
            · have := v5 i (by omega) hi2 b n u hb2 hu
              omega
      · rename_i hc
        refine ⟨V, v1, v2, v3, v4, fun i hi hi2 b n u hb2 hu => ?_⟩
        by_cases ei : i = r
        · subst ei
          rcases h.bnI (k := p) (j := p + 1 + i) (by omega) (by omega) with ⟨q, q2⟩ | ⟨D, d1, d2, d3⟩
          · rw [q2] at hb2
            cases hb2
          · rw [d3] at hb2
            have e := Option.some.inj hb2
            have hn : ¬ bdS s p (p + 1 + i) + rec (m + 2 ^ (p + 1 + i)) < lfI (alS s) (bdS s) rec p m i := fun q => hc ⟨hb, by rw [d2]; exact nI_nm1 (by omega), q⟩
            rw [w2, d2, nI_add, v2] at hn
            have := mt (nI_ltI (a := D + W) (b := V) (by omega) (by omega)).mpr hn
            have := w4 n u hu
            omega
        · exact v5 i (by omega) hi2 b n u hb2 hu
theorem lf_min (h : okN s c) : ∀ d p m, p + d = c → m < 128 → ∃ V, V ≤ 2000 * d ∧ lfF (alS s) (bdS s) d p m = nI V ∧ isMin (An s) (Bn s) (ul d p m) V
  | 0, _, _, _, _ => ⟨0, by decide, rfl, isMin_nil⟩
  | d + 1, p, m, hp, hm => by
    have h7 := h.1
    unfold lfF ul
    split
    · obtain ⟨V, v1, v2, v3⟩ := lf_min h d (p + 1) m (by omega) hm
      exact ⟨V, by omega, v2, v3⟩
    · obtain ⟨V, v1, v2, v3, v4, v5⟩ := li_min h (rec := fun m' => lfF (alS s) (bdS s) d (p + 1) m') hp hm (fun x hx => lf_min h d (p + 1) x (by omega) hx) d (Nat.le_refl _)
      refine ⟨V, v1, v2, isMin_of (Bn_comm s) v3 v4 (fun j L2 b n u hpm hb hu => ?_)⟩
      obtain ⟨j1, j2, j3⟩ := ul_mem d (p + 1) (hpm.mem_iff.mpr List.mem_cons_self)
      obtain ⟨i, rfl⟩ : ∃ i, j = p + 1 + i := ⟨j - (p + 1), by omega⟩
      have hb2 := ul_add d (p + 1) (by omega) hm j1 j2 j3
      exact v5 i (by omega) j3 b n u hb (cst_perm (List.Perm.cons_inv (hpm.symm.trans hb2)) hu)
/-- the cheapest bundling: by sets, by trying, and that it is no dearer than none -/
theorem both_min (h : okN s c) : ∃ V S, setC (alS s) (bdS s) c = nI V ∧ lfF (alS s) (bdS s) c 0 0 = nI V ∧ isMin (An s) (Bn s) (ul c 0 0) V ∧ V ≤ S ∧ sumF (alS s) c = nI S ∧ S ≤ 2000 * c := by
  have h7 := h.1
  have p3 : 1 ≤ 2 ^ c := Nat.one_le_two_pow
  obtain ⟨V, v1, v2, v3⟩ := tb_min h c (Nat.le_refl _) (2 ^ c - 1) (by omega)
  obtain ⟨W, w1, w2, w3⟩ := lf_min h c 0 0 (by omega) (by decide)
  have e : V = W := v3.uniq w3 (bl_ul c (by omega)).1
  subst e
  obtain ⟨V2, S, g1, g2, g3, g4⟩ := set_le h c (Nat.le_refl _)
  have e2 : V = V2 := (nI_eq (by omega) (by omega)).mp (v2.symm.trans g3)
  subst e2
  exact ⟨V, S, v2, w2, w3, g1, g4, g2⟩
end INM
/-- the number that a parcel had before x and y were gone -/
def e2g (x y k : Nat) : Nat := if k < x then k else if k + 1 < y then k + 1 else k + 2
theorem ul_two : ∀ c : Nat, c < 8 → ∀ y : Nat, y < c → ∀ x : Nat, x < y → (ul c 0 0).Perm (x :: y :: (ul (c - 2) 0 0).map (e2g x y)) := by decide +kernel
theorem two_gone {s s' : Nat → Int32} {c x y b V V' : Nat} (h : okN s c) (hxy : x < y) (hy : y < c) (he : ∀ k, k < c - 2 → alS s' k = alS s (e2g x y k)) (hb : ∀ k, k < c - 2 → ∀ j, j < c - 2 → k ≠ j → bdS s' k j = bdS s (e2g x y k) (e2g x y j)) (hB : bdS s x y = nI b) (hb2 : b < 100000)
    (hV : isMin (An s) (Bn s) (ul c 0 0) V) (hV' : isMin (An s') (Bn s') (ul (c - 2) 0 0) V') : V ≤ V' + b := by
  have h7 := h.1
  obtain ⟨⟨n, c1⟩, -⟩ := hV'
  have hk : ∀ k, k ∈ ul (c - 2) 0 0 → k < c - 2 := fun k hk => by
    have := (ul_mem (c - 2) 0 hk).2.1
    omega
  have c2 := cst_map (A := An s) (B := Bn s) (e := e2g x y) (fun k q => by show (alS s' k).toNatClampNeg = (alS s (e2g x y k)).toNatClampNeg; rw [he k (hk k q)]) (fun k q j q2 hne => by unfold Bn; rw [hb k (hk k q) j (hk j q2) hne]) (bl_ul (c - 2) (by omega)).2 c1
  have c3 := cst_perm (ul_two c (by omega) y hy x hxy).symm (cst_two (Bn_of hB hb2) c2)
  have := hV.2 _ _ c3
  omega
