/-! ===== the least cost of a bundling, over a list of parcels in any order ===== -/
/-- v is what some bundling of the parcels of L costs: A alone, B as a pair; n steps are enough -/
def cst (A : Nat → Nat) (B : Nat → Nat → Option Nat) : Nat → List Nat → Nat → Prop
  | 0, L, v => L = [] ∧ v = 0
  | n + 1, L, v => (L = [] ∧ v = 0) ∨ (∃ k L' v', L.Perm (k :: L') ∧ cst A B n L' v' ∧ v = A k + v') ∨ (∃ k j L' b v', L.Perm (k :: j :: L') ∧ B k j = some b ∧ cst A B n L' v' ∧ v = b + v')
section CST
variable {A : Nat → Nat} {B : Nat → Nat → Option Nat}
theorem cst_perm : ∀ {n : Nat} {L M : List Nat} {v : Nat}, L.Perm M → cst A B n L v → cst A B n M v
  | 0, L, M, v, h, hc => by
    obtain ⟨rfl, h2⟩ := hc
    exact ⟨List.Perm.eq_nil h.symm, h2⟩
  | n + 1, L, M, v, h, hc => by
    rcases hc with ⟨rfl, h2⟩ | ⟨k, L', v', h1, h2, h3⟩ | ⟨k, j, L', b, v', h1, h2, h3, h4⟩
    · exact Or.inl ⟨List.Perm.eq_nil h.symm, h2⟩
    · exact Or.inr (Or.inl ⟨k, L', v', h.symm.trans h1, h2, h3⟩)
    · exact Or.inr (Or.inr ⟨k, j, L', b, v', h.symm.trans h1, h2, h3, h4⟩)
theorem cst_up : ∀ {n : Nat} {L : List Nat} {v : Nat}, cst A B n L v → cst A B (n + 1) L v
  | 0, L, v, h => Or.inl h
  | n + 1, L, v, h => by
    rcases h with h | ⟨k, L', v', h1, h2, h3⟩ | ⟨k, j, L', b, v', h1, h2, h3, h4⟩
    · exact Or.inl h
    · exact Or.inr (Or.inl ⟨k, L', v', h1, cst_up h2, h3⟩)
    · exact Or.inr (Or.inr ⟨k, j, L', b, v', h1, h2, cst_up h3, h4⟩)
theorem cst_one {n k v : Nat} {L : List Nat} (h : cst A B n L v) : cst A B (n + 1) (k :: L) (A k + v) := Or.inr (Or.inl ⟨k, L, v, List.Perm.refl _, h, rfl⟩)
theorem cst_two {n k j b v : Nat} {L : List Nat} (hb : B k j = some b) (h : cst A B n L v) : cst A B (n + 1) (k :: j :: L) (b + v) := Or.inr (Or.inr ⟨k, j, L, b, v, List.Perm.refl _, hb, h, rfl⟩)
theorem perm_out {t k : Nat} {L1 L' : List Nat} (h : (k :: L').Perm (t :: L1)) (hk : ¬ k = t) : L'.Perm (t :: L'.erase t) ∧ L1.Perm (k :: L'.erase t) := by
  have hm : t ∈ k :: L' := h.mem_iff.mpr List.mem_cons_self
  have hm' : t ∈ L' := by
    rcases List.mem_cons.mp hm with e | e
    · exact absurd e.symm hk
    · exact e
  have e1 := List.perm_cons_erase hm'
  refine ⟨e1, ?_⟩
  have e2 : (t :: L1).Perm (t :: k :: L'.erase t) := h.symm.trans ((List.Perm.cons k e1).trans (List.Perm.swap t k _))
  exact List.Perm.cons_inv e2
/-- what a bundling does with the parcel t -/
theorem cst_at (hB : ∀ k j, B k j = B j k) : ∀ {n : Nat} {L L1 : List Nat} {t u : Nat}, cst A B n L u → L.Perm (t :: L1) → (∃ u', cst A B n L1 u' ∧ u = A t + u') ∨ (∃ j L2 b u', L1.Perm (j :: L2) ∧ B t j = some b ∧ cst A B n L2 u' ∧ u = b + u')
  | 0, L, L1, t, u, h, hp => by
    obtain ⟨rfl, -⟩ := h
    exact absurd (List.Perm.eq_nil hp.symm) (List.cons_ne_nil _ _)
  | n + 1, L, L1, t, u, h, hp => by
    rcases h with ⟨rfl, -⟩ | ⟨k, L', v', h1, h2, rfl⟩ | ⟨k, j, L', b, v', h1, h2, h3, rfl⟩
    · exact absurd (List.Perm.eq_nil hp.symm) (List.cons_ne_nil _ _)
    · have hq := h1.symm.trans hp
      by_cases e : k = t
      · subst e
        exact Or.inl ⟨v', cst_up (cst_perm (List.Perm.cons_inv hq) h2), rfl⟩
      · obtain ⟨p1, p2⟩ := perm_out hq e
        rcases cst_at hB h2 p1 with ⟨u', c1, rfl⟩ | ⟨j, L2, b, u', c1, c2, c3, rfl⟩
        · exact Or.inl ⟨A k + u', cst_perm p2.symm (cst_one c1), by omega⟩
        · exact Or.inr ⟨j, k :: L2, b, A k + u', (p2.trans (List.Perm.cons k c1)).trans (List.Perm.swap j k _), c2, cst_one c3, by omega⟩
    · have hq := h1.symm.trans hp
      by_cases e : k = t
      · subst e
        exact Or.inr ⟨j, L', b, v', (List.Perm.cons_inv hq).symm, h2, cst_up h3, rfl⟩
      · by_cases e2 : j = t
        · subst e2
          have q2 : (j :: k :: L').Perm (j :: L1) := (List.Perm.swap k j L').trans hq
          exact Or.inr ⟨k, L', b, v', (List.Perm.cons_inv q2).symm, (hB j k).trans h2, cst_up h3, rfl⟩
        · obtain ⟨p1, p2⟩ := perm_out hq e
          have hm : t ∈ j :: L' := p1.mem_iff.mpr List.mem_cons_self
          have hm' : t ∈ L' := by
            rcases List.mem_cons.mp hm with e3 | e3
            · exact absurd e3.symm e2
            · exact e3
          obtain ⟨p3, p4⟩ := perm_out p1 e2
          -- j :: L' over t :: E0, E0 over j :: E
          have p5 : L1.Perm (k :: j :: L'.erase t) := p2.trans (List.Perm.cons k p4)
          rcases cst_at hB h3 p3 with ⟨u', c1, rfl⟩ | ⟨i, L2, b2, u', c1, c2, c3, rfl⟩
          · exact Or.inl ⟨b + u', cst_perm p5.symm (cst_two h2 c1), by omega⟩
          · refine Or.inr ⟨i, k :: j :: L2, b2, b + u', ?_, c2, cst_two h2 c3, by omega⟩
            exact ((p5.trans (List.Perm.cons k (List.Perm.cons j c1))).trans (List.Perm.cons k (List.Perm.swap i j _))).trans (List.Perm.swap i k _)
/-- v is the least that a bundling of L costs -/
def isMin (A : Nat → Nat) (B : Nat → Nat → Option Nat) (L : List Nat) (v : Nat) : Prop := (∃ n, cst A B n L v) ∧ ∀ n u, cst A B n L u → v ≤ u
theorem isMin.uniq {L M : List Nat} {u v : Nat} (h1 : isMin A B L u) (h2 : isMin A B M v) (hp : L.Perm M) : u = v := by
  obtain ⟨⟨n, a1⟩, a2⟩ := h1
  obtain ⟨⟨m, b1⟩, b2⟩ := h2
  have c1 := a2 _ _ (cst_perm hp.symm b1)
  have c2 := b2 _ _ (cst_perm hp a1)
  omega
theorem isMin_nil : isMin A B [] 0 := ⟨⟨0, rfl, rfl⟩, fun n u _ => Nat.zero_le u⟩
theorem isMin_of (hB : ∀ k j, B k j = B j k) {t v : Nat} {L1 : List Nat} (ha : ∃ n, cst A B n (t :: L1) v) (hb : ∀ n u, cst A B n L1 u → v ≤ A t + u) (hc : ∀ j L2 b n u, L1.Perm (j :: L2) → B t j = some b → cst A B n L2 u → v ≤ b + u) : isMin A B (t :: L1) v := by
  refine ⟨ha, fun n u h => ?_⟩
  rcases cst_at hB h (List.Perm.refl _) with ⟨u', c1, rfl⟩ | ⟨j, L2, b, u', c1, c2, c3, rfl⟩
  · exact hb n u' c1
  · exact hc j L2 b n u' c1 c2 c3
theorem cst_map {A' : Nat → Nat} {B' : Nat → Nat → Option Nat} {e : Nat → Nat} : ∀ {n : Nat} {L : List Nat} {v : Nat}, (∀ k, k ∈ L → A' k = A (e k)) → (∀ k, k ∈ L → ∀ j, j ∈ L → k ≠ j → B' k j = B (e k) (e j)) → L.Nodup → cst A' B' n L v → cst A B n (L.map e) v
  | 0, L, v, _, _, _, h => by
    obtain ⟨rfl, h2⟩ := h
    exact ⟨rfl, h2⟩
  | n + 1, L, v, ha, hb, hn, h => by
    rcases h with ⟨rfl, h2⟩ | ⟨k, L', v', h1, h2, h3⟩ | ⟨k, j, L', b, v', h1, h2, h3, h4⟩
    · exact Or.inl ⟨rfl, h2⟩
    · have hm : ∀ x, x ∈ L' → x ∈ L := fun x hx => h1.mem_iff.mpr (List.mem_cons_of_mem _ hx)
      have hn' := (List.nodup_cons.mp (h1.nodup_iff.mp hn)).2
      exact Or.inr (Or.inl ⟨e k, L'.map e, v', h1.map e, cst_map (fun x hx => ha x (hm x hx)) (fun x hx y hy => hb x (hm x hx) y (hm y hy)) hn' h2, by rw [h3, ha k (h1.mem_iff.mpr List.mem_cons_self)]⟩)
    · have hm : ∀ x, x ∈ L' → x ∈ L := fun x hx => h1.mem_iff.mpr (List.mem_cons_of_mem _ (List.mem_cons_of_mem _ hx))
      have hn1 := List.nodup_cons.mp (h1.nodup_iff.mp hn)
      have hn' := (List.nodup_cons.mp hn1.2).2
      have hk : k ∈ L := h1.mem_iff.mpr List.mem_cons_self
      have hj : j ∈ L := h1.mem_iff.mpr (List.mem_cons_of_mem _ List.mem_cons_self)
      have hne : k ≠ j := fun q => hn1.1 (by rw [q]; exact List.mem_cons_self)
      exact Or.inr (Or.inr ⟨e k, e j, L'.map e, b, v', h1.map e, (hb k hk j hj hne).symm.trans h2, cst_map (fun x hx => ha x (hm x hx)) (fun x hx y hy => hb x (hm x hx) y (hm y hy)) hn' h3, h4⟩)
end CST
/-- the parcels of the set z below m, the last one first -/
def bl : Nat → Nat → List Nat
  | 0, _ => []
  | m + 1, z => if z.testBit m = true then m :: bl m z else bl m z
/-- the parcels from p on, d of them, that m does not hold -/
def ul : Nat → Nat → Nat → List Nat
  | 0, _, _ => []
  | d + 1, p, m => if m.testBit p = true then ul d (p + 1) m else p :: ul d (p + 1) m
theorem bit_sub : ∀ z : Nat, z < 128 → ∀ j : Nat, j < 7 → z.testBit j = true → z - 2 ^ j < 128 ∧ ∀ q : Nat, q < 7 → (z - 2 ^ j).testBit q = (decide (q ≠ j) && z.testBit q) := by decide +kernel
theorem bit_hi : ∀ m : Nat, m < 7 → ∀ z : Nat, z < 128 → z < 2 ^ m → z.testBit m = false := by decide +kernel
theorem bit_top : ∀ m : Nat, m < 7 → ∀ z : Nat, z < 128 → 2 ^ m ≤ z → z < 2 ^ (m + 1) → z.testBit m = true := by decide +kernel
theorem bit_add2 : ∀ m : Nat, m < 128 → ∀ j : Nat, j < 7 → m.testBit j = false → m + 2 ^ j < 128 := by decide +kernel
theorem bl_eq : ∀ (m : Nat) {z z' : Nat}, (∀ q, q < m → z'.testBit q = z.testBit q) → bl m z' = bl m z
  | 0, _, _, _ => rfl
  | m + 1, z, z', h => by
    unfold bl
    rw [h m (by omega), bl_eq m (fun q hq => h q (by omega))]
theorem ul_eq : ∀ (d p : Nat) {m m' : Nat}, (∀ q, p ≤ q → q < p + d → m'.testBit q = m.testBit q) → ul d p m' = ul d p m
  | 0, _, _, _, _ => rfl
  | d + 1, p, m, m', h => by
    unfold ul
    rw [h p (Nat.le_refl _) (by omega), ul_eq d (p + 1) (fun q h1 h2 => h q (by omega) (by omega))]
theorem bl_mem : ∀ (m : Nat) {z j : Nat}, j ∈ bl m z → j < m ∧ z.testBit j = true
  | 0, _, _, h => by cases h
  | m + 1, z, j, h => by
    unfold bl at h
    split at h
    · rename_i hb
      rcases List.mem_cons.mp h with e | e
      · subst e; exact ⟨Nat.lt_succ_self _, hb⟩
      · exact ⟨Nat.lt_succ_of_lt (bl_mem m e).1, (bl_mem m e).2⟩
    · exact ⟨Nat.lt_succ_of_lt (bl_mem m h).1, (bl_mem m h).2⟩
theorem ul_mem : ∀ (d p : Nat) {m j : Nat}, j ∈ ul d p m → p ≤ j ∧ j < p + d ∧ m.testBit j = false
  | 0, _, _, _, h => by cases h
  | d + 1, p, m, j, h => by
    unfold ul at h
    split at h
    · have := ul_mem d (p + 1) h
      exact ⟨by omega, by omega, this.2.2⟩
    · rename_i hb
      rcases List.mem_cons.mp h with e | e
      · subst e; exact ⟨Nat.le_refl _, by omega, by simpa using hb⟩
      · have := ul_mem d (p + 1) e
        exact ⟨by omega, by omega, this.2.2⟩
theorem bl_sub : ∀ (m : Nat), m ≤ 7 → ∀ {z j : Nat}, z < 128 → j < m → z.testBit j = true → (bl m z).Perm (j :: bl m (z - 2 ^ j))
  | 0, _, _, _, _, h, _ => absurd h (Nat.not_lt_zero _)
  | m + 1, hm, z, j, hz, hj, hb => by
    obtain ⟨-, hs⟩ := bit_sub z hz j (by omega) hb
    by_cases e : j = m
    · subst e
      have e1 : bl (j + 1) z = j :: bl j z := if_pos hb
      have e2 : bl (j + 1) (z - 2 ^ j) = bl j (z - 2 ^ j) := by
        refine if_neg ?_
        rw [hs j (by omega)]
        simp
      rw [e1, e2, bl_eq j (z := z) (z' := z - 2 ^ j) (fun q hq => by rw [hs q (by omega)]; simp; omega)]
    · have ih := bl_sub m (by omega) hz (by omega : j < m) hb
      have hm2 : (z - 2 ^ j).testBit m = z.testBit m := by
        rw [hs m (by omega)]
        simp
        omega
      unfold bl
      rw [hm2]
      split
      · exact (List.Perm.cons m ih).trans (List.Perm.swap j m _)
      · exact ih
theorem ul_add : ∀ (d p : Nat), p + d ≤ 7 → ∀ {m j : Nat}, m < 128 → p ≤ j → j < p + d → m.testBit j = false → (ul d p m).Perm (j :: ul d p (m + 2 ^ j))
  | 0, _, _, _, _, _, _, _, _ => by omega
  | d + 1, p, hp, m, j, hm, h1, h2, hb => by
    have hs := bit_add m hm j (by omega) hb
    by_cases e : j = p
    · subst e
      have e1 : ul (d + 1) j m = j :: ul d (j + 1) m := if_neg (by rw [hb]; decide)
      have e2 : ul (d + 1) j (m + 2 ^ j) = ul d (j + 1) (m + 2 ^ j) := by
        refine if_pos ?_
        rw [hs j (by omega)]
        simp
      rw [e1, e2, ul_eq d (j + 1) (m := m) (m' := m + 2 ^ j) (fun q g1 g2 => by rw [hs q (by omega)]; simp; omega)]
    · have ih := ul_add d (p + 1) (by omega) hm (by omega : p + 1 ≤ j) (by omega) hb
      have hm2 : (m + 2 ^ j).testBit p = m.testBit p := by
        rw [hs p (by omega)]
        simp
        omega
      unfold ul
      rw [hm2]
      split
      · exact ih
      · exact (List.Perm.cons p ih).trans (List.Perm.swap j p _)
theorem bl_ul : ∀ c : Nat, c < 8 → (bl c (2 ^ c - 1)).Perm (ul c 0 0) ∧ (ul c 0 0).Nodup := by decide +kernel
