/-! ===== each call of the law's act ===== -/
/-- what low tells -/
abbrev lwV (v n : Int32) : Int32 := (v &&& 2147483647) - (v &&& 2147483647) / n * n
theorem lwV_nat (v : Int32) {n : Nat} (hn : 0 < n) (hn2 : n < 100000) : ∃ k, k < n ∧ lwV v (nI n) = nI k := by
  obtain ⟨a, a1, a2⟩ := pk_andE v (m := 2147483647) 31 (by decide +kernel)
  exact ⟨a % n, Nat.mod_lt _ hn, kRe a2 rfl (by omega) hn (by omega)⟩
theorem lwV_E (v : Int32) {x : Int32} {n : Nat} (hx : x = nI n) (hn : 0 < n) (hn2 : n < 100000) : ∃ k, k < n ∧ lwV v x = nI k := by
  subst hx
  exact lwV_nat v hn hn2
theorem nbig {n : Nat} (h : n < 2147483648) : ¬ nI n ≤ -1000000 := fun q => by
  have q2 := Int32.le_iff_toInt_le.mp q
  rw [nI_toInt (by omega)] at q2
  have : (-1000000 : Int32).toInt = -1000000 := by decide
  omega
/-- what a call makes: an exception and nothing, or another office and the old one saved -/
def actOK (m : Nat) (s : Nat → Int32) (q c : Nat) (v : Int32) (s' : Nat → Int32) (q' c' : Nat) : Prop := (v ≤ -1000000 ∧ s' = s ∧ q' = q ∧ c' = c) ∨ (¬ v ≤ -1000000 ∧ q' = svN q ∧ (∀ i, 75 ≤ i → s' i = svS s q i) ∧ okG (m + 1) s' c')
def opG (M : kMi) (d : Nat) (As : List Value) (m : Nat) (s : Nat → Int32) (q c : Nat) : Prop := ∃ (v : Int32) (s' : Nat → Int32) (q' c' mc ms : Nat), actOK m s q c v s' q' c' ∧ mc ≤ 1 ∧ ms ≤ 6 ∧ ∀ w, cls w s q z0 z0 0 → kCtrG M d mc ms (.ref 0 :: As) w (.int v) (fun w' => cls w' s' q' z0 z0 0)
section GG
variable {m c : Nat} {r : Nat → Int32}
theorem okG.sv {s : Nat → Int32} {q : Nat} (h : okG m s c) : okG m (svS s q) c := h.cg (fun i hi => svS_low hi)
theorem okG.lo (h : okG m r c) {p : Nat} {v : Int32} (hN : okN (kuf r p v) c) (hp : p < 20) : okG m (kuf r p v) c := by
  obtain ⟨-, h2, a, b, h3, h4, h5⟩ := h
  exact ⟨hN, fun k hk => by rw [kuf_ne (by omega), kuf_ne (by omega), kuf_ne (by omega)]; exact h2 k hk, a, b, (kuf_ne (by omega)).trans h3, (kuf_ne (by omega)).trans h4, h5⟩
theorem okG.hi (h : okG m r c) {p : Nat} {v : Int32} (hp : 73 ≤ p) : okG m (kuf r p v) c := by
  obtain ⟨h1, h2, a, b, h3, h4, h5⟩ := h
  have h7 := h1.1
  exact ⟨h1.set (by omega), fun k hk => by rw [kuf_ne (by omega), kuf_ne (by omega), kuf_ne (by omega)]; exact h2 k hk, a, b, (kuf_ne (by omega)).trans h3, (kuf_ne (by omega)).trans h4, h5⟩
theorem okG.par (h : okG m r c) {k i : Nat} {v : Int32} (hk : k < c) (hi : 5 ≤ i ∧ i < 7) (hN : okN (kuf r (21 + 7 * k + i) v) c) : okG m (kuf r (21 + 7 * k + i) v) c := by
  obtain ⟨h1, h2, a, b, h3, h4, h5⟩ := h
  have h7 := h1.1
  exact ⟨hN, fun j hj => by rw [kuf_ne (by omega), kuf_ne (by omega), kuf_ne (by omega)]; exact h2 j hj, a, b, (kuf_ne (by omega)).trans h3, (kuf_ne (by omega)).trans h4, h5⟩
theorem okG.gone (h : okG m r c) {k : Nat} (hk : k < c) : okG m (goneS r k c) (c - 1) := by
  obtain ⟨h1, h2, a, b, h3, h4, h5⟩ := h
  have h7 := h1.1
  refine ⟨h1.gone hk, fun j hj => ?_, a, b, (goneS_hi h7 (by decide)).trans h3, (goneS_hi h7 (by decide)).trans h4, h5⟩
  by_cases e : j < k
  · have g : ∀ i, i < 3 → goneS r k c (21 + 7 * j + i) = r (21 + 7 * j + i) := fun i hi => by
      unfold goneS goneP
      rw [if_neg (by omega), if_neg (by omega)]
    have := h2 j (by omega)
    rw [g 1 (by decide), g 2 (by decide), show goneS r k c (21 + 7 * j) = r (21 + 7 * j) from g 0 (by decide)]
    exact this
  · have g : ∀ i, i < 3 → goneS r k c (21 + 7 * j + i) = r (21 + 7 * (j + 1) + i) := fun i hi => by
      unfold goneS goneP
      rw [if_neg (by omega), if_pos (by omega)]
      congr 1
      omega
    have := h2 (j + 1) (by omega)
    rw [g 1 (by decide), g 2 (by decide), show goneS r k c (21 + 7 * j) = r (21 + 7 * (j + 1)) from g 0 (by decide)]
    exact this
theorem okG.count (h : okG m r c) {r' : Nat → Int32} {c' a b : Nat} (hN : okN r' c') (hs : ∀ k, k < c' → r' (21 + 7 * k + 1) ≤ r' (21 + 7 * k) ∧ r' (21 + 7 * k + 2) ≤ r' (21 + 7 * k + 1)) (h1 : r' 71 = nI a) (h2 : r' 72 = nI b) (hab : b ≤ a) (ham : a ≤ m + 1) (hm : m + 1 ≤ 100000) : okG (m + 1) r' c' := ⟨hN, hs, a, b, h1, h2, hab, ham, hm⟩
theorem okG.sent (h : okG m r c) {k : Nat} {z : Int32} (hk : k < c) (hm : m < 100000) : okG (m + 1) (sentS r k c z) (c - 1) := by
  obtain ⟨g1, g2, -⟩ := h.gone hk
  obtain ⟨h1, -, a, b, h3, h4, h5, h6, -⟩ := id h
  have h7 := h1.1
  obtain ⟨-, e1, e2⟩ := sent_70 (s := r) (k := k) (c := c) (z := z) h7
  have lo : ∀ i, i < 70 → sentS r k c z i = goneS r k c i := fun i hi => by
    unfold sentS goneS goneP
    split
    · rfl
    · split
      · rw [kuf_ne (by omega), kuf_ne (by omega)]
      · rw [kuf_ne (by omega), kuf_ne (by omega)]
  refine h.count (h1.sent hk) (fun j hj => ?_) (a := a + 1) (b := b) (by rw [e1, h3, nI_1e, nI_add]) (e2.trans h4) (by omega) (by omega) (by omega)
  rw [lo _ (by omega), lo _ (by omega), lo _ (by omega)]
  exact g2 j hj
theorem okG.disp (h : okG m r c) {k : Nat} {z : Int32} (hk : k < c) (hm : m < 100000) : okG (m + 1) (sentS (kuf r 72 (r 72 + 1)) k c z) (c - 1) := by
  obtain ⟨g1, g2, -⟩ := h.gone hk
  obtain ⟨h1, -, a, b, h3, h4, h5, h6, -⟩ := id h
  have h7 := h1.1
  obtain ⟨-, e1, e2⟩ := sent_70 (s := kuf r 72 (r 72 + 1)) (k := k) (c := c) (z := z) h7
  have lo : ∀ i, i < 70 → sentS (kuf r 72 (r 72 + 1)) k c z i = goneS r k c i := fun i hi => by
    unfold sentS goneS goneP
    split
    · rfl
    · split
      · rw [kuf_ne (by omega), kuf_ne (by omega), kuf_ne (by omega)]
      · rw [kuf_ne (by omega), kuf_ne (by omega), kuf_ne (by omega)]
  refine h.count ((h1.set (by decide)).sent hk) (fun j hj => ?_) (a := a + 1) (b := b + 1) (by rw [e1, kuf_ne (by decide), h3, nI_1e, nI_add]) (by rw [e2, kuf_eq, h4, nI_1e, nI_add]) (by omega) (by omega) (by omega)
  rw [lo _ (by omega), lo _ (by omega), lo _ (by omega)]
  exact g2 j hj
theorem sort3_le {x y z : Nat} (hx : 1 ≤ x ∧ x ≤ 60) (hy : 1 ≤ y ∧ y ≤ 60) (hz : 1 ≤ z ∧ z ≤ 60) : sort3 (nI x) (nI y) (nI z) 1 ≤ sort3 (nI x) (nI y) (nI z) 0 ∧ sort3 (nI x) (nI y) (nI z) 2 ≤ sort3 (nI x) (nI y) (nI z) 1 := by
  have e0 : gI (nI x) (gI (nI y) (nI z)) = nI (max x (max y z)) := by
    rw [gI_nI (by omega) (by omega), gI_nI (by omega) (by omega)]
  have e2 : -gI (-nI x) (gI (-nI y) (-nI z)) = nI (min x (min y z)) := by
    have h1 : gI (-nI y) (-nI z) = -nI (min y z) := by
      rw [← neg_gI (by omega) (by omega), Int32.neg_neg]
    rw [h1, neg_gI (by omega) (by omega)]
  show nI x + nI y + nI z - gI (nI x) (gI (nI y) (nI z)) - -gI (-nI x) (gI (-nI y) (-nI z)) ≤ gI (nI x) (gI (nI y) (nI z)) ∧ -gI (-nI x) (gI (-nI y) (-nI z)) ≤ nI x + nI y + nI z - gI (nI x) (gI (nI y) (nI z)) - -gI (-nI x) (gI (-nI y) (-nI z))
  rw [e0, e2, nI_add, nI_add, kS rfl rfl (by omega), kS rfl rfl (by omega)]
  exact ⟨nI_le (by omega) (by omega), nI_le (by omega) (by omega)⟩
theorem okG.come (h : okG m r c) {x y z wt zn : Int32} (hB : (1 ≤ x ∧ x ≤ 60) ∧ (1 ≤ y ∧ y ≤ 60) ∧ (1 ≤ z ∧ z ≤ 60) ∧ (1 ≤ wt ∧ wt ≤ 99) ∧ 0 ≤ zn ∧ zn ≤ 3) : okG m (comeS r c x y z wt zn 0) (if c = 7 then 7 else c + 1) := by
  obtain ⟨h1, h2, a, b, h3, h4, h5⟩ := id h
  have h7 := h1.1
  have hN := h1.come (wy := 0) ⟨hB.1, hB.2.1, hB.2.2.1, hB.2.2.2.1, hB.2.2.2.2, by decide, by decide⟩
  by_cases e : c = 7
  · rw [if_pos e] at hN ⊢
    subst e
    unfold comeS at hN ⊢
    rw [if_pos rfl] at hN ⊢
    exact h.hi (by decide)
  · rw [if_neg e] at hN ⊢
    unfold comeS at hN ⊢
    rw [if_neg e] at hN ⊢
    have g : ∀ i, (i < 21 + 7 * c ∨ 21 + 7 * c + 7 ≤ i) → ¬ i = 20 → kuf (comeR r (21 + 7 * c) x y z wt zn 0) 20 (nI (c + 1)) i = r i := fun i hi hn => by
      rw [kuf_ne hn]
      unfold comeR putS
      rw [kuf_ne (by omega), kuf_ne (by omega), kuf_ne (by omega), kuf_ne (by omega), kuf_ne (by omega), kuf_ne (by omega), kuf_ne (by omega)]
    have q : ∀ i, i < 3 → kuf (comeR r (21 + 7 * c) x y z wt zn 0) 20 (nI (c + 1)) (21 + 7 * c + i) = sort3 x y z i := fun i hi => by
      rw [kuf_ne (by omega)]
      unfold comeR putS
      match i, hi with
      | 0, _ => rw [kuf_ne (by omega), kuf_ne (by omega), kuf_ne (by omega), kuf_ne (by omega), kuf_ne (by omega), kuf_ne (by omega)]; exact kuf_eq _ _ _
      | 1, _ => rw [kuf_ne (by omega), kuf_ne (by omega), kuf_ne (by omega), kuf_ne (by omega), kuf_ne (by omega), kuf_eq]
      | 2, _ => rw [kuf_ne (by omega), kuf_ne (by omega), kuf_ne (by omega), kuf_ne (by omega), kuf_eq]
    refine ⟨hN, fun k hk => ?_, a, b, (g _ (by omega) (by decide)).trans h3, (g _ (by omega) (by decide)).trans h4, h5⟩
    by_cases ek : k = c
    · subst ek
      obtain ⟨b1, b2, b3, -⟩ := hB
      obtain ⟨xx, x1, x2, x3⟩ := bI (lo := 1) (hi := 60) (by decide) (by decide) b1
      obtain ⟨yy, y1, y2, y3⟩ := bI (lo := 1) (hi := 60) (by decide) (by decide) b2
      obtain ⟨zz, z1, z2, z3⟩ := bI (lo := 1) (hi := 60) (by decide) (by decide) b3
      rw [q 1 (by decide), q 2 (by decide), show kuf (comeR r (21 + 7 * k) x y z wt zn 0) 20 (nI (k + 1)) (21 + 7 * k) = sort3 x y z 0 from q 0 (by decide), x3, y3, z3]
      exact sort3_le ⟨x1, x2⟩ ⟨y1, y2⟩ ⟨z1, z2⟩
    · rw [g _ (by omega) (by omega), g _ (by omega) (by omega), g _ (by omega) (by omega)]
      exact h2 k (by omega)
end GG
section OG
variable {m c q : Nat} {s : Nat → Int32}
theorem opG.yes {M : kMi} {As : List Value} {v : Int32} {s' : Nat → Int32} {c' : Nat} (hv : ¬ v ≤ -1000000) (hs : ∀ i, 75 ≤ i → s' i = svS s q i) (G : okG (m + 1) s' c') (h : ∀ w, cls w s q z0 z0 0 → kCtrW M 12 (.ref 0 :: As) w (some (.int v)) (fun w' => cls w' s' (svN q) z0 z0 0 ∧ ∀ a, 128 ≤ a → w' a = w a)) : opG M 12 As m s q c :=
  ⟨v, s', svN q, c', 0, 0, Or.inr ⟨hv, rfl, hs, G⟩, by decide, by decide, fun w C => kCtrW.toG (mc := 0) (ms := 0) ((h w C).weak (fun _ hw => hw.1))⟩
theorem opG.no {M : kMi} {As : List Value} {v : Int32} (hv : v ≤ -1000000) (h : ∀ w, cls w s q z0 z0 0 → kCtrG M 12 1 6 (.ref 0 :: As) w (.int v) (fun w' => cls w' s q z0 z0 0)) : opG M 12 As m s q c :=
  ⟨v, s, q, c, 1, 6, Or.inl ⟨hv, rfl, rfl, rfl⟩, by decide, by decide, h⟩
theorem toC {M : kMi} {d : Nat} {As : List Value} {E : String} {w : kM} (C : cls w s q z0 z0 0) (t : kCtrX M d As w E (fun w' => w' = w)) : kCtrX M d As w E (fun w' => cls w' s q z0 z0 0) := t.weak (fun w' e => by rw [e]; exact C)
theorem og_bring (G : okG m s c) (hm : m < 100000) (x y z wt zn : Int32) : opG mL_bring 12 [.int x, .int y, .int z, .int wt, .int zn] m s q c := by
  have hc := G.1.2.1
  have h7 := G.1.1
  by_cases hB : (1 ≤ x ∧ x ≤ 60) ∧ (1 ≤ y ∧ y ≤ 60) ∧ (1 ≤ z ∧ z ≤ 60) ∧ (1 ≤ wt ∧ wt ≤ 99) ∧ 0 ≤ zn ∧ zn ≤ 3
  · refine opG.yes (v := comeV c) ?_ (fun i hi => comeS_up h7 hi) ((G.sv.come hB).up (Nat.le_succ m) (by omega)) (fun w C => hL_bring_T (by decide) C.1 (c5_bring C hc h7 hB))
    unfold comeV
    split
    · decide
    · exact nbig (by omega)
  · exact opG.no (by decide) (fun w C => hL_bring_X1 (by decide) C.1 (toC C (c5_bringX hB)))
theorem og_change (G : okG m s c) (hm : m < 100000) (p v u : Int32) : opG mL_change 12 [.int p, .int v, .int u] m s q c := by
  have hc := G.1.2.1
  have h7 := G.1.1
  by_cases hp : ∃ k, k < c ∧ p = nI k
  · obtain ⟨k, hk, rfl⟩ := hp
    by_cases hB : (0 ≤ v ∧ v ≤ 1) ∧ 0 ≤ u ∧ u ≤ (if v = 0 then 2 else 8)
    · have hN := (G.sv (q := q)).1.change hk hB
      refine opG.yes (v := s (21 + 7 * k + (if v = 0 then 6 else 5))) ?_ (fun i hi => kuf_ne (by split <;> omega)) (((G.sv (q := q)).par hk (by split <;> omega) hN).up (Nat.le_succ m) (by omega)) (fun w C => hL_change_T (by decide) C.1 (c5_change C hc h7 hk hB))
      obtain ⟨-, -, -, -, -, p5, p6⟩ := G.1.2.2.2.2.2 k hk
      obtain ⟨n5, -, n52, e5⟩ := bI (lo := 0) (hi := 8) (by decide) (by decide) p5
      obtain ⟨n6, -, n62, e6⟩ := bI (lo := 0) (hi := 2) (by decide) (by decide) p6
      split
      · rw [show s (21 + 7 * k + 6) = nI n6 from e6]
        exact nbig (by omega)
      · rw [show s (21 + 7 * k + 5) = nI n5 from e5]
        exact nbig (by omega)
    · exact opG.no (by decide) (fun w C => hL_change_X2 (by decide) C.1 (toC C (c5_changeB C hc h7 hk hB)))
  · exact opG.no (by decide) (fun w C => hL_change_X1 (by decide) C.1 (toC C (c5_changeA C hc h7 hp)))
theorem og_send (G : okG m s c) (hm : m < 100000) (p : Int32) : opG mL_send 12 [.int p] m s q c := by
  have hc := G.1.2.1
  have h7 := G.1.1
  by_cases hp : ∃ k, k < c ∧ p = nI k
  · obtain ⟨k, hk, rfl⟩ := hp
    have F := (G.1.fine.2.2.1 k hk).1
    obtain ⟨a, b, d, wt, z, co, v, x0, x1, x2, gi, Z, R, W, B, r, -, -, -, -, -, -, ⟨hW, hW1, -⟩, ⟨hr, hr1, -⟩⟩ := pview G hk
    by_cases ht : pR s (pa s (21 + 7 * k)) = 0
    · exact opG.yes (v := 10 + pP s (pa s (21 + 7 * k))) (by rw [show 10 + pP s (pa s (21 + 7 * k)) = nI (10 + W) from kA (a := 10) (b := W) rfl hW]; exact nbig (by omega)) (fun i hi => sentS_up h7 hi) (G.sv.sent hk hm) (fun w C => hL_send_T (by decide) C.1 (c5_sendT C hc h7 hk F ht))
    · exact opG.yes (v := pR s (pa s (21 + 7 * k))) (by rw [hr]; exact nbig (by omega)) (fun i hi => kuf_ne (by omega)) ((G.sv.hi (by decide)).up (Nat.le_succ m) (by omega)) (fun w C => hL_send_T (by decide) C.1 (c5_sendR C hc h7 hk rfl ht))
  · exact opG.no (by decide) (fun w C => hL_send_X1 (by decide) C.1 (toC C (c5_sendA C hc h7 hp)))
theorem og_dispute (G : okG m s c) (hm : m < 100000) (p z : Int32) : opG mL_dispute 12 [.int p, .int z] m s q c := by
  have hc := G.1.2.1
  have h7 := G.1.1
  by_cases hp : ∃ k, k < c ∧ p = nI k
  · obtain ⟨k, hk, rfl⟩ := hp
    by_cases hz : 1 ≤ z ∧ z ≤ 999
    · obtain ⟨n, n1, n2, rfl⟩ := bI (lo := 1) (hi := 999) (by decide) (by decide) hz
      obtain ⟨B1, B2⟩ := bz_ok n (by omega) n1
      obtain ⟨a, b, d, wt, z, co, v, x0, x1, x2, gi, Z, R, W, B, r, -, -, -, -, -, -, -, ⟨hr, hr1, -⟩⟩ := pview G hk
      obtain ⟨W1, W2, e1, -, w3, w4⟩ := pW_mono G hk n1 (Nat.le_refl n) n2
      by_cases ht : pR s (pa s (21 + 7 * k)) = 0
      · by_cases hA : (if 0 ≤ (nI n - pS s (pa s (21 + 7 * k))) then (nI n - pS s (pa s (21 + 7 * k))) else 0 - (nI n - pS s (pa s (21 + 7 * k)))) ≤ s 3
        · exact opG.yes (v := 10 + pW s (pa s (21 + 7 * k)) (nI n)) (by rw [show 10 + pW s (pa s (21 + 7 * k)) (nI n) = nI (10 + W1) from kA (a := 10) (b := W1) rfl e1]; exact nbig (by omega)) (fun i hi => (sentS_up h7 hi).trans (kuf_ne (by omega))) (G.sv.disp hk hm) (fun w C => hL_dispute_T (by decide) C.1 (c5_dispT C hc h7 hk hz (G.1.fine.2.2.1 k hk).1.1 ⟨_, B2, B1⟩ ht hA))
        · exact opG.yes (v := 4) (by decide) (fun i hi => kuf_ne (by omega)) ((G.sv.hi (by decide)).up (Nat.le_succ m) (by omega)) (fun w C => hL_dispute_T (by decide) C.1 (c5_dispL C hc h7 hk hz ht hA))
      · exact opG.yes (v := pR s (pa s (21 + 7 * k))) (by rw [hr]; exact nbig (by omega)) (fun i hi => kuf_ne (by omega)) ((G.sv.hi (by decide)).up (Nat.le_succ m) (by omega)) (fun w C => hL_dispute_T (by decide) C.1 (c5_dispR C hc h7 hk hz rfl ht))
    · exact opG.no (by decide) (fun w C => hL_dispute_X2 (by decide) C.1 (toC C (c5_dispB C hc h7 hk hz)))
  · exact opG.no (by decide) (fun w C => hL_dispute_X1 (by decide) C.1 (toC C (c5_dispA C hc h7 hp)))
theorem og_takeBack (G : okG m s c) (hm : m < 100000) (p : Int32) : opG mL_takeBack 12 [.int p] m s q c := by
  have hc := G.1.2.1
  have h7 := G.1.1
  by_cases hp : ∃ k, k < c ∧ p = nI k
  · obtain ⟨k, hk, rfl⟩ := hp
    exact opG.yes (v := nI (c - 1)) (nbig (by omega)) (fun i hi => goneS_up h7 hi) ((G.sv.gone hk).up (Nat.le_succ m) (by omega)) (fun w C => hL_takeBack_T (by decide) C.1 (c5_takeBack C hc h7 hk))
  · exact opG.no (by decide) (fun w C => hL_takeBack_X1 (by decide) C.1 (toC C (c5_takeBackA C hc h7 hp)))
theorem lt12 {b : Int32} (h : 0 ≤ b ∧ b < 12) : 0 ≤ b ∧ b ≤ 11 := ⟨h.1, by
  have := Int32.lt_iff_toInt_lt.mp h.2
  rw [Int32.le_iff_toInt_le]
  have e1 : (12 : Int32).toInt = 12 := by decide
  have e2 : (11 : Int32).toInt = 11 := by decide
  omega⟩
theorem lt4 {b : Int32} (h : 0 ≤ b ∧ b < 4) : 0 ≤ b ∧ b ≤ 3 := ⟨h.1, by
  have := Int32.lt_iff_toInt_lt.mp h.2
  rw [Int32.le_iff_toInt_le]
  have e1 : (4 : Int32).toInt = 4 := by decide
  have e2 : (3 : Int32).toInt = 3 := by decide
  omega⟩
theorem og_price (G : okG m s c) (hm : m < 100000) (b v : Int32) : opG mL_price 12 [.int b, .int v] m s q c := by
  have hc := G.1.2.1
  have h7 := G.1.1
  by_cases hb : 0 ≤ b ∧ b < 12
  · obtain ⟨k, -, hk, rfl⟩ := bI (lo := 0) (hi := 11) (by decide) (by decide) (lt12 hb)
    have hk : k < 12 := by omega
    by_cases hB : 0 ≤ v ∧ v ≤ 99
    · obtain ⟨n, -, n2, e⟩ := bI (lo := 0) (hi := 99) (by decide) (by decide) (G.1.2.2.2.1 k hk)
      exact opG.yes (v := s (4 + k)) (by rw [e]; exact nbig (by omega)) (fun i hi => kuf_ne (by omega)) (((G.sv (q := q)).lo (G.sv.1.setPrice hk hB) (by omega)).up (Nat.le_succ m) (by omega)) (fun w C => hL_price_T (by decide) C.1 (c5_price C hc h7 hk hB))
    · exact opG.no (by decide) (fun w C => hL_price_X2 (by decide) C.1 (toC C (c5_priceB hk hB)))
  · exact opG.no (by decide) (fun w C => hL_price_X1 (by decide) C.1 (toC C (c5_priceA hb)))
theorem og_zone (G : okG m s c) (hm : m < 100000) (b v : Int32) : opG mL_zone 12 [.int b, .int v] m s q c := by
  have hc := G.1.2.1
  have h7 := G.1.1
  by_cases hb : 0 ≤ b ∧ b < 4
  · obtain ⟨k, -, hk, rfl⟩ := bI (lo := 0) (hi := 3) (by decide) (by decide) (lt4 hb)
    have hk : k < 4 := by omega
    by_cases hB : 1 ≤ v ∧ v ≤ 9
    · obtain ⟨n, -, n2, e⟩ := bI (lo := 1) (hi := 9) (by decide) (by decide) (G.1.2.2.2.2.1 k hk)
      exact opG.yes (v := s (16 + k)) (by rw [e]; exact nbig (by omega)) (fun i hi => kuf_ne (by omega)) (((G.sv (q := q)).lo (G.sv.1.setZone hk hB) (by omega)).up (Nat.le_succ m) (by omega)) (fun w C => hL_zone_T (by decide) C.1 (c5_zone C hc h7 hk hB))
    · exact opG.no (by decide) (fun w C => hL_zone_X2 (by decide) C.1 (toC C (c5_zoneB hk hB)))
  · exact opG.no (by decide) (fun w C => hL_zone_X1 (by decide) C.1 (toC C (c5_zoneA hb)))
theorem og_set (G : okG m s c) (hm : m < 100000) (b v : Int32) : opG mL_set 12 [.int b, .int v] m s q c := by
  have hc := G.1.2.1
  have h7 := G.1.1
  by_cases hb : 0 ≤ b ∧ b < 4
  · obtain ⟨k, -, hk, rfl⟩ := bI (lo := 0) (hi := 3) (by decide) (by decide) (lt4 hb)
    have hk : k < 4 := by omega
    by_cases hB : (if nI k = 1 then 50 else 0) ≤ v ∧ v ≤ (if nI k = 1 then 300 else if nI k = 3 then 50 else 20)
    · refine opG.yes (v := s k) ?_ (fun i hi => kuf_ne (by omega)) (((G.sv (q := q)).lo (G.sv.1.setSet hk hB) (by omega)).up (Nat.le_succ m) (by omega)) (fun w C => hL_set_T (by decide) C.1 (c5_set C hc h7 hk hB))
      obtain ⟨s0, s1, s2, s3⟩ := G.1.2.2.1
      match k, hk with
      | 0, _ => obtain ⟨n, -, n2, e⟩ := bI (lo := 0) (hi := 20) (by decide) (by decide) s0; rw [e]; exact nbig (by omega)
      | 1, _ => obtain ⟨n, -, n2, e⟩ := bI (lo := 50) (hi := 300) (by decide) (by decide) s1; rw [e]; exact nbig (by omega)
      | 2, _ => obtain ⟨n, -, n2, e⟩ := bI (lo := 0) (hi := 20) (by decide) (by decide) s2; rw [e]; exact nbig (by omega)
      | 3, _ => obtain ⟨n, -, n2, e⟩ := bI (lo := 0) (hi := 50) (by decide) (by decide) s3; rw [e]; exact nbig (by omega)
    · exact opG.no (by decide) (fun w C => hL_set_X2 (by decide) C.1 (toC C (c5_setB hk hB)))
  · exact opG.no (by decide) (fun w C => hL_set_X1 (by decide) C.1 (toC C (c5_setA hb)))
end OG
