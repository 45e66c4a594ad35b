/-! ===== what every call keeps ===== -/
theorem okN.set {r : Nat → Int32} {c p : Nat} {v : Int32} (h : okN r c) (hp : 70 ≤ p) : okN (kuf r p v) c := h.cg (fun i hi => kuf_ne (by omega))
theorem okN.setPrice {r : Nat → Int32} {c b : Nat} {v : Int32} (h : okN r c) (hb : b < 12) (hv : 0 ≤ v ∧ v ≤ 99) : okN (kuf r (4 + b) v) c := by
  obtain ⟨h1, h2, ⟨h3, h4, h5, h6⟩, h7, h8, h9⟩ := h
  refine ⟨h1, (kuf_ne (by omega)).trans h2, ⟨?_, ?_, ?_, ?_⟩, fun j hj => ?_, fun j hj => ?_, fun k hk => (h9 k hk).cg (fun i hi => kuf_ne (by omega))⟩
  · rw [kuf_ne (by omega)]; exact h3
  · rw [kuf_ne (by omega)]; exact h4
  · rw [kuf_ne (by omega)]; exact h5
  · rw [kuf_ne (by omega)]; exact h6
  · by_cases e : j = b
    · subst e; rw [kuf_eq]; exact hv
    · rw [kuf_ne (by omega)]; exact h7 j hj
  · rw [kuf_ne (by omega)]; exact h8 j hj
theorem okN.setZone {r : Nat → Int32} {c b : Nat} {v : Int32} (h : okN r c) (hb : b < 4) (hv : 1 ≤ v ∧ v ≤ 9) : okN (kuf r (16 + b) v) c := by
  obtain ⟨h1, h2, ⟨h3, h4, h5, h6⟩, h7, h8, h9⟩ := h
  refine ⟨h1, (kuf_ne (by omega)).trans h2, ⟨?_, ?_, ?_, ?_⟩, fun j hj => ?_, fun j hj => ?_, fun k hk => (h9 k hk).cg (fun i hi => kuf_ne (by omega))⟩
  · rw [kuf_ne (by omega)]; exact h3
  · rw [kuf_ne (by omega)]; exact h4
  · rw [kuf_ne (by omega)]; exact h5
  · rw [kuf_ne (by omega)]; exact h6
  · rw [kuf_ne (by omega)]; exact h7 j hj
  · by_cases e : j = b
    · subst e; rw [kuf_eq]; exact hv
    · rw [kuf_ne (by omega)]; exact h8 j hj
theorem okN.setSet {r : Nat → Int32} {c b : Nat} {v : Int32} (h : okN r c) (hb : b < 4) (hv : (if nI b = 1 then 50 else 0) ≤ v ∧ v ≤ (if nI b = 1 then 300 else if nI b = 3 then 50 else 20)) : okN (kuf r b v) c := by
  obtain ⟨h1, h2, ⟨h3, h4, h5, h6⟩, h7, h8, h9⟩ := h
  have g : ∀ i, i < 4 → i ≠ b → kuf r b v i = r i := fun i _ e => kuf_ne e
  refine ⟨h1, (kuf_ne (by omega)).trans h2, ?_, fun j hj => ?_, fun j hj => ?_, fun k hk => (h9 k hk).cg (fun i hi => kuf_ne (by omega))⟩
  · match b, hb with
    | 0, _ =>
      rw [kuf_eq, g 1 (by decide) (by decide), g 2 (by decide) (by decide), g 3 (by decide) (by decide)]
      exact ⟨hv, h4, h5, h6⟩
    | 1, _ =>
      rw [kuf_eq, g 0 (by decide) (by decide), g 2 (by decide) (by decide), g 3 (by decide) (by decide)]
      exact ⟨h3, hv, h5, h6⟩
    | 2, _ =>
      rw [kuf_eq, g 0 (by decide) (by decide), g 1 (by decide) (by decide), g 3 (by decide) (by decide)]
      exact ⟨h3, h4, hv, h6⟩
    | 3, _ =>
      rw [kuf_eq, g 0 (by decide) (by decide), g 1 (by decide) (by decide), g 2 (by decide) (by decide)]
      exact ⟨h3, h4, h5, hv⟩
  · rw [kuf_ne (by omega)]; exact h7 j hj
  · rw [kuf_ne (by omega)]; exact h8 j hj
theorem okN.setPar {r : Nat → Int32} {c k i : Nat} {v : Int32} (h : okN r c) (hi : i < 7) (hP : k < c → okP (kuf (pa r (21 + 7 * k)) i v)) : okN (kuf r (21 + 7 * k + i) v) c := by
  obtain ⟨h1, h2, ⟨h3, h4, h5, h6⟩, h7, h8, h9⟩ := h
  refine ⟨h1, (kuf_ne (by omega)).trans h2, ⟨?_, ?_, ?_, ?_⟩, fun j hj => ?_, fun j hj => ?_, fun k' hk => ?_⟩
  · rw [kuf_ne (by omega)]; exact h3
  · rw [kuf_ne (by omega)]; exact h4
  · rw [kuf_ne (by omega)]; exact h5
  · rw [kuf_ne (by omega)]; exact h6
  · rw [kuf_ne (by omega)]; exact h7 j hj
  · rw [kuf_ne (by omega)]; exact h8 j hj
  · by_cases e : k' = k
    · subst e
      refine (hP hk).cg (fun j hj => ?_)
      show kuf r (21 + 7 * k' + i) v (21 + 7 * k' + j) = kuf (pa r (21 + 7 * k')) i v j
      unfold kuf
      by_cases e2 : j = i
      · rw [if_pos (by omega), if_pos e2]
      · rw [if_neg (by omega), if_neg e2]
    · exact (h9 k' hk).cg (fun j hj => kuf_ne (by omega))
theorem okN.change {r : Nat → Int32} {c k : Nat} {v u : Int32} (h : okN r c) (hk : k < c) (hB : (0 ≤ v ∧ v ≤ 1) ∧ 0 ≤ u ∧ u ≤ (if v = 0 then 2 else 8)) : okN (kuf r (21 + 7 * k + (if v = 0 then 6 else 5)) u) c := by
  refine h.setPar (by split <;> omega) (fun _ => ?_)
  obtain ⟨p0, p1, p2, p3, p4, p5, p6⟩ := h.2.2.2.2.2 k hk
  have hu := hB.2
  by_cases e : v = 0
  · rw [if_pos e] at hu
    rw [if_pos e]
    exact ⟨p0, p1, p2, p3, p4, p5, hu⟩
  · rw [if_neg e] at hu
    rw [if_neg e]
    exact ⟨p0, p1, p2, p3, p4, hu, p6⟩
theorem okN.gone {r : Nat → Int32} {c k : Nat} (h : okN r c) (hk : k < c) : okN (goneS r k c) (c - 1) := by
  obtain ⟨h1, h2, ⟨h3, h4, h5, h6⟩, h7, h8, h9⟩ := h
  have g : ∀ i, i < 20 → goneS r k c i = r i := fun i hi => by
    unfold goneS goneP
    rw [if_neg (by omega), if_neg (by omega)]
  refine ⟨by omega, goneP_20, ⟨?_, ?_, ?_, ?_⟩, fun j hj => ?_, fun j hj => ?_, fun k' hk' => ?_⟩
  · rw [g 0 (by decide)]; exact h3
  · rw [g 1 (by decide)]; exact h4
  · rw [g 2 (by decide)]; exact h5
  · rw [g 3 (by decide)]; exact h6
  · rw [g _ (by omega)]; exact h7 j hj
  · rw [g _ (by omega)]; exact h8 j hj
  · by_cases e : k' < k
    · refine (h9 k' (by omega)).cg (fun j hj => ?_)
      show goneP r k c _ (21 + 7 * k' + j) = _
      unfold goneP
      rw [if_neg (by omega), if_neg (by omega)]
    · refine (h9 (k' + 1) (by omega)).cg (fun j hj => ?_)
      show goneP r k c _ (21 + 7 * k' + j) = r (21 + 7 * (k' + 1) + j)
      unfold goneP
      rw [if_neg (by omega), if_pos (by omega)]
      congr 1
      omega
theorem okN.sent {r : Nat → Int32} {c k : Nat} {z : Int32} (h : okN r c) (hk : k < c) : okN (sentS r k c z) (c - 1) := ((h.set (by decide)).set (by decide)).gone hk
theorem okN.come {r : Nat → Int32} {c : Nat} {x y z wt zn wy : Int32} (h : okN r c) (hB : (1 ≤ x ∧ x ≤ 60) ∧ (1 ≤ y ∧ y ≤ 60) ∧ (1 ≤ z ∧ z ≤ 60) ∧ (1 ≤ wt ∧ wt ≤ 99) ∧ (0 ≤ zn ∧ zn ≤ 3) ∧ 0 ≤ wy ∧ wy ≤ 2) : okN (comeS r c x y z wt zn wy) (if c = 7 then 7 else c + 1) := by
  by_cases e : c = 7
  · subst e
    unfold comeS
    rw [if_pos rfl, if_pos rfl]
    exact h.set (by decide)
  · unfold comeS
    rw [if_neg e, if_neg e]
    obtain ⟨h1, h2, ⟨h3, h4, h5, h6⟩, h7, h8, h9⟩ := h
    have g : ∀ i, i < 21 + 7 * c → ¬ i = 20 → kuf (comeR r (21 + 7 * c) x y z wt zn wy) 20 (nI (c + 1)) i = r i := fun i hi hn => by
      rw [kuf_ne hn]
      unfold comeR putS
      rw [kuf_ne (by omega), kuf_ne (by omega), kuf_ne (by omega), kuf_ne (by omega), kuf_ne (by omega), kuf_ne (by omega), kuf_ne (by omega)]
    refine ⟨by omega, kuf_eq _ _ _, ⟨?_, ?_, ?_, ?_⟩, fun j hj => ?_, fun j hj => ?_, fun k hk => ?_⟩
    · rw [g 0 (by omega) (by decide)]; exact h3
    · rw [g 1 (by omega) (by decide)]; exact h4
    · rw [g 2 (by omega) (by decide)]; exact h5
    · rw [g 3 (by omega) (by decide)]; exact h6
    · rw [g _ (by omega) (by omega)]; exact h7 j hj
    · rw [g _ (by omega) (by omega)]; exact h8 j hj
    · by_cases ek : k = c
      · subst ek
        obtain ⟨b1, b2, b3, b4, b5, b6⟩ := hB
        obtain ⟨xx, x1, x2, x3⟩ := bI (lo := 1) (hi := 60) (by decide) (by decide) b1
        obtain ⟨yy, y1, y2, y3⟩ := bI (lo := 1) (hi := 60) (by decide) (by decide) b2
        obtain ⟨zz, z1, z2, z3⟩ := bI (lo := 1) (hi := 60) (by decide) (by decide) b3
        obtain ⟨a, b, cc, ha, hb, hc, e0, e1, e2⟩ := sort3_nI (x := xx) (y := yy) (z := zz) (m := 60) (by omega) (by omega) (by omega) (by decide)
        have lim : ∀ {n : Nat}, 1 ≤ n ∧ n ≤ 60 → (1 : Int32) ≤ nI n ∧ nI n ≤ 60 := fun hn => ⟨nI_le hn.1 (by omega), nI_le (b := 60) hn.2 (by decide)⟩
        have q : ∀ i, i < 7 → kuf (comeR r (21 + 7 * k) x y z wt zn wy) 20 (nI (k + 1)) (21 + 7 * k + i) = (if i = 0 then sort3 x y z 0 else if i = 1 then sort3 x y z 1 else if i = 2 then sort3 x y z 2 else if i = 3 then wt else if i = 4 then zn else if i = 5 then 0 else wy) := fun i hi => by
          rw [kuf_ne (by omega)]
          unfold comeR putS
          match i, hi with
          | 0, _ => rw [kuf_ne (by omega), kuf_ne (by omega), kuf_ne (by omega), kuf_ne (by omega), kuf_ne (by omega), kuf_ne (by omega)]; exact kuf_eq _ _ _
          | 1, _ => rw [kuf_ne (by omega), kuf_ne (by omega), kuf_ne (by omega), kuf_ne (by omega), kuf_ne (by omega), kuf_eq]; rfl
          | 2, _ => rw [kuf_ne (by omega), kuf_ne (by omega), kuf_ne (by omega), kuf_ne (by omega), kuf_eq]; rfl
          | 3, _ => rw [kuf_ne (by omega), kuf_ne (by omega), kuf_ne (by omega), kuf_eq]; rfl
          | 4, _ => rw [kuf_ne (by omega), kuf_ne (by omega), kuf_eq]; rfl
          | 5, _ => rw [kuf_ne (by omega), kuf_eq]; rfl
          | 6, _ => rw [kuf_eq]; rfl
        rw [x3, y3, z3] at q
        refine ⟨?_, ?_, ?_, ?_, ?_, ?_, ?_⟩
        · have := q 0 (by decide)
          rw [if_pos rfl, e0] at this
          show _ ≤ kuf _ _ _ (21 + 7 * k + 0) ∧ kuf _ _ _ (21 + 7 * k + 0) ≤ _
          rw [x3, y3, z3, this]; exact lim ha
        · have := q 1 (by decide)
          rw [if_neg (by decide), if_pos rfl, e1] at this
          show _ ≤ kuf _ _ _ (21 + 7 * k + 1) ∧ kuf _ _ _ (21 + 7 * k + 1) ≤ _
          rw [x3, y3, z3, this]; exact lim hb
        · have := q 2 (by decide)
          rw [if_neg (by decide), if_neg (by decide), if_pos rfl, e2] at this
          show _ ≤ kuf _ _ _ (21 + 7 * k + 2) ∧ kuf _ _ _ (21 + 7 * k + 2) ≤ _
          rw [x3, y3, z3, this]; exact lim hc
        · show _ ≤ kuf _ _ _ (21 + 7 * k + 3) ∧ kuf _ _ _ (21 + 7 * k + 3) ≤ _
          rw [x3, y3, z3, q 3 (by decide)]; exact b4
        · show _ ≤ kuf _ _ _ (21 + 7 * k + 4) ∧ kuf _ _ _ (21 + 7 * k + 4) ≤ _
          rw [x3, y3, z3, q 4 (by decide)]; exact b5
        · show _ ≤ kuf _ _ _ (21 + 7 * k + 5) ∧ kuf _ _ _ (21 + 7 * k + 5) ≤ _
          rw [x3, y3, z3, q 5 (by decide)]; exact ⟨(by decide : (0 : Int32) ≤ 0), (by decide : (0 : Int32) ≤ 8)⟩
        · show _ ≤ kuf _ _ _ (21 + 7 * k + 6) ∧ kuf _ _ _ (21 + 7 * k + 6) ≤ _
          rw [x3, y3, z3, q 6 (by decide)]; exact b6
      · exact (h9 k (by omega)).cg (fun i hi => g _ (by omega) (by omega))
theorem comeS_up {r : Nat → Int32} {c i : Nat} {x y z wt zn wy : Int32} (hc : c ≤ 7) (hi : 75 ≤ i) : comeS r c x y z wt zn wy i = r i := by
  unfold comeS
  split
  · exact kuf_ne (by omega)
  · rw [kuf_ne (by omega)]
    unfold comeR putS
    rw [kuf_ne (by omega), kuf_ne (by omega), kuf_ne (by omega), kuf_ne (by omega), kuf_ne (by omega), kuf_ne (by omega), kuf_ne (by omega)]
theorem goneS_up {r : Nat → Int32} {k c i : Nat} (hc : c ≤ 7) (hi : 75 ≤ i) : goneS r k c i = r i := by
  unfold goneS goneP
  rw [if_neg (by omega), if_neg (by omega)]
theorem sentS_up {r : Nat → Int32} {k c i : Nat} {z : Int32} (hc : c ≤ 7) (hi : 75 ≤ i) : sentS r k c z i = r i := by
  unfold sentS
  rw [goneS_up hc hi, kuf_ne (by omega), kuf_ne (by omega)]
theorem crN_ok {bf : Nat → Int32} : ∀ (f i : Nat) (st : pst) (S : Nat → Int32) (c n : Nat), inv st → st.1 ≤ 6 → okN S c → (∃ c', okN (crN bf f i st S c n).1 c') ∧ ∀ j, 75 ≤ j → (crN bf f i st S c n).1 j = S j
  | 0, _, _, S, c, _, _, _, h => ⟨⟨c, h⟩, fun _ _ => rfl⟩
  | f + 1, i, st, S, c, n, hi, h6, h => by
    have h7 := h.1
    unfold crN
    cases hs : stp st (bf i) with
    | none => exact ⟨⟨c, h⟩, fun _ _ => rfl⟩
    | some st' =>
      dsimp only
      have i2 := inv_stp hi h6 hs
      have l2 := stp_le hs h6
      by_cases e6 : st'.1 = 6
      · obtain ⟨j1, -, j3, j4⟩ := i2
        have hB : (1 ≤ st'.2 0 ∧ st'.2 0 ≤ 60) ∧ (1 ≤ st'.2 1 ∧ st'.2 1 ≤ 60) ∧ (1 ≤ st'.2 2 ∧ st'.2 2 ≤ 60) ∧ (1 ≤ st'.2 3 ∧ st'.2 3 ≤ 99) ∧ (0 ≤ st'.2 4 ∧ st'.2 4 ≤ 3) ∧ 0 ≤ st'.2 5 ∧ st'.2 5 ≤ 2 :=
          ⟨j1 0 (by omega) (by decide), j1 1 (by omega) (by decide), j1 2 (by omega) (by decide), j1 3 (by omega) (by decide), j3 (by omega), j4 (by omega)⟩
        have hc2 := h.come hB
        rw [if_pos e6]
        by_cases e7 : c = 7
        · rw [if_pos e7]
          rw [if_pos e7] at hc2
          exact ⟨⟨7, hc2⟩, fun j hj => comeS_up h7 hj⟩
        · rw [if_neg e7]
          rw [if_neg e7] at hc2
          obtain ⟨r1, r2⟩ := crN_ok f (i + 1) st' _ (c + 1) (n + 1) ⟨j1, fun q => absurd q (by omega), j3, j4⟩ l2 hc2
          exact ⟨r1, fun j hj => (r2 j hj).trans (comeS_up h7 hj)⟩
      · rw [if_neg e6]
        exact crN_ok f (i + 1) st' S c n i2 l2 h
theorem run_ok {bf : Nat → Int32} {T : Nat} {S : Nat → Int32} {c : Nat} (h : okN S c) (ht : tells bf T) : (∃ c', okN (rnF bf T (T + 1) z0 0 S c 0).1 c') ∧ ∀ j, 75 ≤ j → (rnF bf T (T + 1) z0 0 S c 0).1 j = S j := by
  rw [← cr_rn (T + 1) 0 z0 S c 0 (Nat.le_refl _) (Nat.zero_le _) rfl ht.1 ht.2]
  exact crN_ok _ _ _ _ _ _ (inv0 rfl) (Nat.zero_le _) h
/-- the numbers of the present office, of what is saved and of the snapshots are in their bounds -/
def okS (s : Nat → Int32) (q : Nat) (kp : Nat → Int32) (c : Nat) : Prop := okN s c ∧ (∀ i, i < q → ∃ c', okN (rw75 s (i + 1)) c') ∧ ∀ b, b < 2 → ¬ kp b = 0 → ∃ c', okN (rw75 s (7 + b)) c'
theorem okS.cg {s s' : Nat → Int32} {q : Nat} {kp : Nat → Int32} {c : Nat} (h : okS s q kp c) (h6 : q ≤ 6) (ha : agr s s') : okS s' q kp c := by
  refine ⟨h.1.cg (fun i hi => ha i (by omega)), fun i hi => ?_, fun b hb hk => ?_⟩
  · obtain ⟨c', h'⟩ := h.2.1 i hi
    exact ⟨c', h'.cg (fun j hj => ha _ (by omega))⟩
  · obtain ⟨c', h'⟩ := h.2.2 b hb hk
    exact ⟨c', h'.cg (fun j hj => ha _ (by omega))⟩
/-- one state more is saved; the office is another -/
theorem okS.save {s s' : Nat → Int32} {q : Nat} {kp : Nat → Int32} {c c' : Nat} (h : okS s q kp c) (h6 : q ≤ 6) (hn : okN s' c') (hh : ∀ i, 75 ≤ i → s' i = svS s q i) : okS s' (svN q) kp c' := by
  refine ⟨hn, fun i hi => ?_, fun b hb hk => ?_⟩
  · have row : ∀ j, j < 75 → rw75 s' (i + 1) j = svR (fun i => rw75 s (i + 1)) q s i j := fun j hj => (hh _ (by omega)).trans (svS_row h6 hi hj)
    unfold svN at hi
    unfold svR at row
    by_cases e : q = 6
    · rw [if_pos e] at hi row
      by_cases e5 : i < 5
      · rw [if_pos e5] at row
        obtain ⟨d, hd⟩ := h.2.1 (i + 1) (by omega)
        exact ⟨d, hd.cg (fun j hj => row j (by omega))⟩
      · rw [if_neg e5] at row
        exact ⟨c, h.1.cg (fun j hj => row j (by omega))⟩
    · rw [if_neg e] at hi row
      by_cases e5 : i < q
      · rw [if_pos e5] at row
        obtain ⟨d, hd⟩ := h.2.1 i e5
        exact ⟨d, hd.cg (fun j hj => row j (by omega))⟩
      · rw [if_neg e5] at row
        exact ⟨c, h.1.cg (fun j hj => row j (by omega))⟩
  · obtain ⟨d, hd⟩ := h.2.2 b hb hk
    exact ⟨d, hd.cg (fun j hj => (hh _ (by omega)).trans (svS_hi h6 (by omega)))⟩
theorem okN.sv {s : Nat → Int32} {q c : Nat} (h : okN s c) : okN (svS s q) c := h.cg (fun i hi => svS_low (by omega))
theorem okS.keep {s : Nat → Int32} {q : Nat} {kp : Nat → Int32} {c b : Nat} (h : okS s q kp c) (h6 : q ≤ 6) (hb : b < 2) : okS (cpR s 0 (7 + b) 75) q (kuf kp b 1) c := by
  refine ⟨h.1.cg (fun i hi => cpR_low (by omega)), fun i hi => ?_, fun b' hb' hk => ?_⟩
  · obtain ⟨d, hd⟩ := h.2.1 i hi
    exact ⟨d, hd.cg (fun j hj => cpR_low (by omega))⟩
  · by_cases e : b' = b
    · subst e
      refine ⟨c, h.1.cg (fun j hj => ?_)⟩
      show cpR s 0 (7 + b') 75 (75 * (7 + b') + j) = s j
      unfold cpR
      rw [if_pos (by omega)]
      congr 1
      omega
    · rw [kuf_ne e] at hk
      obtain ⟨d, hd⟩ := h.2.2 b' hb' hk
      refine ⟨d, hd.cg (fun j hj => ?_)⟩
      show cpR s 0 (7 + b) 75 (75 * (7 + b') + j) = s (75 * (7 + b') + j)
      unfold cpR
      rw [if_neg (by omega)]
theorem okS.back {s : Nat → Int32} {q : Nat} {kp : Nat → Int32} {c b : Nat} (h : okS s q kp c) (h6 : q ≤ 6) (hb : b < 2) (hk : ¬ kp b = 0) : ∃ c', okS (cpR (svS s q) (7 + b) 0 75) (svN q) kp c' := by
  obtain ⟨d, hd⟩ := h.2.2 b hb hk
  refine ⟨d, h.save h6 (hd.cg (fun j hj => ?_)) (fun i hi => ?_)⟩
  · show cpR (svS s q) (7 + b) 0 75 j = s (75 * (7 + b) + j)
    unfold cpR
    rw [if_pos (by omega), show 75 * (7 + b) + (j - 75 * 0) = 75 * (7 + b) + j by omega]
    exact svS_hi h6 (by omega)
  · unfold cpR
    rw [if_neg (by omega)]
theorem okS.undo {s : Nat → Int32} {q : Nat} {kp : Nat → Int32} {c : Nat} (h : okS s (q + 1) kp c) : ∃ c', okS (cpR s (q + 1) 0 75) q kp c' := by
  obtain ⟨d, hd⟩ := h.2.1 q (by omega)
  refine ⟨d, hd.cg (fun j hj => ?_), fun i hi => ?_, fun b hb hk => ?_⟩
  · show cpR s (q + 1) 0 75 j = s (75 * (q + 1) + j)
    unfold cpR
    rw [if_pos (by omega)]
    congr 1
  · obtain ⟨e, he⟩ := h.2.1 i (by omega)
    refine ⟨e, he.cg (fun j hj => ?_)⟩
    show cpR s (q + 1) 0 75 (75 * (i + 1) + j) = _
    unfold cpR
    rw [if_neg (by omega)]
  · obtain ⟨e, he⟩ := h.2.2 b hb hk
    refine ⟨e, he.cg (fun j hj => ?_)⟩
    show cpR s (q + 1) 0 75 (75 * (7 + b) + j) = _
    unfold cpR
    rw [if_neg (by omega)]
theorem iniS_ok : okN iniS 0 := by
  refine ⟨by decide, by decide, by decide, ?_, ?_, fun k hk => absurd hk (Nat.not_lt_zero k)⟩
  · decide
  · decide
