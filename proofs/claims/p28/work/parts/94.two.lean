/-! ===== what rests on prices, factors and settings alone ===== -/
theorem pS_20 {s s' P P' : Nat → Int32} (hs : ∀ i, i < 20 → s' i = s i) (h : ∀ k, k < 7 → P' k = P k) : pS s' P' = pS s P := by
  unfold pS
  rw [h 0 (by decide), h 1 (by decide), h 2 (by decide), h 6 (by decide), hs 0 (by decide)]
theorem pR_20 {s s' P P' : Nat → Int32} (hs : ∀ i, i < 20 → s' i = s i) (h : ∀ k, k < 7 → P' k = P k) : pR s' P' = pR s P := by
  unfold pR
  rw [h 3 (by decide), h 5 (by decide), h 6 (by decide), hs 1 (by decide), pG_congr h]
theorem rM_20 {s s' : Nat → Int32} (hs : ∀ i, i < 20 → s' i = s i) : ∀ k, k ≤ 12 → rM s' k = rM s k
  | 0, _ => rfl
  | k + 1, h => by
    show gI (s' (4 + k)) (rM s' k) = gI (s (4 + k)) (rM s k)
    rw [hs _ (by omega), rM_20 hs k (by omega)]
theorem pP_20 {s s' P P' : Nat → Int32} (hs : ∀ i, i < 20 → s' i = s i) (h : ∀ k, k < 7 → P' k = P k) (hf : fineP s P) : pP s' P' = pP s P := by
  obtain ⟨⟨zz, h6, h7⟩, K, h8, h9⟩ := hf
  unfold pP
  rw [pS_20 hs h, pW_of h9 h8 h7 h6, pW_of h9 h8 ((h 4 (by decide)).trans h7) h6, rM_20 hs _ (by omega), hs _ (by omega), hs 1 (by decide), hs 2 (by decide), h 5 (by decide), pG_congr h]
theorem pAl_20 {s s' P P' : Nat → Int32} (hs : ∀ i, i < 20 → s' i = s i) (h : ∀ k, k < 7 → P' k = P k) (hf : fineP s P) : pAl s' P' = pAl s P := by
  unfold pAl
  rw [pR_20 hs h, pP_20 hs h hf]
theorem bOK_20 {s s' P P' Q Q' : Nat → Int32} (hs : ∀ i, i < 20 → s' i = s i) (h : ∀ k, k < 7 → P' k = P k) (h2 : ∀ k, k < 7 → Q' k = Q k) : bOK s' P' Q' ↔ bOK s P Q := by
  unfold bOK
  rw [pR_20 hs h, pR_20 hs h2, pR_20 hs (fun k _ => bnP_congr h h2 k), h 4 (by decide), h2 4 (by decide), h 3 (by decide), h2 3 (by decide)]
theorem bdF_20 {s s' P P' Q Q' : Nat → Int32} (hs : ∀ i, i < 20 → s' i = s i) (h : ∀ k, k < 7 → P' k = P k) (h2 : ∀ k, k < 7 → Q' k = Q k) (hf : bOK s P Q → fineP s (bnP P Q)) : bdF s' P' Q' = bdF s P Q := by
  unfold bdF
  by_cases hb : bOK s P Q
  · rw [if_pos hb, if_pos ((bOK_20 hs h h2).mpr hb), pP_20 hs (fun k _ => bnP_congr h h2 k) (hf hb)]
  · rw [if_neg hb, if_neg (fun q => hb ((bOK_20 hs h h2).mp q))]
section TW
variable {m c : Nat} {s0 : Nat → Int32} {w : kM}
theorem K.bundXE (h : K m s0 c w) {p o : Nat} (hp : p < c) (e : o = p) : kCtrG mL_ifBundled 12 1 6 [.ref 0, .int (nI p), .int (nI o)] w (.int (-1000002)) (K m s0 c) := by
  subst e
  exact h.bundX hp
/-- another way to tie a parcel, for a while -/
theorem K.tie (h : K m s0 c w) {k v : Nat} (hk : k < c) (hv : v < 3) : kCtrW mL_change 12 [.ref 0, .int (nI k), .int 0, .int (nI v)] w (some (.int (s0 (21 + 7 * k + 6)))) (fun w' => ∃ s1, Dn m s0 c s1 c w' ∧ pP s1 (pa s1 (21 + 7 * k)) = pP s0 (wyP (pa s0 (21 + 7 * k)) (nI v)) ∧ pR s1 (pa s1 (21 + 7 * k)) = pR s0 (wyP (pa s0 (21 + 7 * k)) (nI v))) := by
  have N0 := h.ok.1
  obtain ⟨s, q, ⟨C, N, R⟩, e⟩ := h
  have h7 := N.1.1
  have hB : (0 ≤ (0 : Int32) ∧ (0 : Int32) ≤ 1) ∧ 0 ≤ nI v ∧ nI v ≤ (if (0 : Int32) = 0 then 2 else 8) := ⟨⟨by decide, by decide⟩, nI_le (a := 0) (Nat.zero_le v) (by omega), by rw [if_pos rfl]; exact nI_le (b := 2) (by omega) (by decide)⟩
  have t := c5_change C N.1.2.1 h7 hk hB
  rw [if_pos rfl, e _ (by omega)] at t
  have lo : ∀ i, i < 20 → kuf (svS s q) (21 + 7 * k + 6) (nI v) i = s0 i := fun i hi => by rw [kuf_ne (by omega), svS_low (by omega), e i (by omega)]
  have pp : ∀ j, j < 7 → pa (kuf (svS s q) (21 + 7 * k + 6) (nI v)) (21 + 7 * k) j = wyP (pa s0 (21 + 7 * k)) (nI v) j := fun j hj => by
    show kuf (svS s q) (21 + 7 * k + 6) (nI v) (21 + 7 * k + j) = _
    unfold wyP
    by_cases ej : j = 6
    · subst ej
      rw [kuf_eq, if_pos rfl]
    · rw [kuf_ne (by omega), if_neg ej, svS_low (by omega), e _ (by omega)]
  have N2 := (N.1.sv (q := q)).change hk (v := 0) (u := nI v) hB
  rw [if_pos rfl] at N2
  exact hL_change_T (by decide) C.1 (t.weak (fun w' hw => ⟨_, ⟨s, q, ⟨N, R, C.q6, e⟩, hw.1, fun i hi => kuf_ne (by omega), N2⟩, pP_20 lo pp ((N0.fine.2.2.1 k hk).2 v hv), pR_20 lo pp⟩))
/-- the greatest of what was told so far, as the law keeps it -/
def leN (s P : Nat → Int32) (v : Nat) : Int32 := if (wyR s P v).1 = -1 then -1 else (wyR s P v).2
theorem wy_step {s P : Nat → Int32} {v : Nat} : wyR s P (v + 1) = wyS s P (nI v) (wyR s P v) := rfl
theorem wy_yes {s P : Nat → Int32} {v : Nat} (hv : v < 3) (h1 : pR s (wyP P (nI v)) = 0) (h2 : (wyR s P v).1 = -1 ∨ pP s (wyP P (nI v)) < (wyR s P v).2) : (wyR s P (v + 1)).1 = nI v ∧ leN s P (v + 1) = pP s (wyP P (nI v)) := by
  have e : wyR s P (v + 1) = (nI v, pP s (wyP P (nI v))) := if_pos ⟨h1, h2⟩
  unfold leN
  rw [e]
  exact ⟨rfl, if_neg (nI_nm1 (by omega))⟩
theorem wy_no {s P : Nat → Int32} {v : Nat} (h : ¬ (pR s (wyP P (nI v)) = 0 ∧ ((wyR s P v).1 = -1 ∨ pP s (wyP P (nI v)) < (wyR s P v).2))) : (wyR s P (v + 1)).1 = (wyR s P v).1 ∧ leN s P (v + 1) = leN s P v := by
  have e : wyR s P (v + 1) = wyR s P v := if_neg h
  unfold leN
  rw [e]
  exact ⟨rfl, rfl⟩
theorem wy_neg {s P : Nat → Int32} {v : Nat} (hv : v ≤ 3) : (wyR s P v).1 < 0 ↔ (wyR s P v).1 = -1 := by
  rcases wyR_ok (s := s) (P := P) v hv with ⟨h1, -⟩ | ⟨j, h1, h2, -⟩
  · rw [h1]
    exact ⟨fun _ => rfl, fun _ => by decide⟩
  · rw [h2]
    exact ⟨fun q => absurd ((nI_ltI (a := j) (b := 0) (by omega) (by decide)).mp q) (by omega), fun q => absurd q (nI_nm1 (by omega))⟩
/-! two parcels gone, and undo twice -/
/-- an office that tells s2 behind two calls that saved, the first one s0 -/
def Tw (m : Nat) (s0 : Nat → Int32) (c : Nat) (s2 : Nat → Int32) (c2 : Nat) (w : kM) : Prop := ∃ (s1 : Nat → Int32) (q1 : Nat), 1 ≤ q1 ∧ q1 ≤ 6 ∧ okG m s0 c ∧ (∀ j, j < 75 → rw75 s1 q1 j = s0 j) ∧ (∀ i, i < q1 → ∃ c', okG m (rw75 s1 (i + 1)) c') ∧ cls w s2 (svN q1) z0 z0 0 ∧ (∀ i, 75 ≤ i → s2 i = svS s1 q1 i) ∧ okN s2 c2
/-- .. and undo once -/
def Ux (m : Nat) (s0 : Nat → Int32) (c : Nat) (w : kM) : Prop := ∃ (s3 : Nat → Int32) (q3 : Nat), cls w s3 (q3 + 1) z0 z0 0 ∧ q3 ≤ 5 ∧ okG m s0 c ∧ (∀ j, j < 75 → rw75 s3 (q3 + 1) j = s0 j) ∧ ∀ i, i < q3 → ∃ c', okG m (rw75 s3 (i + 1)) c'
theorem Tw.ob {s2 : Nat → Int32} {c2 : Nat} (h : Tw m s0 c s2 c2 w) : w 0 = kO 5 xF := by
  obtain ⟨s1, q1, -, -, -, -, -, C, -⟩ := h
  exact C.1
theorem Tw.cheapest {s2 : Nat → Int32} {c2 : Nat} (h : Tw m s0 c s2 c2 w) {V : Nat} (hV : setC (alS s2) (bdS s2) c2 = nI V) {u : Nat} (hu : u < 2) : kCtrW mL_cheapest 12 [.ref 0, .int (nI u)] w (some (.int (nI V))) (Tw m s0 c s2 c2) := by
  obtain ⟨s1, q1, a1, a2, a3, a4, a5, C, hh, N⟩ := h
  exact (chp_at C N (fun _ _ => rfl) hV hu).weak (fun w' C' => ⟨s1, q1, a1, a2, a3, a4, a5, C', hh, N⟩)
theorem Tw.undo {s2 : Nat → Int32} {c2 : Nat} (h : Tw m s0 c s2 c2 w) : ∃ u : Nat, u ≤ 5 ∧ kCtrW mL_undo 12 [.ref 0] w (some (.int (nI u))) (Ux m s0 c) := by
  obtain ⟨s1, q1, a1, a2, a3, a4, a5, C, hh, N⟩ := h
  obtain ⟨b1, b2, b3⟩ := bk a2 hh
  obtain ⟨g1, g2⟩ := b3 a1
  have hp := svN_pos q1
  have h5 : svN q1 - 1 ≤ 5 := by
    unfold svN
    split <;> omega
  obtain ⟨q3, hq3⟩ : ∃ q3, svN q1 - 1 = q3 + 1 := ⟨svN q1 - 1 - 1, by omega⟩
  rw [hq3] at b2 g2 h5
  rw [show svN q1 = q3 + 1 + 1 by omega] at C b2 g2
  refine ⟨q3 + 1, h5, hL_undo_T (by decide) C.1 (kCtrW.weak (c5_undo C) (fun w' hw => ?_))⟩
  refine ⟨_, q3, hw.1, by omega, a3, fun j hj => (g2 j hj).trans (a4 j hj), fun i hi => ?_⟩
  obtain ⟨i', e1, -, e2⟩ := b2 i (by omega)
  obtain ⟨c', hc⟩ := a5 i' e1
  exact ⟨c', hc.cg e2⟩
theorem Ux.undo (h : Ux m s0 c w) : ∃ u : Nat, u ≤ 5 ∧ kCtrW mL_undo 12 [.ref 0] w (some (.int (nI u))) (K m s0 c) := by
  obtain ⟨s3, q3, C, h5, G, a4, a5⟩ := h
  have row : ∀ i, i < 75 → cpR s3 (q3 + 1) 0 75 i = s0 i := fun i hi => by rw [cpR_0row hi]; exact a4 i hi
  refine ⟨q3, h5, hL_undo_T (by decide) C.1 (kCtrW.weak (c5_undo C) (fun w' hw => ⟨_, _, ⟨hw.1, G.cg row, fun i hi => ?_⟩, row⟩))⟩
  obtain ⟨c', hc⟩ := a5 i hi
  exact ⟨c', hc.cg (fun j hj => cpR_hi (by omega))⟩
theorem e2g_ok {x y c k : Nat} (hxy : x < y) (hy : y < c) (hk : k < c - 2) : e2g x y k < c := by
  unfold e2g
  split
  · omega
  · split <;> omega
theorem e2g_inj {x y k j : Nat} (hne : k ≠ j) : e2g x y k ≠ e2g x y j := by
  unfold e2g
  split <;> split <;> (try split) <;> (try split) <;> omega
/-- a parcel is taken back, for a while; then another one before it -/
theorem K.take (h : K m s0 c w) {y : Nat} (hy : y < c) : kCtrW mL_takeBack 12 [.ref 0, .int (nI y)] w (some (.int (nI (c - 1)))) (fun w' => ∃ s1, Dn m s0 c s1 (c - 1) w' ∧ ∀ i, i < 75 → s1 i = goneS s0 y c i) := by
  obtain ⟨s, q, ⟨C, N, R⟩, e⟩ := h
  have h7 := N.1.1
  refine hL_takeBack_T (by decide) C.1 ((c5_takeBack C N.1.2.1 h7 hy).weak (fun w' hw => ⟨_, ⟨s, q, ⟨N, R, C.q6, e⟩, hw.1, fun i hi => goneS_up h7 hi, N.1.sv.gone hy⟩, fun i hi => ?_⟩))
  unfold goneS goneP
  split
  · rfl
  · split
    · rw [svS_low (by omega), e _ (by omega)]
    · rw [svS_low (by omega), e _ (by omega)]
theorem Dn.take {s1 : Nat → Int32} {c1 x : Nat} (h : Dn m s0 c s1 c1 w) (hx : x < c1) : kCtrW mL_takeBack 12 [.ref 0, .int (nI x)] w (some (.int (nI (c1 - 1)))) (fun w' => ∃ s2, Tw m s0 c s2 (c1 - 1) w' ∧ ∀ i, i < 75 → s2 i = goneS s1 x c1 i) := by
  obtain ⟨s, q, ⟨G, R, h6, e⟩, C, hh, N⟩ := h
  have h7 := N.1
  have hp := svN_pos q
  have q6 : svN q ≤ 6 := by
    unfold svN
    split <;> omega
  have row : ∀ i, i < svN q → ∀ j, j < 75 → rw75 s1 (i + 1) j = svR (fun i => rw75 s (i + 1)) q s i j := fun i hi j hj => (hh _ (by omega)).trans (svS_row h6 hi hj)
  have top : ∀ j, j < 75 → rw75 s1 (svN q) j = s0 j := fun j hj => by
    have r1 := row (svN q - 1) (by omega) j hj
    rw [← hp] at r1
    rw [r1, ← e j hj]
    unfold svR svN
    by_cases e6 : q = 6
    · rw [if_pos e6, if_pos e6, if_neg (by omega)]
    · rw [if_neg e6, if_neg e6, if_neg (by omega)]
  have rows : ∀ i, i < svN q → ∃ c', okG m (rw75 s1 (i + 1)) c' := fun i hi => by
    have r1 := row i hi
    unfold svR at r1
    unfold svN at hi
    by_cases e6 : q = 6
    · rw [if_pos e6] at hi r1
      by_cases e5 : i < 5
      · rw [if_pos e5] at r1
        obtain ⟨c', hc⟩ := R (i + 1) (by omega)
        exact ⟨c', hc.cg r1⟩
      · rw [if_neg e5] at r1
        exact ⟨c, G.cg r1⟩
    · rw [if_neg e6] at hi r1
      by_cases e5 : i < q
      · rw [if_pos e5] at r1
        obtain ⟨c', hc⟩ := R i e5
        exact ⟨c', hc.cg r1⟩
      · rw [if_neg e5] at r1
        exact ⟨c, G.cg r1⟩
  refine hL_takeBack_T (by decide) C.1 ((c5_takeBack C N.2.1 h7 hx).weak (fun w' hw => ⟨_, ⟨s1, svN q, by omega, q6, G.cg (fun i hi => (e i hi).symm), top, rows, hw.1, fun i hi => goneS_up h7 hi, N.sv.gone hx⟩, fun i hi => ?_⟩))
  unfold goneS goneP
  split
  · rfl
  · split
    · rw [svS_low (by omega)]
    · rw [svS_low (by omega)]
theorem gone2 {s1 s2 : Nat → Int32} {x y : Nat} (hxy : x < y) (hy : y < c) (hc : c ≤ 7) (h1 : ∀ i, i < 75 → s1 i = goneS s0 y c i) (h2 : ∀ i, i < 75 → s2 i = goneS s1 x (c - 1) i) : (∀ i, i < 20 → s2 i = s0 i) ∧ ∀ k, k < c - 2 → ∀ j, j < 7 → pa s2 (21 + 7 * k) j = pa s0 (21 + 7 * e2g x y k) j := by
  refine ⟨fun i hi => by rw [h2 i (by omega), goneS_lo hi, h1 i (by omega), goneS_lo hi], fun k hk j hj => ?_⟩
  show s2 (21 + 7 * k + j) = s0 (21 + 7 * e2g x y k + j)
  rw [h2 _ (by omega)]
  unfold goneS goneP e2g
  by_cases a : k < x
  · rw [if_neg (by omega), if_neg (by omega), if_pos a, h1 _ (by omega)]
    unfold goneS goneP
    rw [if_neg (by omega), if_neg (by omega)]
  · rw [if_neg (by omega), if_pos (by omega), if_neg a, h1 _ (by omega)]
    unfold goneS goneP
    by_cases b : k + 1 < y
    · rw [if_neg (by omega), if_neg (by omega), if_pos b]
      congr 1
      omega
    · rw [if_neg (by omega), if_pos (by omega), if_neg b]
      congr 1
      omega
/-- no bundling is cheaper than the cheapest -/
theorem two_less {s1 s2 : Nat → Int32} {x y V b : Nat} (N0 : okN s0 c) (N2 : okN s2 (c - 2)) (hxy : x < y) (hy : y < c) (h1 : ∀ i, i < 75 → s1 i = goneS s0 y c i) (h2 : ∀ i, i < 75 → s2 i = goneS s1 x (c - 1) i) (hV : setC (alS s0) (bdS s0) c = nI V) (hV2 : V ≤ 14000) (hB : bdS s0 x y = nI b) (hb2 : b < 100000) : ∃ V', setC (alS s2) (bdS s2) (c - 2) = nI V' ∧ V ≤ V' + b ∧ V' ≤ 14000 := by
  have h7 := N0.1
  obtain ⟨g1, g2⟩ := gone2 hxy hy h7 h1 h2
  obtain ⟨Va, Sa, a1, -, a3, a4, a5, a6⟩ := both_min N0
  obtain ⟨Vb, Sb, b1, -, b3, b4, b5, b6⟩ := both_min N2
  have e : Va = V := (nI_eq (by omega) (by omega)).mp (a1.symm.trans hV)
  subst e
  refine ⟨Vb, b1, two_gone N0 hxy hy (fun k hk => ?_) (fun k hk j hj hne => ?_) hB hb2 a3 b3, by omega⟩
  · exact pAl_20 g1 (g2 k hk) (N0.fine.2.2.1 _ (e2g_ok hxy hy hk)).1
  · exact bdF_20 g1 (g2 k hk) (g2 j hj) (N0.fine.2.2.2 _ (e2g_ok hxy hy hk) _ (e2g_ok hxy hy hj) (e2g_inj hne))
end TW
