/-! ===== what the law keeps: the office's numbers, and the saved ones ===== -/
/-- the numbers of an office as the law meets them: in their bounds, sides in order, no more disputes won than parcels sent, these at most m -/
def okG (m : Nat) (r : Nat → Int32) (c : Nat) : Prop := okN r c ∧ (∀ k, k < c → r (21 + 7 * k + 1) ≤ r (21 + 7 * k) ∧ r (21 + 7 * k + 2) ≤ r (21 + 7 * k + 1)) ∧ ∃ a b : Nat, r 71 = nI a ∧ r 72 = nI b ∧ b ≤ a ∧ a ≤ m ∧ m ≤ 100000
theorem okG.cg {m : Nat} {r r' : Nat → Int32} {c : Nat} (h : okG m r c) (e : ∀ i, i < 75 → r' i = r i) : okG m r' c := by
  obtain ⟨h1, h2, a, b, h3, h4, h5⟩ := h
  have h7 := h1.1
  refine ⟨h1.cg (fun i hi => e i (by omega)), fun k hk => ?_, a, b, (e _ (by decide)).trans h3, (e _ (by decide)).trans h4, h5⟩
  rw [e _ (by omega), e _ (by omega), e _ (by omega)]
  exact h2 k hk
theorem okG.up {m m' : Nat} {r : Nat → Int32} {c : Nat} (h : okG m r c) (hm : m ≤ m') (hm2 : m' ≤ 100000) : okG m' r c := by
  obtain ⟨h1, h2, a, b, h3, h4, h5, h6, -⟩ := h
  exact ⟨h1, h2, a, b, h3, h4, h5, by omega, hm2⟩
/-- the class's cells tell such an office, and such saved ones -/
def J (m : Nat) (w : kM) (s : Nat → Int32) (q c : Nat) : Prop := cls w s q z0 z0 0 ∧ okG m s c ∧ ∀ i, i < q → ∃ c', okG m (rw75 s (i + 1)) c'
theorem cls.rows {w : kM} {s s' : Nat → Int32} {q : Nat} (C : cls w s q z0 z0 0) (h0 : ∀ i, i < 75 → s' i = s i) (hr : ∀ i, i < q → ∀ j, j < 75 → s' (75 * (i + 1) + j) = s (75 * (i + 1) + j)) : cls w s' q z0 z0 0 :=
  ⟨C.1, C.2.1.cg (fun i hi => h0 i hi), C.2.2.1.cg (fun i hi j hj => hr i hi j hj), ⟨C.2.2.2.1.1, C.2.2.2.1.2.1, C.2.2.2.1.2.2.1, fun b _ hk => absurd rfl hk⟩, C.2.2.2.2.1, C.2.2.2.2.2⟩
theorem svN_pos (q : Nat) : svN q = svN q - 1 + 1 := by
  unfold svN
  split <;> omega
/-- a call that saves, and undo behind it -/
theorem bk {s s1 : Nat → Int32} {q : Nat} (hq : q ≤ 6) (h : ∀ i, 75 ≤ i → s1 i = svS s q i) :
    (∀ i, i < 75 → cpR s1 (svN q) 0 75 i = s i) ∧ (∀ i, i < svN q - 1 → ∃ i', i' < q ∧ (q < 6 → i' = i) ∧ ∀ j, j < 75 → rw75 (cpR s1 (svN q) 0 75) (i + 1) j = rw75 s (i' + 1) j) ∧
      (1 ≤ q → 1 ≤ svN q - 1 ∧ ∀ j, j < 75 → rw75 (cpR s1 (svN q) 0 75) (svN q - 1) j = rw75 s q j) := by
  have row : ∀ i, i < svN q → ∀ j, j < 75 → s1 (75 * (i + 1) + j) = svR (fun i => rw75 s (i + 1)) q s i j := fun i hi j hj => (h _ (by omega)).trans (svS_row hq hi hj)
  have up : ∀ i, 75 ≤ i → cpR s1 (svN q) 0 75 i = s1 i := fun i hi => cpR_hi hi
  have hp := svN_pos q
  have sec : ∀ i, i < svN q - 1 → ∃ i', i' < q ∧ (q < 6 → i' = i) ∧ (q = 6 → i' = i + 1) ∧ ∀ j, j < 75 → rw75 (cpR s1 (svN q) 0 75) (i + 1) j = rw75 s (i' + 1) j := by
    intro i hi
    have r1 : ∀ j, j < 75 → rw75 (cpR s1 (svN q) 0 75) (i + 1) j = svR (fun i => rw75 s (i + 1)) q s i j := fun j hj => (up _ (by omega)).trans (row i (by omega) j hj)
    unfold svR at r1
    unfold svN at hi
    by_cases e : q = 6
    · rw [if_pos e] at hi r1
      rw [if_pos (by omega)] at r1
      exact ⟨i + 1, by omega, fun _ => by omega, fun _ => rfl, r1⟩
    · rw [if_neg e] at hi r1
      rw [if_pos (by omega)] at r1
      exact ⟨i, by omega, fun _ => rfl, fun q => absurd q e, r1⟩
  refine ⟨fun i hi => ?_, fun i hi => ?_, fun h1 => ?_⟩
  · rw [cpR_0row hi, hp, row (svN q - 1) (by omega) i hi]
    unfold svR svN
    by_cases e : q = 6
    · rw [if_pos e, if_pos e, if_neg (by omega)]
    · rw [if_neg e, if_neg e, if_neg (by omega)]
  · obtain ⟨i', a, b, -, d⟩ := sec i hi
    exact ⟨i', a, b, d⟩
  · have h2 : 1 ≤ svN q - 1 := by
      unfold svN
      split <;> omega
    refine ⟨h2, ?_⟩
    obtain ⟨i', a, b, b2, d⟩ := sec (svN q - 1 - 1) (by omega)
    have e : i' + 1 = q := by
      unfold svN at b b2
      by_cases e : q = 6
      · have := b2 e
        rw [if_pos e] at this
        omega
      · have := b (by omega)
        rw [if_neg e] at this
        omega
    rw [e, show svN q - 1 - 1 + 1 = svN q - 1 by omega] at d
    exact d
/-- an office that tells the numbers s0, of c parcels -/
def V0 (s0 : Nat → Int32) (c : Nat) (w : kM) : Prop := ∃ (s : Nat → Int32) (q : Nat), cls w s q z0 z0 0 ∧ okN s c ∧ ∀ i, i < 75 → s i = s0 i
/-- .. whose saved ones are in their bounds too -/
def K (m : Nat) (s0 : Nat → Int32) (c : Nat) (w : kM) : Prop := ∃ (s : Nat → Int32) (q : Nat), J m w s q c ∧ ∀ i, i < 75 → s i = s0 i
/-- an office that tells s1 behind a call that saved s0 -/
def Dn (m : Nat) (s0 : Nat → Int32) (c : Nat) (s1 : Nat → Int32) (c1 : Nat) (w : kM) : Prop := ∃ (s : Nat → Int32) (q : Nat), (okG m s c ∧ (∀ i, i < q → ∃ c', okG m (rw75 s (i + 1)) c') ∧ q ≤ 6 ∧ ∀ i, i < 75 → s i = s0 i) ∧ cls w s1 (svN q) z0 z0 0 ∧ (∀ i, 75 ≤ i → s1 i = svS s q i) ∧ okN s1 c1
section KD
variable {m c c1 : Nat} {s0 s1 : Nat → Int32} {w : kM}
theorem K.v (h : K m s0 c w) : V0 s0 c w := by
  obtain ⟨s, q, ⟨C, N, -⟩, e⟩ := h
  exact ⟨s, q, C, N.1, e⟩
theorem K.ok (h : K m s0 c w) : okG m s0 c := by
  obtain ⟨s, q, ⟨C, N, -⟩, e⟩ := h
  exact N.cg (fun i hi => (e i hi).symm)
theorem Dn.v (h : Dn m s0 c s1 c1 w) : V0 s1 c1 w := by
  obtain ⟨s, q, -, C, -, N⟩ := h
  exact ⟨s1, _, C, N, fun i _ => rfl⟩
theorem V0.ok (h : V0 s0 c w) : okN s0 c := by
  obtain ⟨s, q, -, N, e⟩ := h
  exact N.cg (fun i hi => (e i (by omega)).symm)
theorem V0.ob (h : V0 s0 c w) : w 0 = kO 5 xF := by
  obtain ⟨s, q, C, -⟩ := h
  exact C.1
theorem K.ob (h : K m s0 c w) : w 0 = kO 5 xF := h.v.ob
theorem Dn.ob (h : Dn m s0 c s1 c1 w) : w 0 = kO 5 xF := h.v.ob
theorem J.k {s : Nat → Int32} {q : Nat} (h : J m w s q c) : K m s c w := ⟨s, q, h, fun _ _ => rfl⟩
/-- undo behind a call that saved -/
theorem Dn.undo (h : Dn m s0 c s1 c1 w) : ∃ u : Nat, u ≤ 5 ∧ kCtrW mL_undo 12 [.ref 0] w (some (.int (nI u))) (K m s0 c) := by
  obtain ⟨s, q, ⟨G, R, h6, e⟩, C, hh, -⟩ := h
  obtain ⟨b1, b2, -⟩ := bk h6 hh
  have hp := svN_pos q
  have h5 : svN q - 1 ≤ 5 := by
    unfold svN
    split <;> omega
  rw [hp] at C b1 b2
  refine ⟨svN q - 1, h5, hL_undo_T (by decide) C.1 (kCtrW.weak (c5_undo C) (fun w' hw => ?_))⟩
  refine ⟨_, _, ⟨hw.1, G.cg b1, fun i hi => ?_⟩, fun i hi => (b1 i hi).trans (e i hi)⟩
  obtain ⟨i', g1, -, g2⟩ := b2 i (by omega)
  obtain ⟨c', hc⟩ := R i' g1
  exact ⟨c', hc.cg g2⟩
/-! looks -/
theorem cntN_c {s s0 : Nat → Int32} {o : Int32} (e : ∀ i, i < 75 → s i = s0 i) : ∀ k, k ≤ 7 → cntN o s k = cntN o s0 k
  | 0, _ => rfl
  | k + 1, hk => by
    unfold cntN
    rw [cntN_c e k (by omega), e 1 (by decide), pG_congr (P := pa s0 (21 + 7 * k)) (P' := pa s (21 + 7 * k)) (fun j hj => e _ (by omega)), pR_congr (P := pa s0 (21 + 7 * k)) (P' := pa s (21 + 7 * k)) e (fun j hj => e _ (by omega))]
theorem lowN_c {s s0 : Nat → Int32} (e : ∀ i, i < 75 → s i = s0 i) : ∀ k, k ≤ 12 → lowN s k = lowN s0 k
  | 0, _ => rfl
  | k + 1, hk => by
    unfold lowN
    rw [lowN_c e k (by omega), e _ (by omega), rM_congr e k (by omega)]
theorem ctd_c {s s0 : Nat → Int32} {v : Int32} (e : ∀ i, i < 75 → s i = s0 i) (hc : c ≤ 7) : ∀ j, j < 9 → ctd s v c j = ctd s0 0 c j
  | 0, _ => e 20 (by decide)
  | 1, _ => cntN_c e c hc
  | 2, _ => cntN_c e c hc
  | 3, _ => e 70 (by decide)
  | 4, _ => e 71 (by decide)
  | 5, _ => e 72 (by decide)
  | 6, _ => e 73 (by decide)
  | 7, _ => e 74 (by decide)
  | 8, _ => lowN_c e 12 (Nat.le_refl _)
theorem V0.count (h : V0 s0 c w) {j : Nat} (hj : j < 9) : kCtrR mL_count 12 [.ref 0, .int (nI j)] w (.int (ctd s0 0 c j)) := by
  obtain ⟨s, q, C, N, e⟩ := h
  rw [← ctd_c (v := nI q) e N.1 j hj]
  exact hL_count_T (by decide) C.1 (c5_count C N.2.1 N.1 (by omega))
theorem V0.parcelOf (h : V0 s0 c w) {k j : Nat} (hk : k < c) (hj : j < 11) : kCtrR mL_parcelOf 12 [.ref 0, .int (nI k), .int (nI j)] w (.int (prp s0 (pa s0 (21 + 7 * k)) j)) := by
  have N0 := h.ok
  obtain ⟨s, q, C, N, e⟩ := h
  have h7 := N.1
  rw [← prp_congr e (P := pa s0 (21 + 7 * k)) (P' := pa s (21 + 7 * k)) (fun j hj => e _ (by omega)) (N0.fine.2.2.1 k hk).1 hj]
  exact hL_parcelOf_T (by decide) C.1 (c5_parcelOf C N.2.1 N.1 hk hj (N.fine.2.2.1 k hk).1)
theorem V0.setting (h : V0 s0 c w) {j : Nat} (hj : j < 4) : kCtrR mL_setting 12 [.ref 0, .int (nI j)] w (.int (s0 j)) := by
  obtain ⟨s, q, C, N, e⟩ := h
  rw [← e j (by omega)]
  exact hL_setting_T (by decide) C.1 (c5_setting C N.2.1 N.1 hj)
theorem V0.rate0 (h : V0 s0 c w) {z : Int32} (hz : 1 ≤ z ∧ z ≤ 999) {B : Nat} (hb : bnd z = nI B) (hB : B < 12) : kCtrR mL_rate 12 [.ref 0, .int z, .int 0] w (.int (rM s0 (B + 1))) := by
  obtain ⟨s, q, C, N, e⟩ := h
  rw [← rM_congr e (B + 1) (by omega)]
  exact hL_rate_T (by decide) C.1 (c5_rate C N.2.1 N.1 hz ⟨by decide, by decide⟩ hb hB)
/-- the price that is looked for from the own band down -/
theorem rDn_max {s : Nat → Int32} (hp : ∀ j, j < 12 → 0 ≤ s (4 + j) ∧ s (4 + j) ≤ 99) : ∀ (j b M : Nat), j < 12 → b < 12 → M < 100 → gI (s (4 + b)) (rM s j) = nI M → s (4 + rDn s j b) = nI M
  | 0, b, M, _, hb, hM, h => by
    show s (4 + b) = _
    rw [← h]
    show _ = gI (s (4 + b)) 0
    unfold gI
    by_cases e : 0 < s (4 + b)
    · rw [if_pos e]
    · rw [if_neg e]
      exact Int32.le_antisymm (Int32.not_lt.mp e) (hp b hb).1
  | j + 1, b, M, hj, hb, hM, h => by
    obtain ⟨x, -, x2, x3⟩ := bI (lo := 0) (hi := 99) (by decide) (by decide) (hp b hb)
    obtain ⟨y, -, y2, y3⟩ := bI (lo := 0) (hi := 99) (by decide) (by decide) (hp j (by omega))
    obtain ⟨R, r1, r2⟩ : ∃ R, R ≤ 99 ∧ rM s j = nI R := rmx j (by omega)
    have h2 : gI (s (4 + b)) (gI (s (4 + j)) (rM s j)) = nI M := h
    rw [x3, y3, r2, gI_nI (by omega) (by omega), gI_nI (by omega) (by omega)] at h2
    have e2 := (nI_eq (by omega) (by omega)).mp h2
    show s (4 + rDn s j (if s (4 + b) < s (4 + j) then j else b)) = _
    by_cases e : s (4 + b) < s (4 + j)
    · rw [if_pos e]
      have e3 := e
      rw [x3, y3] at e3
      have e4 := (nI_ltI (by omega) (by omega)).mp e3
      refine rDn_max hp j j M (by omega) (by omega) hM ?_
      rw [y3, r2, gI_nI (by omega) (by omega)]
      congr 1
      omega
    · rw [if_neg e]
      have e3 := e
      rw [x3, y3] at e3
      have e4 := mt (nI_ltI (by omega) (by omega)).mpr e3
      refine rDn_max hp j b M (by omega) hb hM ?_
      rw [x3, r2, gI_nI (by omega) (by omega)]
      congr 1
      omega
where
  rmx : ∀ k, k ≤ 12 → ∃ R, R ≤ 99 ∧ rM s k = nI R
    | 0, _ => ⟨0, by decide, rfl⟩
    | k + 1, hk => by
      obtain ⟨R, r1, r2⟩ := rmx k (by omega)
      obtain ⟨x, -, x2, x3⟩ := bI (lo := 0) (hi := 99) (by decide) (by decide) (hp k (by omega))
      refine ⟨max x R, by omega, ?_⟩
      show gI (s (4 + k)) (rM s k) = _
      rw [r2, x3, gI_nI (by omega) (by omega)]
theorem V0.rate1 (h : V0 s0 c w) {z : Int32} (hz : 1 ≤ z ∧ z ≤ 999) {B : Nat} (hb : bnd z = nI B) (hB : B < 12) : kCtrR mL_rate 12 [.ref 0, .int z, .int 1] w (.int (rM s0 (B + 1))) := by
  obtain ⟨s, q, C, N, e⟩ := h
  have t := hL_rate_T (by decide) C.1 (c5_rate C N.2.1 N.1 hz (v := 1) ⟨by decide, by decide⟩ hb hB)
  obtain ⟨M, m1, m2⟩ := N.rm (B + 1) (by omega)
  rw [← rM_congr e (B + 1) (by omega), m2]
  rw [if_neg (by decide), rDn_max N.2.2.2.1 B B M hB hB (by omega) m2] at t
  exact t
theorem V0.way (h : V0 s0 c w) {k : Nat} (hk : k < c) : kCtrR mL_cheapestWay 12 [.ref 0, .int (nI k)] w (.int (wyF s0 (pa s0 (21 + 7 * k)))) := by
  have N0 := h.ok
  obtain ⟨s, q, C, N, e⟩ := h
  have h7 := N.1
  rw [← wyF_congr e (P := pa s0 (21 + 7 * k)) (P' := pa s (21 + 7 * k)) (fun j hj => e _ (by omega)) (N0.fine.2.2.1 k hk).2]
  exact hL_cheapestWay_T (by decide) C.1 (c5_cheapestWay C N.2.1 N.1 hk (N.fine.2.2.1 k hk).2)
/-- the numbers of s0 as a row of all numbers: s0 where the office's stand, else those of s -/
theorem mixN {s s0 : Nat → Int32} (e : ∀ i, i < 75 → s i = s0 i) : ∃ t : Nat → Int32, (∀ i, i < 75 → t i = s0 i) ∧ agr s t := ⟨s, e, agr.rf⟩
theorem alS_c {s s0 : Nat → Int32} (N0 : okN s0 c) (e : ∀ i, i < 75 → s i = s0 i) {k : Nat} (hk : k < c) : alS s k = alS s0 k := pAl_congr e (fun j hj => e _ (by have := N0.1; omega)) (N0.fine.2.2.1 k hk).1
theorem bdS_c {s s0 : Nat → Int32} (N0 : okN s0 c) (e : ∀ i, i < 75 → s i = s0 i) {k j : Nat} (hk : k < c) (hj : j < c) (hne : k ≠ j) : bdS s k j = bdS s0 k j := bdF_congr e (fun i hi => e _ (by have := N0.1; omega)) (fun i hi => e _ (by have := N0.1; omega)) (N0.fine.2.2.2 k hk j hj hne)
theorem dpN_c {s s0 : Nat → Int32} (N0 : okN s0 c) (e : ∀ i, i < 75 → s i = s0 i) : ∀ k, k ≤ c → dpN s k = dpN s0 k
  | 0, _ => rfl
  | k + 1, hk => by
    have h7 := N0.1
    unfold dpN
    rw [pR_congr (P := pa s0 (21 + 7 * k)) (P' := pa s (21 + 7 * k)) e (fun j hj => e _ (by omega)), dpN_c N0 e k (by omega)]
    split
    · cases hd : dpN s0 k with
      | none => rfl
      | some f =>
        have hf := dpN_lt k hd
        dsimp only
        rw [pP_congr (P := pa s0 (21 + 7 * f)) (P' := pa s (21 + 7 * f)) e (fun j hj => e _ (by omega)) (N0.fine.2.2.1 f (by omega)).1, pP_congr (P := pa s0 (21 + 7 * k)) (P' := pa s (21 + 7 * k)) e (fun j hj => e _ (by omega)) (N0.fine.2.2.1 k (by omega)).1]
    · rfl
where
  dpN_lt : ∀ k {f : Nat}, dpN s0 k = some f → f < k
    | 0, _, h => by cases h
    | k + 1, f, h => by
      unfold dpN at h
      split at h
      · split at h
        · cases h; exact Nat.lt_succ_self _
        · rename_i hd
          split at h
          · cases h; exact Nat.lt_succ_self _
          · cases h; exact Nat.lt_succ_of_lt (dpN_lt k hd)
      · exact Nat.lt_succ_of_lt (dpN_lt k h)
theorem V0.dearest (h : V0 s0 c w) : kCtrR mX5_dearest 4 [.ref 0] w (.int (oI (dpN s0 c))) := by
  have N0 := h.ok
  obtain ⟨s, q, C, N, e⟩ := h
  rw [← dpN_c N0 e c (Nat.le_refl _)]
  exact c5_dearest C N.2.1 N.1 (fun k hk => (N.fine.2.2.1 k hk).1)
theorem mixS {s s0 : Nat → Int32} (N0 : okN s0 c) (e : ∀ i, i < 75 → s i = s0 i) : setC (alS s) (bdS s) c = setC (alS s0) (bdS s0) c := setC_al (fun k hk => alS_c N0 e hk) (fun k hk j hj hne => bdS_c N0 e hk hj hne) N0.1
/-- the cheapest bundling, told both ways -/
theorem chp_at {s s0 : Nat → Int32} {q V : Nat} (C : cls w s q z0 z0 0) (N : okN s c) (e : ∀ i, i < 75 → s i = s0 i) (hV : setC (alS s0) (bdS s0) c = nI V) {u : Nat} (hu : u < 2) : kCtrW mL_cheapest 12 [.ref 0, .int (nI u)] w (some (.int (nI V))) (fun w' => cls w' s q z0 z0 0) := by
  have N0 : okN s0 c := N.cg (fun i hi => (e i (by omega)).symm)
  have eS := (mixS N0 e).trans hV
  obtain ⟨V', S', v1', v2', -⟩ := both_min N
  have two : ∀ v : Int32, 0 ≤ v ∧ v ≤ 1 → kCtrW mX5_cheapest 10 [.ref 0, .int v] w (some (.int (nI V))) (fun w' => cls w' s q z0 z0 0) := fun v hv => by
    have t := c5_cheapest C N.2.1 N.1 N.fine N.nn hv
    have e2 : (if v = 0 then setC (alS s) (bdS s) c else lfF (alS s) (bdS s) c 0 0) = nI V := by
      split
      · exact eS
      · exact v2'.trans (v1'.symm.trans eS)
    rw [e2] at t
    exact t.weak (fun w' hw => hw.1)
  match u, hu with
  | 0, _ => exact hL_cheapest_T (by decide) C.1 (two 0 ⟨by decide, by decide⟩)
  | 1, _ => exact hL_cheapest_T (by decide) C.1 (two 1 ⟨by decide, by decide⟩)
theorem K.cheapest (h : K m s0 c w) {V : Nat} (hV : setC (alS s0) (bdS s0) c = nI V) {u : Nat} (hu : u < 2) : kCtrW mL_cheapest 12 [.ref 0, .int (nI u)] w (some (.int (nI V))) (K m s0 c) := by
  obtain ⟨s, q, ⟨C, N, R⟩, e⟩ := h
  exact (chp_at C N.1 e hV hu).weak (fun w' C' => ⟨s, q, ⟨C', N, R⟩, e⟩)
theorem Dn.cheapest (h : Dn m s0 c s1 c1 w) {V : Nat} (hV : setC (alS s1) (bdS s1) c1 = nI V) {u : Nat} (hu : u < 2) : kCtrW mL_cheapest 12 [.ref 0, .int (nI u)] w (some (.int (nI V))) (Dn m s0 c s1 c1) := by
  obtain ⟨s, q, H, C, hh, N⟩ := h
  exact (chp_at C N (fun _ _ => rfl) hV hu).weak (fun w' C' => ⟨s, q, H, C', hh, N⟩)
theorem K.share (h : K m s0 c w) : kCtrW mX5_savedShare 5 [.ref 0] w (some (.double (shS s0 c))) (K m s0 c) := by
  have N0 := h.ok.1
  obtain ⟨s, q, ⟨C, N, R⟩, e⟩ := h
  have e2 : shS s c = shS s0 c := by
    show shV (sumF (alS s) c) (setC (alS s) (bdS s) c) = _
    rw [mixS N0 e, sumF_al c (fun k hk => alS_c N0 e hk)]
  rw [← e2]
  exact (c5_savedShare C N.1.2.1 N.1.1 N.1.fine N.1.nn).weak (fun w' hw => ⟨s, q, ⟨hw.1, N, R⟩, e⟩)
theorem K.bundle (h : K m s0 c w) {k j : Nat} (hk : k < c) (hj : j < c) (hne : k ≠ j) : kCtrW mL_ifBundled 12 [.ref 0, .int (nI k), .int (nI j)] w (some (.int (bdS s0 k j))) (K m s0 c) := by
  have N0 := h.ok.1
  obtain ⟨s, q, ⟨C, N, R⟩, e⟩ := h
  rw [← bdS_c N0 e hk hj hne]
  exact hL_ifBundled_T (by decide) C.1 ((c5_ifBundled C N.1.2.1 N.1.1 N.1.fine N.1.nn hk hj hne).weak (fun w' hw => ⟨s, q, ⟨hw.1, N, R⟩, e⟩))
/-! what throws changes nothing -/
theorem cls.k {s : Nat → Int32} {q : Nat} (h : K m s0 c w) : ∀ w1, w1 = w → K m s0 c w1 := fun w1 e => by rw [e]; exact h
theorem kCtrX.weak {M : kMi} {d : Nat} {As : List Value} {E : String} {P P' : kM → Prop} (h : kCtrX M d As w E P) (hP : ∀ w', P w' → P' w') : kCtrX M d As w E P' := by
  intro n l hl G b p e h1 h2 h3 s m args below hf ha hPc hK
  obtain ⟨k, o, a1, a2, a3, hq⟩ := h n l hl G b p e h1 h2 h3 s m args below hf ha hPc hK
  refine ⟨k, o, a1, a2, a3, ?_⟩
  rcases hq with ⟨⟨⟨v', w', n', q1, ⟨q2, _⟩, _⟩, _⟩, _⟩ | ⟨q, q1, E', ce, L', ⟨⟨w', n', ⟨q2, q3, q4⟩, q5⟩, q6⟩, q7⟩
  · cases q2
  · exact Or.inr ⟨q, q1, E', ce, L', ⟨⟨w', n', ⟨q2, hP _ q3, q4⟩, q5⟩, q6⟩, q7⟩
end KD
