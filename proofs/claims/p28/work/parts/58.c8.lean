def offR (w : kM) (o : Nat) (r : Nat → Int32) : Prop := ∃ c σ, offP w o r c σ
def offA (w : kM) (o : Nat) : Prop := ∃ r, offR w o r
theorem offR.fr {w w' : kM} {o : Nat} {r : Nat → Int32} (H : offR w o r) (h : ∀ k, o ≤ k → k < o + 12 → w' k = w k) : offR w' o r := by
  obtain ⟨c, σ, H⟩ := H
  exact ⟨c, σ, H.fr h⟩
theorem offR.cg {w : kM} {o : Nat} {r r' : Nat → Int32} (H : offR w o r) (h : ∀ i, i < 75 → r' i = r i) : offR w o r' := by
  obtain ⟨c, σ, H⟩ := H
  exact ⟨c, σ, H.cg (fun i hi _ => h i hi)⟩
theorem offR.a {w : kM} {o : Nat} {r : Nat → Int32} (H : offR w o r) : offA w o := ⟨r, H⟩
theorem offA.fr {w w' : kM} {o : Nat} (H : offA w o) (h : ∀ k, o ≤ k → k < o + 12 → w' k = w k) : offA w' o := by
  obtain ⟨r, H⟩ := H
  exact ⟨r, H.fr h⟩
theorem offA.ob {w : kM} {o : Nat} (H : offA w o) : ∃ F, w o = kO 1 F := by
  obtain ⟨r, c, σ, H⟩ := H
  exact ⟨_, H.ob⟩
theorem rmD_ltN {N k c : Nat} {σ : Nat → Nat} (hs : ∀ j, j < N → σ j < N) (hk : k < c) (hc : c ≤ N) : ∀ j, j < N → rmD k c σ j < N := by
  intro j hj
  unfold rmD
  split
  · exact hs _ (by omega)
  · split
    · exact hs _ (by omega)
    · exact hs _ hj
theorem rmD_injN {N k c : Nat} {σ : Nat → Nat} (hi : ∀ i, i < N → ∀ j, j < N → σ i = σ j → i = j) (hk : k < c) (hc : c ≤ N) : ∀ i, i < N → ∀ j, j < N → rmD k c σ i = rmD k c σ j → i = j := by
  intro i h1 j h2 h
  have e : ∀ x, x < N → ∃ y, y < N ∧ rmD k c σ x = σ y ∧ ((k ≤ x ∧ x + 1 < c ∧ y = x + 1) ∨ (x + 1 = c ∧ y = k) ∨ ((x < k ∨ c ≤ x) ∧ y = x)) := by
    intro x hx
    unfold rmD
    by_cases g1 : k ≤ x ∧ x + 1 < c
    · exact ⟨x + 1, by omega, by rw [if_pos g1], by omega⟩
    · by_cases g2 : x + 1 = c
      · exact ⟨k, by omega, by rw [if_neg g1, if_pos g2], by omega⟩
      · exact ⟨x, hx, by rw [if_neg g1, if_neg g2], by omega⟩
  obtain ⟨a, a1, a2, a3⟩ := e i h1
  obtain ⟨b, b1, b2, b3⟩ := e j h2
  rw [a2, b2] at h
  have := hi a a1 b b1 h
  omega
theorem rmT_sg {g : Nat → Nat} {k i j : Nat} {σ : Nat → Nat} (h : k + 1 ≤ i) : kuF (fun j => .ref (g (rmT k σ i j))) (i - 1) (.ref (g (σ i))) j = .ref (g (rmT k σ (i + 1) j)) := by
  unfold kuF rmT
  by_cases h1 : j = i - 1
  · rw [if_pos h1, if_pos (by omega), show j + 1 = i by omega]
  · rw [if_neg h1]
    dsimp only
    by_cases h2 : k ≤ j ∧ j + 1 < i
    · rw [if_pos h2, if_pos (by omega)]
    · rw [if_neg h2, if_neg (by omega)]
theorem rmD_sg {g : Nat → Nat} {k c j : Nat} {σ : Nat → Nat} (h : k < c) : kuF (fun j => .ref (g (rmT k σ c j))) (c - 1) (.ref (g (σ k))) j = .ref (g (rmD k c σ j)) := by
  unfold kuF rmT rmD
  by_cases h1 : j = c - 1
  · rw [if_pos h1, if_neg (by omega), if_pos (by omega)]
  · rw [if_neg h1]
    dsimp only
    by_cases h2 : k ≤ j ∧ j + 1 < c
    · rw [if_pos h2, if_pos h2]
    · rw [if_neg h2, if_neg h2, if_neg (by omega)]
def svF (v : Nat) (q : Int32) : Nat → Value := fun k => match k with
  | 0 => .ref (v + 1)
  | 1 => .int q
  | _ => .null
theorem svF_s {v : Nat} {q x : Int32} : kuF (svF v q) 1 (.int x) = svF v x := by
  funext j
  match j with
  | 0 => rfl
  | 1 => rfl
  | z + 2 => simp [kuF, svF]
/-- the states that are kept, by their order -/
def svA (w : kM) (v q : Nat) (π : Nat → Nat) : Prop := w v = kO 4 (svF v (nI q)) ∧ w (v + 1) = kV 6 6 (tv 6 (fun i => .ref (v + 2 + 12 * π i))) ∧ (∀ i, i < 6 → π i < 6) ∧ (∀ i, i < 6 → ∀ j, j < 6 → π i = π j → i = j) ∧ (∀ i, i < 6 → offA w (v + 2 + 12 * π i)) ∧ q ≤ 6
def svP (w : kM) (v q : Nat) (R : Nat → Nat → Int32) : Prop := ∃ π, svA w v q π ∧ ∀ i, i < q → offR w (v + 2 + 12 * π i) (R i)
def svR (R : Nat → Nat → Int32) (q : Nat) (s : Nat → Int32) : Nat → Nat → Int32 := fun i => if q = 6 then (if i < 5 then R (i + 1) else s) else (if i < q then R i else s)
theorem dro_step {w : kM} {v i : Nat} {π : Nat → Nat} (h : 1 ≤ i) : kup (kup w (v + 1) (kV 6 6 (tv 6 (fun j => .ref (v + 2 + 12 * rmT 0 π i j))))) (v + 1) (kV 6 6 (tv 6 (kuF (fun j => .ref (v + 2 + 12 * rmT 0 π i j)) (i - 1) (.ref (v + 2 + 12 * π i))))) = kup w (v + 1) (kV 6 6 (tv 6 (fun j => .ref (v + 2 + 12 * rmT 0 π (i + 1) j)))) := by
  rw [kup_kup, tv_eq (fun j _ => rmT_sg (g := (fun z => v + 2 + 12 * z)) h)]
theorem dro_last {w : kM} {v : Nat} {π : Nat → Nat} : kup (kup w (v + 1) (kV 6 6 (tv 6 (fun j => .ref (v + 2 + 12 * rmT 0 π 6 j))))) (v + 1) (kV 6 6 (tv 6 (kuF (fun j => .ref (v + 2 + 12 * rmT 0 π 6 j)) 5 (.ref (v + 2 + 12 * π 0))))) = kup w (v + 1) (kV 6 6 (tv 6 (fun j => .ref (v + 2 + 12 * rmD 0 6 π j)))) := by
  rw [kup_kup, tv_eq (fun j _ => rmD_sg (g := (fun z => v + 2 + 12 * z)) (k := 0) (c := 6) (σ := π) (by decide))]
set_option maxRecDepth 100000 in
set_option maxHeartbeats 4000000 in
theorem c4_drop {w : kM} {v q : Nat} {π : Nat → Nat} (A : svA w v q π) : kCtrW mX4_dropOldest 0 [.ref v] w none (fun w' => w' = (kup (kup w (v + 1) (kV 6 6 (tv 6 (fun j => .ref (v + 2 + 12 * rmD 0 6 π j))))) v (kO 4 (svF v (nI 5))))) := by
  refine kCtrW.of pl4 nlX4_dropOldest rfl (Nat.le_of_ble_eq_true rfl) (fun n => ?_)
  have loop : ∀ (m i : Nat), m = 6 - i → 1 ≤ i → i ≤ 6 → kW (0, fun _ => 0) mX4_dropOldest 0 (fun o' w' n' => o' = .inl none ∧ (fun w' => w' = (kup (kup w (v + 1) (kV 6 6 (tv 6 (fun j => .ref (v + 2 + 12 * rmD 0 6 π j))))) v (kO 4 (svF v (nI 5))))) w' ∧ n' = n) 0 0 n (kup w (v + 1) (kV 6 6 (tv 6 (fun j => .ref (v + 2 + 12 * rmT 0 π i j))))) 9 [(0, .ref v), (1, .ref (v + 2 + 12 * π 0)), (2, .int (nI i))] [] := by
    intro m
    induction m using Nat.strongRecOn with
    | _ m ih =>
      intro i hm hi1 hi2
      refine kw_iload_n (pc := 9) dX4_dropOldest_9 rfl ?_
      refine kw_aload_n (pc := 10) dX4_dropOldest_10 rfl ?_
      refine kw_getfield (pc := 11) kfw dX4_dropOldest_11 fX4_11 ((kup_ne (by omega)).trans A.1) rfl ?_
      refine kw_alenV (pc := 14) (v := 6) dX4_dropOldest_14 (kup_self _ _ _) rfl ?_
      refine kw_icmp_ge (tgt := 38) (pc := 15) dX4_dropOldest_15 (by decide) (fun h15 => ?_) (fun h15 => ?_)
      · have h15 := (kLeI (a := 6) (b := i) (by omega) (by omega) (rfl : (6 : Int32) = nI 6) rfl).mp h15
        obtain rfl : i = 6 := by omega
        refine kw_aload_n (pc := 38) dX4_dropOldest_38 rfl ?_
        refine kw_getfield (pc := 39) kfw dX4_dropOldest_39 fX4_11 ((kup_ne (by omega)).trans A.1) rfl ?_
        refine kw_aload_n (pc := 42) dX4_dropOldest_42 rfl ?_
        refine kw_getfield (pc := 43) kfw dX4_dropOldest_43 fX4_11 ((kup_ne (by omega)).trans A.1) rfl ?_
        refine kw_alenV (pc := 46) (v := 6) dX4_dropOldest_46 (kup_self _ _ _) rfl ?_
        refine kw_iconst (v := 1) (pc := 47) dX4_dropOldest_47 (by decide) ?_
        refine kw_isub (pc := 48) dX4_dropOldest_48 ?_
        refine kw_aload_n (pc := 49) dX4_dropOldest_49 rfl ?_
        obtain ⟨F1, hF1⟩ := (A.2.2.2.2.1 0 (by omega)).ob
        refine kw_aastoreT (pc := 50) (i := 5) (ci := 1) dX4_dropOldest_50 (kup_self _ _ _) rfl rfl rfl (by omega) (by decide) ((kup_ne (by omega)).trans hF1) (kW.eq dro_last rfl ?_)
        refine kw_aload_n (pc := 51) dX4_dropOldest_51 rfl ?_
        refine kw_aload_n (pc := 52) dX4_dropOldest_52 rfl ?_
        refine kw_getfield (pc := 53) kfw dX4_dropOldest_53 fX4_11 ((kup_ne (by omega)).trans A.1) rfl ?_
        refine kw_alenV (pc := 56) (v := 6) dX4_dropOldest_56 (kup_self _ _ _) rfl ?_
        refine kw_iconst (v := 1) (pc := 57) dX4_dropOldest_57 (by decide) ?_
        refine kw_isub (pc := 58) dX4_dropOldest_58 ?_
        refine kw_putfield (pc := 59) kfw dX4_dropOldest_59 fX4_18 ((kup_ne (by omega)).trans A.1) (fun _ _ => rfl) (fun _ _ => rfl) ?_
        exact kw_return nlX4_dropOldest (pc := 62) dX4_dropOldest_62 rfl ⟨rfl, by rw [svF_s]; rfl, rfl⟩
      · have h15 := mt (kLeI (a := 6) (b := i) (by omega) (by omega) (rfl : (6 : Int32) = nI 6) rfl).mpr h15
        refine kw_aload_n (pc := 18) dX4_dropOldest_18 rfl ?_
        refine kw_getfield (pc := 19) kfw dX4_dropOldest_19 fX4_11 ((kup_ne (by omega)).trans A.1) rfl ?_
        refine kw_iload_n (pc := 22) dX4_dropOldest_22 rfl ?_
        refine kw_iconst (v := 1) (pc := 23) dX4_dropOldest_23 (by decide) ?_
        refine kw_isub (pc := 24) dX4_dropOldest_24 ?_
        refine kw_aload_n (pc := 25) dX4_dropOldest_25 rfl ?_
        refine kw_getfield (pc := 26) kfw dX4_dropOldest_26 fX4_11 ((kup_ne (by omega)).trans A.1) rfl ?_
        refine kw_iload_n (pc := 29) dX4_dropOldest_29 rfl ?_
        refine kw_aaloadT (pc := 30) (i := i) (o := v + 2 + 12 * π i) dX4_dropOldest_30 (kup_self _ _ _) rfl rfl (by omega) (by decide) (by rw [rmT_i]) ?_
        obtain ⟨F1, hF1⟩ := (A.2.2.2.2.1 i (by omega)).ob
        refine kw_aastoreT (pc := 31) (i := i - 1) (ci := 1) dX4_dropOldest_31 (kup_self _ _ _) rfl rfl (kS (a := i) (b := 1) rfl (rfl : (1 : Int32) = nI 1) (by omega)) (by omega) (by decide) ((kup_ne (by omega)).trans hF1) (kW.eq (dro_step hi1) rfl ?_)
        refine kw_iinc (pc := 32) dX4_dropOldest_32 (by decide) rfl rfl rfl ?_
        refine kw_goto (tgt := 9) (pc := 35) dX4_dropOldest_35 (by decide) ?_
        exact kW.locs (ih (6 - (i + 1)) (by omega) (i + 1) rfl (by omega) (by omega)) ⟨rfl, rfl, kgE rfl (kA (a := i) (b := 1) rfl (rfl : (Int32.ofInt 1) = nI 1)), trivial⟩
  refine kw_aload_n (pc := 0) dX4_dropOldest_0 rfl ?_
  refine kw_getfield (pc := 1) kfw dX4_dropOldest_1 fX4_11 A.1 rfl ?_
  refine kw_iconst (v := 0) (pc := 4) dX4_dropOldest_4 (by decide) ?_
  refine kw_aaloadT (pc := 5) (i := 0) dX4_dropOldest_5 A.2.1 rfl (rfl : (0 : Int32) = nI 0) (by omega) (by decide) rfl ?_
  refine kw_astore_n (pc := 6) dX4_dropOldest_6 (by decide) rfl ?_
  refine kw_iconst (v := 1) (pc := 7) dX4_dropOldest_7 (by decide) ?_
  refine kw_istore_n (pc := 8) dX4_dropOldest_8 (by decide) rfl ?_
  refine kW.eq (w' := kup w (v + 1) (kV 6 6 (tv 6 (fun j => .ref (v + 2 + 12 * rmT 0 π 1 j))))) (by rw [tv_eq (fun j _ => congrArg (fun z => Value.ref (v + 2 + 12 * z)) (rmT_0 (k := 0) j)), kup_id A.2.1]) rfl ?_
  exact kW.locs (loop (6 - 1) 1 rfl (by decide) (by decide)) ⟨rfl, rfl, rfl, trivial⟩
theorem svA.fr {w w' : kM} {v q : Nat} {π : Nat → Nat} (A : svA w v q π) (h : ∀ k, v ≤ k → k < v + 74 → w' k = w k) : svA w' v q π := by
  refine ⟨(h _ (by omega) (by omega)).trans A.1, (h _ (by omega) (by omega)).trans A.2.1, A.2.2.1, A.2.2.2.1, fun i hi => ?_, A.2.2.2.2.2⟩
  have := A.2.2.1 i hi
  exact (A.2.2.2.2.1 i hi).fr (fun k h1 h2 => h k (by omega) (by omega))
theorem svP.fr {w w' : kM} {v q : Nat} {R : Nat → Nat → Int32} (P : svP w v q R) (h : ∀ k, v ≤ k → k < v + 74 → w' k = w k) : svP w' v q R := by
  obtain ⟨π, A, B⟩ := P
  refine ⟨π, A.fr h, fun i hi => ?_⟩
  have := A.2.2.1 i (by have := A.2.2.2.2.2; omega)
  exact (B i hi).fr (fun k h1 h2 => h k (by omega) (by omega))
theorem svP.cg {w : kM} {v q : Nat} {R R' : Nat → Nat → Int32} (P : svP w v q R) (h : ∀ i, i < q → ∀ j, j < 75 → R' i j = R i j) : svP w v q R' := by
  obtain ⟨π, A, B⟩ := P
  exact ⟨π, A, fun i hi => (B i hi).cg (h i hi)⟩
theorem svA.drop {w : kM} {v : Nat} {π : Nat → Nat} (A : svA w v 6 π) : svA (kup (kup w (v + 1) (kV 6 6 (tv 6 (fun j => .ref (v + 2 + 12 * rmD 0 6 π j))))) v (kO 4 (svF v (nI 5)))) v 5 (rmD 0 6 π) := by
  have fr : ∀ k, k ≠ v → k ≠ v + 1 → (kup (kup w (v + 1) (kV 6 6 (tv 6 (fun j => .ref (v + 2 + 12 * rmD 0 6 π j))))) v (kO 4 (svF v (nI 5)))) k = w k := fun k h1 h2 => (kup_ne h1).trans (kup_ne h2)
  refine ⟨kup_self _ _ _, (kup_ne (by omega)).trans (kup_self _ _ _), rmD_ltN A.2.2.1 (by decide) (by decide), rmD_injN A.2.2.2.1 (by decide) (by decide), fun i hi => ?_, by decide⟩
  have e : ∃ j, j < 6 ∧ rmD 0 6 π i = π j := by
    unfold rmD
    by_cases h1 : 0 ≤ i ∧ i + 1 < 6
    · exact ⟨i + 1, by omega, by rw [if_pos h1]⟩
    · exact ⟨0, by omega, by rw [if_neg h1, if_pos (by omega)]⟩
  obtain ⟨j, hj, e⟩ := e
  rw [e]
  exact (A.2.2.2.2.1 j hj).fr (fun k h1 h2 => fr k (by omega) (by omega))
theorem svA.dropR {w : kM} {v : Nat} {π : Nat → Nat} {R : Nat → Nat → Int32} (A : svA w v 6 π) (B : ∀ i, i < 6 → offR w (v + 2 + 12 * π i) (R i)) : ∀ i, i < 5 → offR (kup (kup w (v + 1) (kV 6 6 (tv 6 (fun j => .ref (v + 2 + 12 * rmD 0 6 π j))))) v (kO 4 (svF v (nI 5)))) (v + 2 + 12 * rmD 0 6 π i) (R (i + 1)) := by
  intro i hi
  rw [show rmD 0 6 π i = π (i + 1) from if_pos (by omega)]
  exact (B (i + 1) (by omega)).fr (fun k h1 h2 => (kup_ne (by omega)).trans (kup_ne (by omega)))
/-- a state laid behind q others -/
theorem svA.put {w w1 w2 : kM} {v q o : Nat} {π : Nat → Nat} {R : Nat → Nat → Int32} {s : Nat → Int32} (A : svA w v q π) (B : ∀ i, i < q → offR w (v + 2 + 12 * π i) (R i)) (hq : q < 6) (h1 : offR w1 (v + 2 + 12 * π q) s) (hf : ∀ a, (a < v + 2 + 12 * π q ∨ v + 2 + 12 * π q + 12 ≤ a) → w1 a = w a) (h2 : w2 = kup w1 v (kO 4 (svF v (nI (q + 1))))) : svA w2 v (q + 1) π ∧ (∀ i, i < q + 1 → offR w2 (v + 2 + 12 * π i) (if i < q then R i else s)) ∧ ∀ a, (a < v ∨ v + 74 ≤ a) → w2 a = w a := by
  have hl := A.2.2.1 q hq
  have f2 : ∀ a, a ≠ v → w2 a = w1 a := fun a h => by rw [h2]; exact kup_ne h
  have fo : ∀ i, i < 6 → i ≠ q → ∀ k, v + 2 + 12 * π i ≤ k → k < v + 2 + 12 * π i + 12 → w2 k = w k := fun i hi hne k h3 h4 => by
    have h5 : π i ≠ π q := fun e => hne (A.2.2.2.1 i hi q hq e)
    rw [f2 k (by omega), hf k (by omega)]
  refine ⟨⟨by rw [h2]; exact kup_self _ _ _, (f2 _ (by omega)).trans ((hf _ (by omega)).trans A.2.1), A.2.2.1, A.2.2.2.1, fun i hi => ?_, by omega⟩, fun i hi => ?_, fun a h => (f2 _ (by omega)).trans (hf _ (by omega))⟩
  · by_cases e : i = q
    · subst e
      exact (h1.fr (fun k h3 h4 => f2 k (by omega))).a
    · exact (A.2.2.2.2.1 i hi).fr (fo i hi e)
  · by_cases e : i = q
    · subst e
      rw [if_neg (by omega)]
      exact h1.fr (fun k h3 h4 => f2 k (by omega))
    · rw [if_pos (by omega)]
      exact (B i (by omega)).fr (fo i (by omega) e)
set_option maxRecDepth 100000 in
set_option maxHeartbeats 4000000 in
theorem c4_save {w : kM} {v q : Nat} {R : Nat → Nat → Int32} (P : svP w v q R) {o : Nat} {s : Nat → Int32} (H : offR w o s) (hd : o + 12 ≤ v ∨ v + 74 ≤ o) : kCtrW mX4_save 2 [.ref v, .ref o] w none (fun w' => svP w' v (svN q) (svR R q s) ∧ ∀ a, (a < v ∨ v + 74 ≤ a) → w' a = w a) := by
  refine kCtrW.of pl4 nlX4_save rfl (Nat.le_of_ble_eq_true rfl) (fun n => ?_)
  have tail : ∀ (w1 : kM) (q1 : Nat) (π : Nat → Nat), svA w1 v q1 π → q1 < 6 → offR w1 o s → (∀ w2, offR w2 (v + 2 + 12 * π q1) s → (∀ a, (a < v + 2 + 12 * π q1 ∨ v + 2 + 12 * π q1 + 12 ≤ a) → w2 a = w1 a) → ∀ {w3 : kM}, w3 = kup w2 v (kO 4 (svF v (nI (q1 + 1)))) → (fun w' => svP w' v (svN q) (svR R q s) ∧ ∀ a, (a < v ∨ v + 74 ≤ a) → w' a = w a) w3) → kW (0, fun _ => 0) mX4_save 2 (fun o' w' n' => o' = .inl none ∧ (fun w' => svP w' v (svN q) (svR R q s) ∧ ∀ a, (a < v ∨ v + 74 ≤ a) → w' a = w a) w' ∧ n' = n) 0 0 n w1 16 [(0, .ref v), (1, .ref o)] [] := by
    intro w1 q1 π A1 hq1 Ho fin
    obtain ⟨c0, σ0, Ho⟩ := Ho
    obtain ⟨rj, cj, σj, Hj⟩ := A1.2.2.2.2.1 q1 hq1
    have hl := A1.2.2.1 q1 hq1
    refine kw_aload_n (pc := 16) dX4_save_16 rfl ?_
    refine kw_getfield (pc := 17) kfw dX4_save_17 fX4_11 A1.1 rfl ?_
    refine kw_aload_n (pc := 20) dX4_save_20 rfl ?_
    refine kw_getfield (pc := 21) kfw dX4_save_21 fX4_18 A1.1 rfl ?_
    refine kw_aaloadT (pc := 24) (i := q1) dX4_save_24 A1.2.1 rfl rfl hq1 (by decide) rfl ?_
    refine kw_aload_n (pc := 25) dX4_save_25 rfl ?_
    refine kw_callVw0 (pc := 26) dX4_save_26 lX4_25 (c1_copyFrom Hj Ho (by omega)) Hj.ob rfl rfl rfl ⟨by decide, by decide, Nat.le_of_ble_eq_true rfl⟩ (fun w2 hw2 => ?_)
    obtain ⟨h2a, h2b⟩ := hw2
    have hv2 := (h2b v (by omega)).trans A1.1
    refine kw_aload_n (pc := 29) dX4_save_29 rfl ?_
    refine kw_dup (pc := 30) dX4_save_30 rfl ?_
    refine kw_getfield (pc := 31) kfw dX4_save_31 fX4_18 hv2 rfl ?_
    refine kw_iconst (v := 1) (pc := 34) dX4_save_34 (by decide) ?_
    refine kw_iadd (pc := 35) dX4_save_35 ?_
    refine kw_putfield (pc := 36) kfw dX4_save_36 fX4_18 hv2 (fun _ _ => rfl) (fun _ _ => rfl) ?_
    rw [svF_s, kA (a := q1) (b := 1) rfl (rfl : (1 : Int32) = nI 1)]
    exact kw_return nlX4_save (pc := 39) dX4_save_39 rfl ⟨rfl, fin _ ⟨_, _, h2a⟩ h2b rfl, rfl⟩
  obtain ⟨π, A, B⟩ := P
  have hq6 := A.2.2.2.2.2
  refine kw_aload_n (pc := 0) dX4_save_0 rfl ?_
  refine kw_getfield (pc := 1) kfw dX4_save_1 fX4_18 A.1 rfl ?_
  refine kw_aload_n (pc := 4) dX4_save_4 rfl ?_
  refine kw_getfield (pc := 5) kfw dX4_save_5 fX4_11 A.1 rfl ?_
  refine kw_alenV (pc := 8) (v := 6) dX4_save_8 A.2.1 rfl ?_
  refine kw_icmp_lt (tgt := 16) (pc := 9) dX4_save_9 (by decide) (fun h9 => ?_) (fun h9 => ?_)
  · have h9 := (kLtI (a := q) (b := 6) (by omega) (by omega) rfl (rfl : (6 : Int32) = nI 6)).mp h9
    refine tail w q π A (by omega) H (fun w2 h1 h2 w3 h3 => ?_)
    obtain ⟨a1, a2, a3⟩ := A.put (o := o) B (by omega) h1 h2 h3
    have eN : svN q = q + 1 := if_neg (by omega)
    refine ⟨⟨_, by rw [eN]; exact a1, fun i hi => ?_⟩, a3⟩
    rw [eN] at hi
    have := a2 i hi
    unfold svR
    rw [if_neg (by omega)]
    exact this
  · have h9 := mt (kLtI (a := q) (b := 6) (by omega) (by omega) rfl (rfl : (6 : Int32) = nI 6)).mpr h9
    refine kw_aload_n (pc := 12) dX4_save_12 rfl ?_
    obtain rfl : q = 6 := by omega
    refine kw_callVw0 (pc := 13) dX4_save_13 lX4_22 (c4_drop A) A.1 rfl rfl rfl ⟨by decide, by decide, Nat.le_of_ble_eq_true rfl⟩ (fun w1 hw1 => ?_)
    have hw1 : w1 = _ := hw1
    subst hw1
    refine tail _ 5 (rmD 0 6 π) A.drop (by decide) (H.fr (fun k h1 h2 => (kup_ne (by omega)).trans (kup_ne (by omega)))) (fun w2 h1 h2 w3 h3 => ?_)
    obtain ⟨a1, a2, a3⟩ := A.drop.put (o := o) (A.dropR B) (by decide) h1 h2 h3
    refine ⟨⟨_, a1, fun i hi => ?_⟩, fun a h => (a3 a h).trans ((kup_ne (by omega)).trans (kup_ne (by omega)))⟩
    have := a2 i hi
    unfold svR
    rw [if_pos rfl]
    exact this
set_option maxRecDepth 100000 in
set_option maxHeartbeats 4000000 in
theorem c4_restore {w : kM} {v q : Nat} {R : Nat → Nat → Int32} (P : svP w v (q + 1) R) {o : Nat} {s : Nat → Int32} (H : offR w o s) (hd : o + 12 ≤ v ∨ v + 74 ≤ o) : kCtrW mX4_restoreLatest 2 [.ref v, .ref o] w none (fun w' => offR w' o (R q) ∧ svP w' v q R ∧ ∀ a, (a < v ∨ v + 74 ≤ a) → (a < o ∨ o + 12 ≤ a) → w' a = w a) := by
  refine kCtrW.of pl4 nlX4_restoreLatest rfl (Nat.le_of_ble_eq_true rfl) (fun n => ?_)
  obtain ⟨π, A, B⟩ := P
  have hq6 := A.2.2.2.2.2
  have hl := A.2.2.1 q (by omega)
  obtain ⟨c0, σ0, Ho⟩ := H
  obtain ⟨cj, σj, Hj⟩ := B q (by omega)
  refine kw_aload_n (pc := 0) dX4_restoreLatest_0 rfl ?_
  refine kw_getfield (pc := 1) kfw dX4_restoreLatest_1 fX4_18 A.1 rfl ?_
  refine kw_if_le (tgt := 30) (pc := 4) dX4_restoreLatest_4 (by decide) (fun h4 => ?_) (fun h4 => ?_)
  · have h4 := (kLeI (a := (q + 1)) (b := 0) (by omega) (by omega) rfl (rfl : (0 : Int32) = nI 0)).mp h4
    exfalso; omega
  · have h4 := mt (kLeI (a := (q + 1)) (b := 0) (by omega) (by omega) rfl (rfl : (0 : Int32) = nI 0)).mpr h4
    refine kw_aload_n (pc := 7) dX4_restoreLatest_7 rfl ?_
    refine kw_dup (pc := 8) dX4_restoreLatest_8 rfl ?_
    refine kw_getfield (pc := 9) kfw dX4_restoreLatest_9 fX4_18 A.1 rfl ?_
    refine kw_iconst (v := 1) (pc := 12) dX4_restoreLatest_12 (by decide) ?_
    refine kw_isub (pc := 13) dX4_restoreLatest_13 ?_
    refine kw_putfield (pc := 14) kfw dX4_restoreLatest_14 fX4_18 A.1 (fun _ _ => rfl) (fun _ _ => rfl) ?_
    rw [svF_s, kS (a := q + 1) (b := 1) rfl (rfl : (1 : Int32) = nI 1) (by omega), Nat.add_sub_cancel]
    refine kw_aload_n (pc := 17) dX4_restoreLatest_17 rfl ?_
    refine kw_aload_n (pc := 18) dX4_restoreLatest_18 rfl ?_
    refine kw_getfield (pc := 19) kfw dX4_restoreLatest_19 fX4_11 (kup_self _ _ _) rfl ?_
    refine kw_aload_n (pc := 22) dX4_restoreLatest_22 rfl ?_
    refine kw_getfield (pc := 23) kfw dX4_restoreLatest_23 fX4_18 (kup_self _ _ _) rfl ?_
    refine kw_aaloadT (pc := 26) (i := q) dX4_restoreLatest_26 ((kup_ne (by omega)).trans A.2.1) rfl rfl (by omega) (by decide) rfl ?_
    have Ho1 := Ho.fr (w' := kup w v (kO 4 (svF v (nI q)))) (fun k h1 h2 => kup_ne (by omega))
    have Hj1 := Hj.fr (w' := kup w v (kO 4 (svF v (nI q)))) (fun k h1 h2 => kup_ne (by omega))
    refine kw_callVw0 (pc := 27) dX4_restoreLatest_27 lX4_25 (c1_copyFrom Ho1 Hj1 (by omega)) Ho1.ob rfl rfl rfl ⟨by decide, by decide, Nat.le_of_ble_eq_true rfl⟩ (fun w2 hw2 => ?_)
    obtain ⟨h2a, h2b⟩ := hw2
    exact kw_return nlX4_restoreLatest (pc := 30) dX4_restoreLatest_30 rfl ⟨rfl, ⟨⟨_, _, h2a⟩, ⟨π, ⟨(h2b _ (by omega)).trans (kup_self _ _ _), (h2b _ (by omega)).trans ((kup_ne (by omega)).trans A.2.1), A.2.2.1, A.2.2.2.1, fun i hi => (A.2.2.2.2.1 i hi).fr (fun k h1 h2 => by have := A.2.2.1 i hi; exact (h2b _ (by omega)).trans (kup_ne (by omega))), by omega⟩, fun i hi => (B i (by omega)).fr (fun k h1 h2 => by have := A.2.2.1 i (by omega); exact (h2b _ (by omega)).trans (kup_ne (by omega)))⟩, fun a h1 h2 => (h2b _ h2).trans (kup_ne (by omega))⟩, rfl⟩
