theorem c1_stringO {w : kM} {o : Nat} {s : Nat → Int32} {c : Nat} {σ : Nat → Nat} (H : offP w o s c σ) {p : Nat} {P : Nat → Int32} (hp : w p = kO 2 (pF P)) {v : Int32} (e : v = P 6) : kCtrR mX1_stringOf 1 [.ref o, .ref p, .int v] w (.int (pS s P)) := by
  subst e
  have := c1_stringOf H hp (P 6)
  rw [wyP_self] at this
  exact this
theorem c1_reasonO {w : kM} {o : Nat} {s : Nat → Int32} {c : Nat} {σ : Nat → Nat} (H : offP w o s c σ) {p : Nat} {P : Nat → Int32} (hp : w p = kO 2 (pF P)) {v : Int32} (e : v = P 6) : kCtrR mX1_reasonAgainst 1 [.ref o, .ref p, .int v] w (.int (pR s P)) := by
  subst e
  have := c1_reason H hp (P 6)
  rw [wyP_self] at this
  exact this
theorem c1_postageO {w : kM} {o : Nat} {s : Nat → Int32} {c : Nat} {σ : Nat → Nat} (H : offP w o s c σ) {p : Nat} {P : Nat → Int32} (hp : w p = kO 2 (pF P)) {z : Int32} (e : z = pS s P) (hf : fineP s P) : kCtrR mX1_postageFor 2 [.ref o, .ref p, .int z] w (.int (pP s P)) := by
  subst e
  exact c1_postage H hp hf.1 hf.2
theorem c1_isTakenE {w : kM} {o : Nat} {s : Nat → Int32} {c : Nat} {σ : Nat → Nat} (H : offP w o s c σ) {p : Nat} {P : Nat → Int32} (hp : w p = kO 2 (pF P)) : kCtrR mX1_isTaken 2 [.ref o, .ref p] w (.int (b2i (pR s P = 0))) := c1_isTaken H hp
def dpG (s : Nat → Int32) (k : Nat) : Int32 := match dpN s k with
  | none => 0
  | some f => pP s (pa s (21 + 7 * f))
theorem wyS_u {s P : Nat → Int32} {v : Int32} {r : Int32 × Int32} : wyS s P v r = if pR s (wyP P v) = 0 ∧ (r.1 = -1 ∨ pW s P (pS s (wyP P v)) < r.2) then (v, pW s P (pS s (wyP P v))) else r := rfl
set_option maxRecDepth 100000 in
set_option maxHeartbeats 4000000 in
theorem c1_leastWay {w : kM} {o : Nat} {s : Nat → Int32} {c : Nat} {σ : Nat → Nat} (H : offP w o s c σ) {p : Nat} {P : Nat → Int32} (hp : w p = kO 2 (pF P)) (hf : ∀ v, v < 3 → fineP s (wyP P (nI v))) : kCtrR mX1_leastWay 3 [.ref o, .ref p] w (.int (wyF s P)) := by
  refine kCtrR.of pl1 nlX1_leastWay rfl (Nat.le_of_ble_eq_true rfl) (fun n => ?_)
  have loop : ∀ (m : Nat) (v : Nat), m = 3 - v → v ≤ 3 → kW (0, fun _ => 0) mX1_leastWay 3 (fun o' w' n' => o' = .inl (some (.int (wyF s P))) ∧ w' = w ∧ n' = n) 0 0 n w 7 [(0, .ref o), (1, .ref p), (2, .int (wyR s P v).1), (3, .int (wyR s P v).2), (4, .int (nI v))] [] := by
    intro m
    induction m using Nat.strongRecOn with
    | _ m ih =>
      intro v hm hv
      refine kw_iload (pc := 7) dX1_leastWay_7 rfl ?_
      refine kw_iconst (v := 2) (pc := 9) dX1_leastWay_9 (by decide) ?_
      refine kw_icmp_gt (tgt := 60) (pc := 10) dX1_leastWay_10 (by decide) (fun h10 => ?_) (fun h10 => ?_)
      · have h10 := (kLtI (a := 2) (b := v) (by omega) (by omega) (rfl : (2 : Int32) = nI 2) rfl).mp h10
        refine kw_iload_n (pc := 60) dX1_leastWay_60 rfl ?_
        exact kw_ireturn nlX1_leastWay (pc := 61) dX1_leastWay_61 rfl rfl ⟨kv_eq (by rw [show v = 3 by omega]; rfl), rfl, rfl⟩
      · have h10 := mt (kLtI (a := 2) (b := v) (by omega) (by omega) (rfl : (2 : Int32) = nI 2) rfl).mpr h10
        refine kw_aload_n (pc := 13) dX1_leastWay_13 rfl ?_
        refine kw_aload_n (pc := 14) dX1_leastWay_14 rfl ?_
        refine kw_iload (pc := 15) dX1_leastWay_15 rfl ?_
        refine kw_callVr (pc := 17) dX1_leastWay_17 lX1_67 (c1_reason H hp _) H.ob rfl rfl rfl ⟨by decide, by decide, Nat.le_of_ble_eq_true rfl⟩ ?_
        refine kw_if_ne (tgt := 54) (pc := 20) dX1_leastWay_20 (by decide) (fun h20 => ?_) (fun h20 => ?_)
        · refine kw_iinc (pc := 54) dX1_leastWay_54 (by decide) rfl rfl rfl ?_
          refine kw_goto (tgt := 7) (pc := 57) dX1_leastWay_57 (by decide) ?_
          exact kW.locs (ih (3 - (v + 1)) (by omega) (v + 1) rfl (by omega)) ⟨rfl, rfl, kgE rfl (by show _ = (wyS s P (nI v) (wyR s P v)).1; rw [wyS_u]; grind), kgE rfl (by show _ = (wyS s P (nI v) (wyR s P v)).2; rw [wyS_u]; grind), kgE rfl (kA (a := v) (b := 1) rfl (rfl : (Int32.ofInt 1) = nI 1)), trivial⟩
        · refine kw_aload_n (pc := 23) dX1_leastWay_23 rfl ?_
          refine kw_aload_n (pc := 24) dX1_leastWay_24 rfl ?_
          refine kw_aload_n (pc := 25) dX1_leastWay_25 rfl ?_
          refine kw_aload_n (pc := 26) dX1_leastWay_26 rfl ?_
          refine kw_iload (pc := 27) dX1_leastWay_27 rfl ?_
          refine kw_callVr (pc := 29) dX1_leastWay_29 lX1_71 (c1_stringOf H hp _) H.ob rfl rfl rfl ⟨by decide, by decide, Nat.le_of_ble_eq_true rfl⟩ ?_
          refine kw_callVr (pc := 32) dX1_leastWay_32 lX1_84 (c1_postage H hp (hf v (by omega)).1 (hf v (by omega)).2) H.ob rfl rfl rfl ⟨by decide, by decide, Nat.le_of_ble_eq_true rfl⟩ ?_
          refine kw_istore (pc := 35) dX1_leastWay_35 (by decide) rfl ?_
          refine kw_iload_n (pc := 37) dX1_leastWay_37 rfl ?_
          refine kw_iconst (v := -1) (pc := 38) dX1_leastWay_38 (by decide) ?_
          refine kw_icmp_eq (tgt := 48) (pc := 39) dX1_leastWay_39 (by decide) (fun h39 => ?_) (fun h39 => ?_)
          · refine kw_iload (pc := 48) dX1_leastWay_48 rfl ?_
            refine kw_istore_n (pc := 50) dX1_leastWay_50 (by decide) rfl ?_
            refine kw_iload (pc := 51) dX1_leastWay_51 rfl ?_
            refine kw_istore_n (pc := 53) dX1_leastWay_53 (by decide) rfl ?_
            refine kw_iinc (pc := 54) dX1_leastWay_54 (by decide) rfl rfl rfl ?_
            refine kw_goto (tgt := 7) (pc := 57) dX1_leastWay_57 (by decide) ?_
            exact kW.locs (ih (3 - (v + 1)) (by omega) (v + 1) rfl (by omega)) ⟨rfl, rfl, kgE rfl (by show _ = (wyS s P (nI v) (wyR s P v)).1; rw [wyS_u]; grind), kgE rfl (by show _ = (wyS s P (nI v) (wyR s P v)).2; rw [wyS_u]; grind), kgE rfl (kA (a := v) (b := 1) rfl (rfl : (Int32.ofInt 1) = nI 1)), trivial⟩
          · refine kw_iload (pc := 42) dX1_leastWay_42 rfl ?_
            refine kw_iload_n (pc := 44) dX1_leastWay_44 rfl ?_
            refine kw_icmp_ge (tgt := 54) (pc := 45) dX1_leastWay_45 (by decide) (fun h45 => ?_) (fun h45 => ?_)
            · refine kw_iinc (pc := 54) dX1_leastWay_54 (by decide) rfl rfl rfl ?_
              refine kw_goto (tgt := 7) (pc := 57) dX1_leastWay_57 (by decide) ?_
              exact kW.locs (ih (3 - (v + 1)) (by omega) (v + 1) rfl (by omega)) ⟨rfl, rfl, kgE rfl (by show _ = (wyS s P (nI v) (wyR s P v)).1; rw [wyS_u]; grind), kgE rfl (by show _ = (wyS s P (nI v) (wyR s P v)).2; rw [wyS_u]; grind), kgE rfl (kA (a := v) (b := 1) rfl (rfl : (Int32.ofInt 1) = nI 1)), trivial⟩
            · refine kw_iload (pc := 48) dX1_leastWay_48 rfl ?_
              refine kw_istore_n (pc := 50) dX1_leastWay_50 (by decide) rfl ?_
              refine kw_iload (pc := 51) dX1_leastWay_51 rfl ?_
              refine kw_istore_n (pc := 53) dX1_leastWay_53 (by decide) rfl ?_
              refine kw_iinc (pc := 54) dX1_leastWay_54 (by decide) rfl rfl rfl ?_
              refine kw_goto (tgt := 7) (pc := 57) dX1_leastWay_57 (by decide) ?_
              exact kW.locs (ih (3 - (v + 1)) (by omega) (v + 1) rfl (by omega)) ⟨rfl, rfl, kgE rfl (by show _ = (wyS s P (nI v) (wyR s P v)).1; rw [wyS_u]; grind), kgE rfl (by show _ = (wyS s P (nI v) (wyR s P v)).2; rw [wyS_u]; grind), kgE rfl (kA (a := v) (b := 1) rfl (rfl : (Int32.ofInt 1) = nI 1)), trivial⟩
  refine kw_iconst (v := -1) (pc := 0) dX1_leastWay_0 (by decide) ?_
  refine kw_istore_n (pc := 1) dX1_leastWay_1 (by decide) rfl ?_
  refine kw_iconst (v := 0) (pc := 2) dX1_leastWay_2 (by decide) ?_
  refine kw_istore_n (pc := 3) dX1_leastWay_3 (by decide) rfl ?_
  refine kw_iconst (v := 0) (pc := 4) dX1_leastWay_4 (by decide) ?_
  refine kw_istore (pc := 5) dX1_leastWay_5 (by decide) rfl ?_
  exact kW.locs (loop (3 - 0) 0 rfl (by omega)) ⟨rfl, rfl, rfl, rfl, rfl, trivial⟩
theorem dpN_u {s : Nat → Int32} {k : Nat} (hk : k < 100) : dpN s (k + 1) = if pR s (pa s (21 + 7 * k)) = 0 ∧ (oI (dpN s k) = -1 ∨ dpG s k < pP s (pa s (21 + 7 * k))) then some k else dpN s k := by
  have e : ∀ f, dpN s k = some f → f < k := fun f h => dpN_lt h
  show (if pR s (pa s (21 + 7 * k)) = 0 then _ else _) = _
  unfold dpG
  cases hd : dpN s k with
  | none => simp [oI]
  | some f =>
    have := e f hd
    have h2 : ¬ oI (some f) = -1 := oI_ne (by omega)
    by_cases h1 : pR s (pa s (21 + 7 * k)) = 0
    · simp [h1, h2]
    · simp [h1]
theorem dpG_u {s : Nat → Int32} {k : Nat} (hk : k < 100) : dpG s (k + 1) = if pR s (pa s (21 + 7 * k)) = 0 ∧ (oI (dpN s k) = -1 ∨ dpG s k < pP s (pa s (21 + 7 * k))) then pP s (pa s (21 + 7 * k)) else dpG s k := by
  rw [show dpG s (k + 1) = (match dpN s (k + 1) with | none => 0 | some f => pP s (pa s (21 + 7 * f))) from rfl, dpN_u hk]
  by_cases h : pR s (pa s (21 + 7 * k)) = 0 ∧ (oI (dpN s k) = -1 ∨ dpG s k < pP s (pa s (21 + 7 * k)))
  · rw [if_pos h, if_pos h]
  · rw [if_neg h, if_neg h]
    rfl
set_option maxRecDepth 100000 in
set_option maxHeartbeats 4000000 in
theorem c1_dearest {w : kM} {o : Nat} {s : Nat → Int32} {c : Nat} {σ : Nat → Nat} (H : offP w o s c σ) (hf : ∀ k, k < c → fineP s (pa s (21 + 7 * k))) : kCtrR mX1_dearestTaken 3 [.ref o] w (.int (oI (dpN s c))) := by
  refine kCtrR.of pl1 nlX1_dearestTaken rfl (Nat.le_of_ble_eq_true rfl) (fun n => ?_)
  have h7 := H.c7
  have loop : ∀ (m : Nat) (k : Nat), m = c - k → k ≤ c → kW (0, fun _ => 0) mX1_dearestTaken 3 (fun o' w' n' => o' = .inl (some (.int (oI (dpN s c)))) ∧ w' = w ∧ n' = n) 0 0 n w 6 [(0, .ref o), (1, .int (oI (dpN s k))), (2, .int (dpG s k)), (3, .int (nI k))] [] := by
    intro m
    induction m using Nat.strongRecOn with
    | _ m ih =>
      intro k hm hk
      refine kw_iload_n (pc := 6) dX1_dearestTaken_6 rfl ?_
      refine kw_aload_n (pc := 7) dX1_dearestTaken_7 rfl ?_
      refine kw_getfield (pc := 8) kfw dX1_dearestTaken_8 fX1_31 H.ob rfl ?_
      refine kw_icmp_ge (tgt := 81) (pc := 11) dX1_dearestTaken_11 (by decide) (fun h11 => ?_) (fun h11 => ?_)
      · have h11 := (kLeI (a := c) (b := k) (by omega) (by omega) H.sz rfl).mp h11
        refine kw_iload_n (pc := 81) dX1_dearestTaken_81 rfl ?_
        exact kw_ireturn nlX1_dearestTaken (pc := 82) dX1_dearestTaken_82 rfl rfl ⟨kv_eq (by rw [show k = c by omega]), rfl, rfl⟩
      · have h11 := mt (kLeI (a := c) (b := k) (by omega) (by omega) H.sz rfl).mpr h11
        refine kw_iload_n (pc := 14) dX1_dearestTaken_14 rfl ?_
        refine kw_aload_n (pc := 15) dX1_dearestTaken_15 rfl ?_
        refine kw_getfield (pc := 16) kfw dX1_dearestTaken_16 fX1_11 H.ob rfl ?_
        refine kw_alenV (pc := 19) (v := 7) dX1_dearestTaken_19 H.ps rfl ?_
        refine kw_icmp_ge (tgt := 81) (pc := 20) dX1_dearestTaken_20 (by decide) (fun h20 => ?_) (fun h20 => ?_)
        · have h20 := (kLeI (a := 7) (b := k) (by omega) (by omega) (rfl : (7 : Int32) = nI 7) rfl).mp h20
          exfalso; omega
        · have h20 := mt (kLeI (a := 7) (b := k) (by omega) (by omega) (rfl : (7 : Int32) = nI 7) rfl).mpr h20
          refine kw_aload_n (pc := 23) dX1_dearestTaken_23 rfl ?_
          refine kw_getfield (pc := 24) kfw dX1_dearestTaken_24 fX1_11 H.ob rfl ?_
          refine kw_iload_n (pc := 27) dX1_dearestTaken_27 rfl ?_
          refine kw_aaloadT (pc := 28) (i := k) dX1_dearestTaken_28 H.ps rfl rfl (by omega) (by decide) rfl ?_
          refine kw_astore (pc := 29) dX1_dearestTaken_29 (by decide) rfl ?_
          refine kw_aload_n (pc := 31) dX1_dearestTaken_31 rfl ?_
          refine kw_aload (pc := 32) dX1_dearestTaken_32 rfl ?_
          refine kw_aload_n (pc := 34) dX1_dearestTaken_34 rfl ?_
          refine kw_aload (pc := 35) dX1_dearestTaken_35 rfl ?_
          refine kw_aload (pc := 37) dX1_dearestTaken_37 rfl ?_
          refine kw_getfield (pc := 39) kfw dX1_dearestTaken_39 fX1_64 (H.par k (by omega)) rfl ?_
          refine kw_callVr (pc := 42) dX1_dearestTaken_42 lX1_71 (c1_stringO H (H.par k (by omega)) rfl) H.ob rfl rfl rfl ⟨by decide, by decide, Nat.le_of_ble_eq_true rfl⟩ ?_
          refine kw_callVr (pc := 45) dX1_dearestTaken_45 lX1_84 (c1_postageO H (H.par k (by omega)) rfl (hf k (by omega))) H.ob rfl rfl rfl ⟨by decide, by decide, Nat.le_of_ble_eq_true rfl⟩ ?_
          refine kw_istore (pc := 48) dX1_dearestTaken_48 (by decide) rfl ?_
          refine kw_aload_n (pc := 50) dX1_dearestTaken_50 rfl ?_
          refine kw_aload (pc := 51) dX1_dearestTaken_51 rfl ?_
          refine kw_callVr (pc := 53) dX1_dearestTaken_53 lX1_120 (c1_isTaken H (H.par k (by omega))) H.ob rfl rfl rfl ⟨by decide, by decide, Nat.le_of_ble_eq_true rfl⟩ ?_
          refine kw_if_eq (tgt := 75) (pc := 56) dX1_dearestTaken_56 (by decide) (fun h56 => ?_) (fun h56 => ?_)
          · refine kw_iinc (pc := 75) dX1_dearestTaken_75 (by decide) rfl rfl rfl ?_
            refine kw_goto (tgt := 6) (pc := 78) dX1_dearestTaken_78 (by decide) ?_
            exact kW.locs (ih (c - (k + 1)) (by omega) (k + 1) rfl (by omega)) ⟨rfl, kgE rfl (by rw [dpN_u (by have := H.c7; omega)]; grind [oI, b2i]), kgE rfl (by rw [dpG_u (by have := H.c7; omega)]; grind [b2i]), kgE rfl (kA (a := k) (b := 1) rfl (rfl : (Int32.ofInt 1) = nI 1)), trivial⟩
          · refine kw_iload_n (pc := 59) dX1_dearestTaken_59 rfl ?_
            refine kw_iconst (v := -1) (pc := 60) dX1_dearestTaken_60 (by decide) ?_
            refine kw_icmp_eq (tgt := 70) (pc := 61) dX1_dearestTaken_61 (by decide) (fun h61 => ?_) (fun h61 => ?_)
            · refine kw_iload_n (pc := 70) dX1_dearestTaken_70 rfl ?_
              refine kw_istore_n (pc := 71) dX1_dearestTaken_71 (by decide) rfl ?_
              refine kw_iload (pc := 72) dX1_dearestTaken_72 rfl ?_
              refine kw_istore_n (pc := 74) dX1_dearestTaken_74 (by decide) rfl ?_
              refine kw_iinc (pc := 75) dX1_dearestTaken_75 (by decide) rfl rfl rfl ?_
              refine kw_goto (tgt := 6) (pc := 78) dX1_dearestTaken_78 (by decide) ?_
              exact kW.locs (ih (c - (k + 1)) (by omega) (k + 1) rfl (by omega)) ⟨rfl, kgE rfl (by rw [dpN_u (by have := H.c7; omega)]; grind [oI, b2i]), kgE rfl (by rw [dpG_u (by have := H.c7; omega)]; grind [b2i]), kgE rfl (kA (a := k) (b := 1) rfl (rfl : (Int32.ofInt 1) = nI 1)), trivial⟩
            · refine kw_iload (pc := 64) dX1_dearestTaken_64 rfl ?_
              refine kw_iload_n (pc := 66) dX1_dearestTaken_66 rfl ?_
              refine kw_icmp_le (tgt := 75) (pc := 67) dX1_dearestTaken_67 (by decide) (fun h67 => ?_) (fun h67 => ?_)
              · refine kw_iinc (pc := 75) dX1_dearestTaken_75 (by decide) rfl rfl rfl ?_
                refine kw_goto (tgt := 6) (pc := 78) dX1_dearestTaken_78 (by decide) ?_
                exact kW.locs (ih (c - (k + 1)) (by omega) (k + 1) rfl (by omega)) ⟨rfl, kgE rfl (by rw [dpN_u (by have := H.c7; omega)]; grind [oI, b2i]), kgE rfl (by rw [dpG_u (by have := H.c7; omega)]; grind [b2i]), kgE rfl (kA (a := k) (b := 1) rfl (rfl : (Int32.ofInt 1) = nI 1)), trivial⟩
              · refine kw_iload_n (pc := 70) dX1_dearestTaken_70 rfl ?_
                refine kw_istore_n (pc := 71) dX1_dearestTaken_71 (by decide) rfl ?_
                refine kw_iload (pc := 72) dX1_dearestTaken_72 rfl ?_
                refine kw_istore_n (pc := 74) dX1_dearestTaken_74 (by decide) rfl ?_
                refine kw_iinc (pc := 75) dX1_dearestTaken_75 (by decide) rfl rfl rfl ?_
                refine kw_goto (tgt := 6) (pc := 78) dX1_dearestTaken_78 (by decide) ?_
                exact kW.locs (ih (c - (k + 1)) (by omega) (k + 1) rfl (by omega)) ⟨rfl, kgE rfl (by rw [dpN_u (by have := H.c7; omega)]; grind [oI, b2i]), kgE rfl (by rw [dpG_u (by have := H.c7; omega)]; grind [b2i]), kgE rfl (kA (a := k) (b := 1) rfl (rfl : (Int32.ofInt 1) = nI 1)), trivial⟩
  refine kw_iconst (v := -1) (pc := 0) dX1_dearestTaken_0 (by decide) ?_
  refine kw_istore_n (pc := 1) dX1_dearestTaken_1 (by decide) rfl ?_
  refine kw_iconst (v := 0) (pc := 2) dX1_dearestTaken_2 (by decide) ?_
  refine kw_istore_n (pc := 3) dX1_dearestTaken_3 (by decide) rfl ?_
  refine kw_iconst (v := 0) (pc := 4) dX1_dearestTaken_4 (by decide) ?_
  refine kw_istore_n (pc := 5) dX1_dearestTaken_5 (by decide) rfl ?_
  exact kW.locs (loop (c - 0) 0 rfl (by omega)) ⟨rfl, rfl, rfl, rfl, trivial⟩
set_option maxRecDepth 100000 in
set_option maxHeartbeats 4000000 in
theorem c1_taken {w : kM} {o : Nat} {s : Nat → Int32} {c : Nat} {σ : Nat → Nat} (H : offP w o s c σ) : kCtrR mX1_takenParcels 3 [.ref o] w (.int (cntN 0 s c)) := by
  refine kCtrR.of pl1 nlX1_takenParcels rfl (Nat.le_of_ble_eq_true rfl) (fun n => ?_)
  have h7 := H.c7
  have loop : ∀ (m : Nat) (k : Nat), m = c - k → k ≤ c → kW (0, fun _ => 0) mX1_takenParcels 3 (fun o' w' n' => o' = .inl (some (.int (cntN 0 s c))) ∧ w' = w ∧ n' = n) 0 0 n w 4 [(0, .ref o), (1, .int (cntN 0 s k)), (2, .int (nI k))] [] := by
    intro m
    induction m using Nat.strongRecOn with
    | _ m ih =>
      intro k hm hk
      refine kw_iload_n (pc := 4) dX1_takenParcels_4 rfl ?_
      refine kw_aload_n (pc := 5) dX1_takenParcels_5 rfl ?_
      refine kw_getfield (pc := 6) kfw dX1_takenParcels_6 fX1_31 H.ob rfl ?_
      refine kw_icmp_ge (tgt := 43) (pc := 9) dX1_takenParcels_9 (by decide) (fun h9 => ?_) (fun h9 => ?_)
      · have h9 := (kLeI (a := c) (b := k) (by omega) (by omega) H.sz rfl).mp h9
        refine kw_iload_n (pc := 43) dX1_takenParcels_43 rfl ?_
        exact kw_ireturn nlX1_takenParcels (pc := 44) dX1_takenParcels_44 rfl rfl ⟨kv_eq (by rw [show k = c by omega]), rfl, rfl⟩
      · have h9 := mt (kLeI (a := c) (b := k) (by omega) (by omega) H.sz rfl).mpr h9
        refine kw_iload_n (pc := 12) dX1_takenParcels_12 rfl ?_
        refine kw_aload_n (pc := 13) dX1_takenParcels_13 rfl ?_
        refine kw_getfield (pc := 14) kfw dX1_takenParcels_14 fX1_11 H.ob rfl ?_
        refine kw_alenV (pc := 17) (v := 7) dX1_takenParcels_17 H.ps rfl ?_
        refine kw_icmp_ge (tgt := 43) (pc := 18) dX1_takenParcels_18 (by decide) (fun h18 => ?_) (fun h18 => ?_)
        · have h18 := (kLeI (a := 7) (b := k) (by omega) (by omega) (rfl : (7 : Int32) = nI 7) rfl).mp h18
          exfalso; omega
        · have h18 := mt (kLeI (a := 7) (b := k) (by omega) (by omega) (rfl : (7 : Int32) = nI 7) rfl).mpr h18
          refine kw_aload_n (pc := 21) dX1_takenParcels_21 rfl ?_
          refine kw_aload_n (pc := 22) dX1_takenParcels_22 rfl ?_
          refine kw_getfield (pc := 23) kfw dX1_takenParcels_23 fX1_11 H.ob rfl ?_
          refine kw_iload_n (pc := 26) dX1_takenParcels_26 rfl ?_
          refine kw_aaloadT (pc := 27) (i := k) dX1_takenParcels_27 H.ps rfl rfl (by omega) (by decide) rfl ?_
          refine kw_callVr (pc := 28) dX1_takenParcels_28 lX1_120 (c1_isTaken H (H.par k (by omega))) H.ob rfl rfl rfl ⟨by decide, by decide, Nat.le_of_ble_eq_true rfl⟩ ?_
          refine kw_if_eq (tgt := 37) (pc := 31) dX1_takenParcels_31 (by decide) (fun h31 => ?_) (fun h31 => ?_)
          · refine kw_iinc (pc := 37) dX1_takenParcels_37 (by decide) rfl rfl rfl ?_
            refine kw_goto (tgt := 4) (pc := 40) dX1_takenParcels_40 (by decide) ?_
            exact kW.locs (ih (c - (k + 1)) (by omega) (k + 1) rfl (by omega)) ⟨rfl, kgE rfl (by grind [cntN, b2i]), kgE rfl (kA (a := k) (b := 1) rfl (rfl : (Int32.ofInt 1) = nI 1)), trivial⟩
          · refine kw_iinc (pc := 34) dX1_takenParcels_34 (by decide) rfl rfl rfl ?_
            refine kw_iinc (pc := 37) dX1_takenParcels_37 (by decide) rfl rfl rfl ?_
            refine kw_goto (tgt := 4) (pc := 40) dX1_takenParcels_40 (by decide) ?_
            exact kW.locs (ih (c - (k + 1)) (by omega) (k + 1) rfl (by omega)) ⟨rfl, kgE rfl (by grind [cntN, b2i]), kgE rfl (kA (a := k) (b := 1) rfl (rfl : (Int32.ofInt 1) = nI 1)), trivial⟩
  refine kw_iconst (v := 0) (pc := 0) dX1_takenParcels_0 (by decide) ?_
  refine kw_istore_n (pc := 1) dX1_takenParcels_1 (by decide) rfl ?_
  refine kw_iconst (v := 0) (pc := 2) dX1_takenParcels_2 (by decide) ?_
  refine kw_istore_n (pc := 3) dX1_takenParcels_3 (by decide) rfl ?_
  exact kW.locs (loop (c - 0) 0 rfl (by omega)) ⟨rfl, rfl, rfl, trivial⟩
set_option maxRecDepth 100000 in
set_option maxHeartbeats 4000000 in
theorem c1_odd {w : kM} {o : Nat} {s : Nat → Int32} {c : Nat} {σ : Nat → Nat} (H : offP w o s c σ) : kCtrR mX1_oddParcels 3 [.ref o] w (.int (cntN 1 s c)) := by
  refine kCtrR.of pl1 nlX1_oddParcels rfl (Nat.le_of_ble_eq_true rfl) (fun n => ?_)
  have h7 := H.c7
  have loop : ∀ (m : Nat) (k : Nat), m = c - k → k ≤ c → kW (0, fun _ => 0) mX1_oddParcels 3 (fun o' w' n' => o' = .inl (some (.int (cntN 1 s c))) ∧ w' = w ∧ n' = n) 0 0 n w 4 [(0, .ref o), (1, .int (cntN 1 s k)), (2, .int (nI k))] [] := by
    intro m
    induction m using Nat.strongRecOn with
    | _ m ih =>
      intro k hm hk
      refine kw_iload_n (pc := 4) dX1_oddParcels_4 rfl ?_
      refine kw_aload_n (pc := 5) dX1_oddParcels_5 rfl ?_
      refine kw_getfield (pc := 6) kfw dX1_oddParcels_6 fX1_31 H.ob rfl ?_
      refine kw_icmp_ge (tgt := 43) (pc := 9) dX1_oddParcels_9 (by decide) (fun h9 => ?_) (fun h9 => ?_)
      · have h9 := (kLeI (a := c) (b := k) (by omega) (by omega) H.sz rfl).mp h9
        refine kw_iload_n (pc := 43) dX1_oddParcels_43 rfl ?_
        exact kw_ireturn nlX1_oddParcels (pc := 44) dX1_oddParcels_44 rfl rfl ⟨kv_eq (by rw [show k = c by omega]), rfl, rfl⟩
      · have h9 := mt (kLeI (a := c) (b := k) (by omega) (by omega) H.sz rfl).mpr h9
        refine kw_iload_n (pc := 12) dX1_oddParcels_12 rfl ?_
        refine kw_aload_n (pc := 13) dX1_oddParcels_13 rfl ?_
        refine kw_getfield (pc := 14) kfw dX1_oddParcels_14 fX1_11 H.ob rfl ?_
        refine kw_alenV (pc := 17) (v := 7) dX1_oddParcels_17 H.ps rfl ?_
        refine kw_icmp_ge (tgt := 43) (pc := 18) dX1_oddParcels_18 (by decide) (fun h18 => ?_) (fun h18 => ?_)
        · have h18 := (kLeI (a := 7) (b := k) (by omega) (by omega) (rfl : (7 : Int32) = nI 7) rfl).mp h18
          exfalso; omega
        · have h18 := mt (kLeI (a := 7) (b := k) (by omega) (by omega) (rfl : (7 : Int32) = nI 7) rfl).mpr h18
          refine kw_aload_n (pc := 21) dX1_oddParcels_21 rfl ?_
          refine kw_aload_n (pc := 22) dX1_oddParcels_22 rfl ?_
          refine kw_getfield (pc := 23) kfw dX1_oddParcels_23 fX1_11 H.ob rfl ?_
          refine kw_iload_n (pc := 26) dX1_oddParcels_26 rfl ?_
          refine kw_aaloadT (pc := 27) (i := k) dX1_oddParcels_27 H.ps rfl rfl (by omega) (by decide) rfl ?_
          refine kw_callVr (pc := 28) dX1_oddParcels_28 lX1_110 (c1_isOdd H (H.par k (by omega))) H.ob rfl rfl rfl ⟨by decide, by decide, Nat.le_of_ble_eq_true rfl⟩ ?_
          refine kw_if_eq (tgt := 37) (pc := 31) dX1_oddParcels_31 (by decide) (fun h31 => ?_) (fun h31 => ?_)
          · refine kw_iinc (pc := 37) dX1_oddParcels_37 (by decide) rfl rfl rfl ?_
            refine kw_goto (tgt := 4) (pc := 40) dX1_oddParcels_40 (by decide) ?_
            exact kW.locs (ih (c - (k + 1)) (by omega) (k + 1) rfl (by omega)) ⟨rfl, kgE rfl (by grind [cntN, b2i]), kgE rfl (kA (a := k) (b := 1) rfl (rfl : (Int32.ofInt 1) = nI 1)), trivial⟩
          · refine kw_iinc (pc := 34) dX1_oddParcels_34 (by decide) rfl rfl rfl ?_
            refine kw_iinc (pc := 37) dX1_oddParcels_37 (by decide) rfl rfl rfl ?_
            refine kw_goto (tgt := 4) (pc := 40) dX1_oddParcels_40 (by decide) ?_
            exact kW.locs (ih (c - (k + 1)) (by omega) (k + 1) rfl (by omega)) ⟨rfl, kgE rfl (by grind [cntN, b2i]), kgE rfl (kA (a := k) (b := 1) rfl (rfl : (Int32.ofInt 1) = nI 1)), trivial⟩
  refine kw_iconst (v := 0) (pc := 0) dX1_oddParcels_0 (by decide) ?_
  refine kw_istore_n (pc := 1) dX1_oddParcels_1 (by decide) rfl ?_
  refine kw_iconst (v := 0) (pc := 2) dX1_oddParcels_2 (by decide) ?_
  refine kw_istore_n (pc := 3) dX1_oddParcels_3 (by decide) rfl ?_
  exact kW.locs (loop (c - 0) 0 rfl (by omega)) ⟨rfl, rfl, rfl, trivial⟩
set_option maxRecDepth 100000 in
set_option maxHeartbeats 4000000 in
theorem c1_undercut {w : kM} {o : Nat} {s : Nat → Int32} {c : Nat} {σ : Nat → Nat} (H : offP w o s c σ) : kCtrR mX1_undercutBands 2 [.ref o] w (.int (lowN s 12)) := by
  refine kCtrR.of pl1 nlX1_undercutBands rfl (Nat.le_of_ble_eq_true rfl) (fun n => ?_)
  have loop : ∀ (m : Nat) (k : Nat), m = 12 - k → k ≤ 12 → kW (0, fun _ => 0) mX1_undercutBands 2 (fun o' w' n' => o' = .inl (some (.int (lowN s 12))) ∧ w' = w ∧ n' = n) 0 0 n w 6 [(0, .ref o), (1, .int (lowN s k)), (2, .int (rM s k)), (3, .int (nI k))] [] := by
    intro m
    induction m using Nat.strongRecOn with
    | _ m ih =>
      intro k hm hk
      refine kw_iload_n (pc := 6) dX1_undercutBands_6 rfl ?_
      refine kw_aload_n (pc := 7) dX1_undercutBands_7 rfl ?_
      refine kw_getfield (pc := 8) kfw dX1_undercutBands_8 fX1_17 H.ob rfl ?_
      refine kw_alenI (pc := 11) (v := 12) dX1_undercutBands_11 H.pr rfl ?_
      refine kw_icmp_ge (tgt := 45) (pc := 12) dX1_undercutBands_12 (by decide) (fun h12 => ?_) (fun h12 => ?_)
      · have h12 := (kLeI (a := 12) (b := k) (by omega) (by omega) (rfl : (12 : Int32) = nI 12) rfl).mp h12
        refine kw_iload_n (pc := 45) dX1_undercutBands_45 rfl ?_
        exact kw_ireturn nlX1_undercutBands (pc := 46) dX1_undercutBands_46 rfl rfl ⟨kv_eq (by rw [show k = 12 by omega]), rfl, rfl⟩
      · have h12 := mt (kLeI (a := 12) (b := k) (by omega) (by omega) (rfl : (12 : Int32) = nI 12) rfl).mpr h12
        refine kw_aload_n (pc := 15) dX1_undercutBands_15 rfl ?_
        refine kw_getfield (pc := 16) kfw dX1_undercutBands_16 fX1_17 H.ob rfl ?_
        refine kw_iload_n (pc := 19) dX1_undercutBands_19 rfl ?_
        refine kw_ialoadT (pc := 20) (i := k) dX1_undercutBands_20 H.pr rfl (by omega) (by decide) ?_
        refine kw_iload_n (pc := 21) dX1_undercutBands_21 rfl ?_
        refine kw_icmp_ge (tgt := 28) (pc := 22) dX1_undercutBands_22 (by decide) (fun h22 => ?_) (fun h22 => ?_)
        · refine kw_iload_n (pc := 28) dX1_undercutBands_28 rfl ?_
          refine kw_aload_n (pc := 29) dX1_undercutBands_29 rfl ?_
          refine kw_getfield (pc := 30) kfw dX1_undercutBands_30 fX1_17 H.ob rfl ?_
          refine kw_iload_n (pc := 33) dX1_undercutBands_33 rfl ?_
          refine kw_ialoadT (pc := 34) (i := k) dX1_undercutBands_34 H.pr rfl (by omega) (by decide) ?_
          refine kw_mmax (pc := 35) dX1_undercutBands_35 lX1_117 (by decide) (by decide) ?_
          refine kw_istore_n (pc := 38) dX1_undercutBands_38 (by decide) rfl ?_
          refine kw_iinc (pc := 39) dX1_undercutBands_39 (by decide) rfl rfl rfl ?_
          refine kw_goto (tgt := 6) (pc := 42) dX1_undercutBands_42 (by decide) ?_
          exact kW.locs (ih (12 - (k + 1)) (by omega) (k + 1) rfl (by omega)) ⟨rfl, kgE rfl (by grind [lowN]), kgE rfl rfl, kgE rfl (kA (a := k) (b := 1) rfl (rfl : (Int32.ofInt 1) = nI 1)), trivial⟩
        · refine kw_iinc (pc := 25) dX1_undercutBands_25 (by decide) rfl rfl rfl ?_
          refine kw_iload_n (pc := 28) dX1_undercutBands_28 rfl ?_
          refine kw_aload_n (pc := 29) dX1_undercutBands_29 rfl ?_
          refine kw_getfield (pc := 30) kfw dX1_undercutBands_30 fX1_17 H.ob rfl ?_
          refine kw_iload_n (pc := 33) dX1_undercutBands_33 rfl ?_
          refine kw_ialoadT (pc := 34) (i := k) dX1_undercutBands_34 H.pr rfl (by omega) (by decide) ?_
          refine kw_mmax (pc := 35) dX1_undercutBands_35 lX1_117 (by decide) (by decide) ?_
          refine kw_istore_n (pc := 38) dX1_undercutBands_38 (by decide) rfl ?_
          refine kw_iinc (pc := 39) dX1_undercutBands_39 (by decide) rfl rfl rfl ?_
          refine kw_goto (tgt := 6) (pc := 42) dX1_undercutBands_42 (by decide) ?_
          exact kW.locs (ih (12 - (k + 1)) (by omega) (k + 1) rfl (by omega)) ⟨rfl, kgE rfl (by grind [lowN]), kgE rfl rfl, kgE rfl (kA (a := k) (b := 1) rfl (rfl : (Int32.ofInt 1) = nI 1)), trivial⟩
  refine kw_iconst (v := 0) (pc := 0) dX1_undercutBands_0 (by decide) ?_
  refine kw_istore_n (pc := 1) dX1_undercutBands_1 (by decide) rfl ?_
  refine kw_iconst (v := 0) (pc := 2) dX1_undercutBands_2 (by decide) ?_
  refine kw_istore_n (pc := 3) dX1_undercutBands_3 (by decide) rfl ?_
  refine kw_iconst (v := 0) (pc := 4) dX1_undercutBands_4 (by decide) ?_
  refine kw_istore_n (pc := 5) dX1_undercutBands_5 (by decide) rfl ?_
  exact kW.locs (loop (12 - 0) 0 rfl (by omega)) ⟨rfl, rfl, rfl, rfl, trivial⟩
set_option maxRecDepth 100000 in
set_option maxHeartbeats 4000000 in
theorem c1_number_0 {w : kM} {o : Nat} {s : Nat → Int32} {c : Nat} {σ : Nat → Nat} (H : offP w o s c σ) {p : Nat} {P : Nat → Int32} (hp : w p = kO 2 (pF P)) (hf : fineP s P) : kCtrR mX1_numberOf 3 [.ref o, .ref p, .int (nI 0)] w (.int (prp s P 0)) := by
  refine kCtrR.of pl1 nlX1_numberOf rfl (Nat.le_of_ble_eq_true rfl) (fun n => ?_)
  refine kw_iload_n (pc := 0) dX1_numberOf_0 rfl ?_
  refine kw_tableIn (off := 55) (tgt := 56) (pc := 1) dX1_numberOf_1 (by decide) (by decide) (by decide) (by decide) ?_
  refine kw_aload_n (pc := 56) dX1_numberOf_56 rfl ?_
  refine kw_getfield (pc := 57) kfw dX1_numberOf_57 fX1_123 hp rfl ?_
  exact kw_ireturn nlX1_numberOf (pc := 60) dX1_numberOf_60 rfl rfl ⟨rfl, rfl, rfl⟩
set_option maxRecDepth 100000 in
set_option maxHeartbeats 4000000 in
theorem c1_number_1 {w : kM} {o : Nat} {s : Nat → Int32} {c : Nat} {σ : Nat → Nat} (H : offP w o s c σ) {p : Nat} {P : Nat → Int32} (hp : w p = kO 2 (pF P)) (hf : fineP s P) : kCtrR mX1_numberOf 3 [.ref o, .ref p, .int (nI 1)] w (.int (prp s P 1)) := by
  refine kCtrR.of pl1 nlX1_numberOf rfl (Nat.le_of_ble_eq_true rfl) (fun n => ?_)
  refine kw_iload_n (pc := 0) dX1_numberOf_0 rfl ?_
  refine kw_tableIn (off := 60) (tgt := 61) (pc := 1) dX1_numberOf_1 (by decide) (by decide) (by decide) (by decide) ?_
  refine kw_aload_n (pc := 61) dX1_numberOf_61 rfl ?_
  refine kw_getfield (pc := 62) kfw dX1_numberOf_62 fX1_126 hp rfl ?_
  exact kw_ireturn nlX1_numberOf (pc := 65) dX1_numberOf_65 rfl rfl ⟨rfl, rfl, rfl⟩
set_option maxRecDepth 100000 in
set_option maxHeartbeats 4000000 in
theorem c1_number_2 {w : kM} {o : Nat} {s : Nat → Int32} {c : Nat} {σ : Nat → Nat} (H : offP w o s c σ) {p : Nat} {P : Nat → Int32} (hp : w p = kO 2 (pF P)) (hf : fineP s P) : kCtrR mX1_numberOf 3 [.ref o, .ref p, .int (nI 2)] w (.int (prp s P 2)) := by
  refine kCtrR.of pl1 nlX1_numberOf rfl (Nat.le_of_ble_eq_true rfl) (fun n => ?_)
  refine kw_iload_n (pc := 0) dX1_numberOf_0 rfl ?_
  refine kw_tableIn (off := 65) (tgt := 66) (pc := 1) dX1_numberOf_1 (by decide) (by decide) (by decide) (by decide) ?_
  refine kw_aload_n (pc := 66) dX1_numberOf_66 rfl ?_
  refine kw_getfield (pc := 67) kfw dX1_numberOf_67 fX1_129 hp rfl ?_
  exact kw_ireturn nlX1_numberOf (pc := 70) dX1_numberOf_70 rfl rfl ⟨rfl, rfl, rfl⟩
set_option maxRecDepth 100000 in
set_option maxHeartbeats 4000000 in
theorem c1_number_3 {w : kM} {o : Nat} {s : Nat → Int32} {c : Nat} {σ : Nat → Nat} (H : offP w o s c σ) {p : Nat} {P : Nat → Int32} (hp : w p = kO 2 (pF P)) (hf : fineP s P) : kCtrR mX1_numberOf 3 [.ref o, .ref p, .int (nI 3)] w (.int (prp s P 3)) := by
  refine kCtrR.of pl1 nlX1_numberOf rfl (Nat.le_of_ble_eq_true rfl) (fun n => ?_)
  refine kw_iload_n (pc := 0) dX1_numberOf_0 rfl ?_
  refine kw_tableIn (off := 70) (tgt := 71) (pc := 1) dX1_numberOf_1 (by decide) (by decide) (by decide) (by decide) ?_
  refine kw_aload_n (pc := 71) dX1_numberOf_71 rfl ?_
  refine kw_getfield (pc := 72) kfw dX1_numberOf_72 fX1_98 hp rfl ?_
  exact kw_ireturn nlX1_numberOf (pc := 75) dX1_numberOf_75 rfl rfl ⟨rfl, rfl, rfl⟩
set_option maxRecDepth 100000 in
set_option maxHeartbeats 4000000 in
theorem c1_number_4 {w : kM} {o : Nat} {s : Nat → Int32} {c : Nat} {σ : Nat → Nat} (H : offP w o s c σ) {p : Nat} {P : Nat → Int32} (hp : w p = kO 2 (pF P)) (hf : fineP s P) : kCtrR mX1_numberOf 3 [.ref o, .ref p, .int (nI 4)] w (.int (prp s P 4)) := by
  refine kCtrR.of pl1 nlX1_numberOf rfl (Nat.le_of_ble_eq_true rfl) (fun n => ?_)
  refine kw_iload_n (pc := 0) dX1_numberOf_0 rfl ?_
  refine kw_tableIn (off := 75) (tgt := 76) (pc := 1) dX1_numberOf_1 (by decide) (by decide) (by decide) (by decide) ?_
  refine kw_aload_n (pc := 76) dX1_numberOf_76 rfl ?_
  refine kw_getfield (pc := 77) kfw dX1_numberOf_77 fX1_107 hp rfl ?_
  exact kw_ireturn nlX1_numberOf (pc := 80) dX1_numberOf_80 rfl rfl ⟨rfl, rfl, rfl⟩
set_option maxRecDepth 100000 in
set_option maxHeartbeats 4000000 in
theorem c1_number_5 {w : kM} {o : Nat} {s : Nat → Int32} {c : Nat} {σ : Nat → Nat} (H : offP w o s c σ) {p : Nat} {P : Nat → Int32} (hp : w p = kO 2 (pF P)) (hf : fineP s P) : kCtrR mX1_numberOf 3 [.ref o, .ref p, .int (nI 5)] w (.int (prp s P 5)) := by
  refine kCtrR.of pl1 nlX1_numberOf rfl (Nat.le_of_ble_eq_true rfl) (fun n => ?_)
  refine kw_iload_n (pc := 0) dX1_numberOf_0 rfl ?_
  refine kw_tableIn (off := 80) (tgt := 81) (pc := 1) dX1_numberOf_1 (by decide) (by decide) (by decide) (by decide) ?_
  refine kw_aload_n (pc := 81) dX1_numberOf_81 rfl ?_
  refine kw_getfield (pc := 82) kfw dX1_numberOf_82 fX1_101 hp rfl ?_
  exact kw_ireturn nlX1_numberOf (pc := 85) dX1_numberOf_85 rfl rfl ⟨rfl, rfl, rfl⟩
set_option maxRecDepth 100000 in
set_option maxHeartbeats 4000000 in
theorem c1_number_6 {w : kM} {o : Nat} {s : Nat → Int32} {c : Nat} {σ : Nat → Nat} (H : offP w o s c σ) {p : Nat} {P : Nat → Int32} (hp : w p = kO 2 (pF P)) (hf : fineP s P) : kCtrR mX1_numberOf 3 [.ref o, .ref p, .int (nI 6)] w (.int (prp s P 6)) := by
  refine kCtrR.of pl1 nlX1_numberOf rfl (Nat.le_of_ble_eq_true rfl) (fun n => ?_)
  refine kw_iload_n (pc := 0) dX1_numberOf_0 rfl ?_
  refine kw_tableIn (off := 85) (tgt := 86) (pc := 1) dX1_numberOf_1 (by decide) (by decide) (by decide) (by decide) ?_
  refine kw_aload_n (pc := 86) dX1_numberOf_86 rfl ?_
  refine kw_getfield (pc := 87) kfw dX1_numberOf_87 fX1_64 hp rfl ?_
  exact kw_ireturn nlX1_numberOf (pc := 90) dX1_numberOf_90 rfl rfl ⟨rfl, rfl, rfl⟩
set_option maxRecDepth 100000 in
set_option maxHeartbeats 4000000 in
theorem c1_number_7 {w : kM} {o : Nat} {s : Nat → Int32} {c : Nat} {σ : Nat → Nat} (H : offP w o s c σ) {p : Nat} {P : Nat → Int32} (hp : w p = kO 2 (pF P)) (hf : fineP s P) : kCtrR mX1_numberOf 3 [.ref o, .ref p, .int (nI 7)] w (.int (prp s P 7)) := by
  refine kCtrR.of pl1 nlX1_numberOf rfl (Nat.le_of_ble_eq_true rfl) (fun n => ?_)
  refine kw_iload_n (pc := 0) dX1_numberOf_0 rfl ?_
  refine kw_tableIn (off := 90) (tgt := 91) (pc := 1) dX1_numberOf_1 (by decide) (by decide) (by decide) (by decide) ?_
  refine kw_aload_n (pc := 91) dX1_numberOf_91 rfl ?_
  refine kw_callVr (pc := 92) dX1_numberOf_92 lX1_94 (c2_girth hp) hp rfl rfl rfl ⟨by decide, by decide, Nat.le_of_ble_eq_true rfl⟩ ?_
  exact kw_ireturn nlX1_numberOf (pc := 95) dX1_numberOf_95 rfl rfl ⟨rfl, rfl, rfl⟩
set_option maxRecDepth 100000 in
set_option maxHeartbeats 4000000 in
theorem c1_number_8 {w : kM} {o : Nat} {s : Nat → Int32} {c : Nat} {σ : Nat → Nat} (H : offP w o s c σ) {p : Nat} {P : Nat → Int32} (hp : w p = kO 2 (pF P)) (hf : fineP s P) : kCtrR mX1_numberOf 3 [.ref o, .ref p, .int (nI 8)] w (.int (prp s P 8)) := by
  refine kCtrR.of pl1 nlX1_numberOf rfl (Nat.le_of_ble_eq_true rfl) (fun n => ?_)
  refine kw_iload_n (pc := 0) dX1_numberOf_0 rfl ?_
  refine kw_tableIn (off := 95) (tgt := 96) (pc := 1) dX1_numberOf_1 (by decide) (by decide) (by decide) (by decide) ?_
  refine kw_aload_n (pc := 96) dX1_numberOf_96 rfl ?_
  refine kw_aload_n (pc := 97) dX1_numberOf_97 rfl ?_
  refine kw_aload_n (pc := 98) dX1_numberOf_98 rfl ?_
  refine kw_getfield (pc := 99) kfw dX1_numberOf_99 fX1_64 hp rfl ?_
  refine kw_callVr (pc := 102) dX1_numberOf_102 lX1_71 (c1_stringO H hp rfl) H.ob rfl rfl rfl ⟨by decide, by decide, Nat.le_of_ble_eq_true rfl⟩ ?_
  exact kw_ireturn nlX1_numberOf (pc := 105) dX1_numberOf_105 rfl rfl ⟨rfl, rfl, rfl⟩
set_option maxRecDepth 100000 in
set_option maxHeartbeats 4000000 in
theorem c1_number_9 {w : kM} {o : Nat} {s : Nat → Int32} {c : Nat} {σ : Nat → Nat} (H : offP w o s c σ) {p : Nat} {P : Nat → Int32} (hp : w p = kO 2 (pF P)) (hf : fineP s P) : kCtrR mX1_numberOf 3 [.ref o, .ref p, .int (nI 9)] w (.int (prp s P 9)) := by
  refine kCtrR.of pl1 nlX1_numberOf rfl (Nat.le_of_ble_eq_true rfl) (fun n => ?_)
  refine kw_iload_n (pc := 0) dX1_numberOf_0 rfl ?_
  refine kw_tableIn (off := 105) (tgt := 106) (pc := 1) dX1_numberOf_1 (by decide) (by decide) (by decide) (by decide) ?_
  refine kw_aload_n (pc := 106) dX1_numberOf_106 rfl ?_
  refine kw_aload_n (pc := 107) dX1_numberOf_107 rfl ?_
  refine kw_aload_n (pc := 108) dX1_numberOf_108 rfl ?_
  refine kw_aload_n (pc := 109) dX1_numberOf_109 rfl ?_
  refine kw_aload_n (pc := 110) dX1_numberOf_110 rfl ?_
  refine kw_getfield (pc := 111) kfw dX1_numberOf_111 fX1_64 hp rfl ?_
  refine kw_callVr (pc := 114) dX1_numberOf_114 lX1_71 (c1_stringO H hp rfl) H.ob rfl rfl rfl ⟨by decide, by decide, Nat.le_of_ble_eq_true rfl⟩ ?_
  refine kw_callVr (pc := 117) dX1_numberOf_117 lX1_84 (c1_postageO H hp rfl hf) H.ob rfl rfl rfl ⟨by decide, by decide, Nat.le_of_ble_eq_true rfl⟩ ?_
  exact kw_ireturn nlX1_numberOf (pc := 120) dX1_numberOf_120 rfl rfl ⟨rfl, rfl, rfl⟩
set_option maxRecDepth 100000 in
set_option maxHeartbeats 4000000 in
theorem c1_number_10 {w : kM} {o : Nat} {s : Nat → Int32} {c : Nat} {σ : Nat → Nat} (H : offP w o s c σ) {p : Nat} {P : Nat → Int32} (hp : w p = kO 2 (pF P)) (hf : fineP s P) : kCtrR mX1_numberOf 3 [.ref o, .ref p, .int (nI 10)] w (.int (prp s P 10)) := by
  refine kCtrR.of pl1 nlX1_numberOf rfl (Nat.le_of_ble_eq_true rfl) (fun n => ?_)
  refine kw_iload_n (pc := 0) dX1_numberOf_0 rfl ?_
  refine kw_tableOut (tgt := 121) (pc := 1) dX1_numberOf_1 (by decide) (by decide) ?_
  refine kw_aload_n (pc := 121) dX1_numberOf_121 rfl ?_
  refine kw_aload_n (pc := 122) dX1_numberOf_122 rfl ?_
  refine kw_aload_n (pc := 123) dX1_numberOf_123 rfl ?_
  refine kw_getfield (pc := 124) kfw dX1_numberOf_124 fX1_64 hp rfl ?_
  refine kw_callVr (pc := 127) dX1_numberOf_127 lX1_67 (c1_reasonO H hp rfl) H.ob rfl rfl rfl ⟨by decide, by decide, Nat.le_of_ble_eq_true rfl⟩ ?_
  exact kw_ireturn nlX1_numberOf (pc := 130) dX1_numberOf_130 rfl rfl ⟨rfl, rfl, rfl⟩
theorem c1_number {w : kM} {o : Nat} {s : Nat → Int32} {c : Nat} {σ : Nat → Nat} (H : offP w o s c σ) {p : Nat} {P : Nat → Int32} (hp : w p = kO 2 (pF P)) (hf : fineP s P) : ∀ {j : Nat}, j < 11 → kCtrR mX1_numberOf 3 [.ref o, .ref p, .int (nI j)] w (.int (prp s P j))
  | 0, _ => c1_number_0 H hp hf
  | 1, _ => c1_number_1 H hp hf
  | 2, _ => c1_number_2 H hp hf
  | 3, _ => c1_number_3 H hp hf
  | 4, _ => c1_number_4 H hp hf
  | 5, _ => c1_number_5 H hp hf
  | 6, _ => c1_number_6 H hp hf
  | 7, _ => c1_number_7 H hp hf
  | 8, _ => c1_number_8 H hp hf
  | 9, _ => c1_number_9 H hp hf
  | 10, _ => c1_number_10 H hp hf
set_option maxRecDepth 100000 in
set_option maxHeartbeats 4000000 in
theorem c1_tally_0 {w : kM} {o : Nat} {s : Nat → Int32} {c : Nat} {σ : Nat → Nat} (H : offP w o s c σ) (sv : Int32) : kCtrR mX1_tally 4 [.ref o, .int (nI 0)] w (.int (ctd s sv c 0)) := by
  refine kCtrR.of pl1 nlX1_tally rfl (Nat.le_of_ble_eq_true rfl) (fun n => ?_)
  refine kw_iload_n (pc := 0) dX1_tally_0 rfl ?_
  refine kw_tableIn (off := 47) (tgt := 48) (pc := 1) dX1_tally_1 (by decide) (by decide) (by decide) (by decide) ?_
  refine kw_aload_n (pc := 48) dX1_tally_48 rfl ?_
  refine kw_getfield (pc := 49) kfw dX1_tally_49 fX1_31 H.ob rfl ?_
  exact kw_ireturn nlX1_tally (pc := 52) dX1_tally_52 rfl rfl ⟨rfl, rfl, rfl⟩
set_option maxRecDepth 100000 in
set_option maxHeartbeats 4000000 in
theorem c1_tally_1 {w : kM} {o : Nat} {s : Nat → Int32} {c : Nat} {σ : Nat → Nat} (H : offP w o s c σ) (sv : Int32) : kCtrR mX1_tally 4 [.ref o, .int (nI 1)] w (.int (ctd s sv c 1)) := by
  refine kCtrR.of pl1 nlX1_tally rfl (Nat.le_of_ble_eq_true rfl) (fun n => ?_)
  refine kw_iload_n (pc := 0) dX1_tally_0 rfl ?_
  refine kw_tableIn (off := 52) (tgt := 53) (pc := 1) dX1_tally_1 (by decide) (by decide) (by decide) (by decide) ?_
  refine kw_aload_n (pc := 53) dX1_tally_53 rfl ?_
  refine kw_callVr (pc := 54) dX1_tally_54 lX1_132 (c1_taken H) H.ob rfl rfl rfl ⟨by decide, by decide, Nat.le_of_ble_eq_true rfl⟩ ?_
  exact kw_ireturn nlX1_tally (pc := 57) dX1_tally_57 rfl rfl ⟨rfl, rfl, rfl⟩
set_option maxRecDepth 100000 in
set_option maxHeartbeats 4000000 in
theorem c1_tally_2 {w : kM} {o : Nat} {s : Nat → Int32} {c : Nat} {σ : Nat → Nat} (H : offP w o s c σ) (sv : Int32) : kCtrR mX1_tally 4 [.ref o, .int (nI 2)] w (.int (ctd s sv c 2)) := by
  refine kCtrR.of pl1 nlX1_tally rfl (Nat.le_of_ble_eq_true rfl) (fun n => ?_)
  refine kw_iload_n (pc := 0) dX1_tally_0 rfl ?_
  refine kw_tableIn (off := 57) (tgt := 58) (pc := 1) dX1_tally_1 (by decide) (by decide) (by decide) (by decide) ?_
  refine kw_aload_n (pc := 58) dX1_tally_58 rfl ?_
  refine kw_callVr (pc := 59) dX1_tally_59 lX1_135 (c1_odd H) H.ob rfl rfl rfl ⟨by decide, by decide, Nat.le_of_ble_eq_true rfl⟩ ?_
  exact kw_ireturn nlX1_tally (pc := 62) dX1_tally_62 rfl rfl ⟨rfl, rfl, rfl⟩
set_option maxRecDepth 100000 in
set_option maxHeartbeats 4000000 in
theorem c1_tally_3 {w : kM} {o : Nat} {s : Nat → Int32} {c : Nat} {σ : Nat → Nat} (H : offP w o s c σ) (sv : Int32) : kCtrR mX1_tally 4 [.ref o, .int (nI 3)] w (.int (ctd s sv c 3)) := by
  refine kCtrR.of pl1 nlX1_tally rfl (Nat.le_of_ble_eq_true rfl) (fun n => ?_)
  refine kw_iload_n (pc := 0) dX1_tally_0 rfl ?_
  refine kw_tableIn (off := 62) (tgt := 63) (pc := 1) dX1_tally_1 (by decide) (by decide) (by decide) (by decide) ?_
  refine kw_aload_n (pc := 63) dX1_tally_63 rfl ?_
  refine kw_getfield (pc := 64) kfw dX1_tally_64 fX1_45 H.ob rfl ?_
  exact kw_ireturn nlX1_tally (pc := 67) dX1_tally_67 rfl rfl ⟨rfl, rfl, rfl⟩
set_option maxRecDepth 100000 in
set_option maxHeartbeats 4000000 in
theorem c1_tally_4 {w : kM} {o : Nat} {s : Nat → Int32} {c : Nat} {σ : Nat → Nat} (H : offP w o s c σ) (sv : Int32) : kCtrR mX1_tally 4 [.ref o, .int (nI 4)] w (.int (ctd s sv c 4)) := by
  refine kCtrR.of pl1 nlX1_tally rfl (Nat.le_of_ble_eq_true rfl) (fun n => ?_)
  refine kw_iload_n (pc := 0) dX1_tally_0 rfl ?_
  refine kw_tableIn (off := 67) (tgt := 68) (pc := 1) dX1_tally_1 (by decide) (by decide) (by decide) (by decide) ?_
  refine kw_aload_n (pc := 68) dX1_tally_68 rfl ?_
  refine kw_getfield (pc := 69) kfw dX1_tally_69 fX1_48 H.ob rfl ?_
  exact kw_ireturn nlX1_tally (pc := 72) dX1_tally_72 rfl rfl ⟨rfl, rfl, rfl⟩
set_option maxRecDepth 100000 in
set_option maxHeartbeats 4000000 in
theorem c1_tally_5 {w : kM} {o : Nat} {s : Nat → Int32} {c : Nat} {σ : Nat → Nat} (H : offP w o s c σ) (sv : Int32) : kCtrR mX1_tally 4 [.ref o, .int (nI 5)] w (.int (ctd s sv c 5)) := by
  refine kCtrR.of pl1 nlX1_tally rfl (Nat.le_of_ble_eq_true rfl) (fun n => ?_)
  refine kw_iload_n (pc := 0) dX1_tally_0 rfl ?_
  refine kw_tableIn (off := 72) (tgt := 73) (pc := 1) dX1_tally_1 (by decide) (by decide) (by decide) (by decide) ?_
  refine kw_aload_n (pc := 73) dX1_tally_73 rfl ?_
  refine kw_getfield (pc := 74) kfw dX1_tally_74 fX1_51 H.ob rfl ?_
  exact kw_ireturn nlX1_tally (pc := 77) dX1_tally_77 rfl rfl ⟨rfl, rfl, rfl⟩
set_option maxRecDepth 100000 in
set_option maxHeartbeats 4000000 in
theorem c1_tally_6 {w : kM} {o : Nat} {s : Nat → Int32} {c : Nat} {σ : Nat → Nat} (H : offP w o s c σ) (sv : Int32) : kCtrR mX1_tally 4 [.ref o, .int (nI 6)] w (.int (ctd s sv c 6)) := by
  refine kCtrR.of pl1 nlX1_tally rfl (Nat.le_of_ble_eq_true rfl) (fun n => ?_)
  refine kw_iload_n (pc := 0) dX1_tally_0 rfl ?_
  refine kw_tableIn (off := 77) (tgt := 78) (pc := 1) dX1_tally_1 (by decide) (by decide) (by decide) (by decide) ?_
  refine kw_aload_n (pc := 78) dX1_tally_78 rfl ?_
  refine kw_getfield (pc := 79) kfw dX1_tally_79 fX1_54 H.ob rfl ?_
  exact kw_ireturn nlX1_tally (pc := 82) dX1_tally_82 rfl rfl ⟨rfl, rfl, rfl⟩
set_option maxRecDepth 100000 in
set_option maxHeartbeats 4000000 in
theorem c1_tally_7 {w : kM} {o : Nat} {s : Nat → Int32} {c : Nat} {σ : Nat → Nat} (H : offP w o s c σ) (sv : Int32) : kCtrR mX1_tally 4 [.ref o, .int (nI 7)] w (.int (ctd s sv c 7)) := by
  refine kCtrR.of pl1 nlX1_tally rfl (Nat.le_of_ble_eq_true rfl) (fun n => ?_)
  refine kw_iload_n (pc := 0) dX1_tally_0 rfl ?_
  refine kw_tableIn (off := 82) (tgt := 83) (pc := 1) dX1_tally_1 (by decide) (by decide) (by decide) (by decide) ?_
  refine kw_aload_n (pc := 83) dX1_tally_83 rfl ?_
  refine kw_getfield (pc := 84) kfw dX1_tally_84 fX1_57 H.ob rfl ?_
  exact kw_ireturn nlX1_tally (pc := 87) dX1_tally_87 rfl rfl ⟨rfl, rfl, rfl⟩
set_option maxRecDepth 100000 in
set_option maxHeartbeats 4000000 in
theorem c1_tally_8 {w : kM} {o : Nat} {s : Nat → Int32} {c : Nat} {σ : Nat → Nat} (H : offP w o s c σ) (sv : Int32) : kCtrR mX1_tally 4 [.ref o, .int (nI 8)] w (.int (ctd s sv c 8)) := by
  refine kCtrR.of pl1 nlX1_tally rfl (Nat.le_of_ble_eq_true rfl) (fun n => ?_)
  refine kw_iload_n (pc := 0) dX1_tally_0 rfl ?_
  refine kw_tableOut (tgt := 88) (pc := 1) dX1_tally_1 (by decide) (by decide) ?_
  refine kw_aload_n (pc := 88) dX1_tally_88 rfl ?_
  refine kw_callVr (pc := 89) dX1_tally_89 lX1_138 (c1_undercut H) H.ob rfl rfl rfl ⟨by decide, by decide, Nat.le_of_ble_eq_true rfl⟩ ?_
  exact kw_ireturn nlX1_tally (pc := 92) dX1_tally_92 rfl rfl ⟨rfl, rfl, rfl⟩
theorem c1_tally {w : kM} {o : Nat} {s : Nat → Int32} {c : Nat} {σ : Nat → Nat} (H : offP w o s c σ) (sv : Int32) : ∀ {j : Nat}, j < 9 → kCtrR mX1_tally 4 [.ref o, .int (nI j)] w (.int (ctd s sv c j))
  | 0, _ => c1_tally_0 H sv
  | 1, _ => c1_tally_1 H sv
  | 2, _ => c1_tally_2 H sv
  | 3, _ => c1_tally_3 H sv
  | 4, _ => c1_tally_4 H sv
  | 5, _ => c1_tally_5 H sv
  | 6, _ => c1_tally_6 H sv
  | 7, _ => c1_tally_7 H sv
  | 8, _ => c1_tally_8 H sv
