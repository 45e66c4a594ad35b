theorem kup_id {w : kM} {a : Nat} {c : kC} (h : w a = c) : kup w a c = w := by
  funext k
  unfold kup
  by_cases e : k = a
  · rw [if_pos e, e, h]
  · rw [if_neg e]
theorem kup_kup {w : kM} {a : Nat} {c c' : kC} : kup (kup w a c) a c' = kup w a c' := by
  funext k
  unfold kup
  by_cases e : k = a
  · rw [if_pos e, if_pos e]
  · rw [if_neg e, if_neg e, if_neg e]
theorem pput {w : kM} {p k : Nat} {P : Nat → Int32} {v : Int32} (hk : k < 7) : kup (kup w p (kO 2 (pF P))) p (kO 2 (kuF (pF P) k (.int v))) = kup w p (kO 2 (pF (kuf P k v))) := by
  rw [kup_kup, pF_s hk]
theorem pcell {w : kM} {p : Nat} {P P' : Nat → Int32} (h : ∀ k, k < 7 → P k = P' k) : kup w p (kO 2 (pF P)) = kup w p (kO 2 (pF P')) := by
  rw [pF_eq h]
theorem max_gI (x y : Int32) : (if x < y then y else x) = gI x y := by
  unfold gI
  grind
theorem min_gI {x y : Int32} (hx : 0 ≤ x) (hy : 0 ≤ y) : (if y < x then y else x) = -gI (-x) (-y) ∧ 0 ≤ (if y < x then y else x) := by
  unfold gI
  grind
theorem min3_gI {x y z : Int32} (hx : 0 ≤ x) (hy : 0 ≤ y) (hz : 0 ≤ z) : (if (if z < y then z else y) < x then (if z < y then z else y) else x) = -gI (-x) (gI (-y) (-z)) := by
  rw [(min_gI hx (min_gI hy hz).2).1, (min_gI hy hz).1, Int32.neg_neg]
def fillP (x y z wt zn wy : Int32) : Nat → Int32 := fun k => if k < 3 then sort3 x y z k else if k = 3 then wt else if k = 4 then zn else if k = 5 then 0 else wy
theorem lay_end {w : kM} {p : Nat} {P : Nat → Int32} {x y z : Int32} (hx : 0 ≤ x ∧ 0 ≤ y ∧ 0 ≤ z) {A C : Int32} (hA : A = (if x < (if y < z then z else y) then (if y < z then z else y) else x) := by rfl) (hC : C = (if (if z < y then z else y) < x then (if z < y then z else y) else x) := by rfl) : kup w p (kO 2 (pF (kuf (kuf (kuf P 0 A) 2 C) 1 (x + y + z - kuf (kuf P 0 A) 2 C 0 - kuf (kuf P 0 A) 2 C 2)))) = kup w p (kO 2 (pF (kuf (kuf (kuf P 0 (sort3 x y z 0)) 2 (sort3 x y z 2)) 1 (sort3 x y z 1)))) := by
  rw [max_gI, max_gI] at hA
  rw [min3_gI hx.1 hx.2.1 hx.2.2] at hC
  subst hA
  subst hC
  have e0 : sort3 x y z 0 = gI x (gI y z) := if_pos rfl
  have e1 : sort3 x y z 1 = x + y + z - gI x (gI y z) - -gI (-x) (gI (-y) (-z)) := (if_neg (by decide)).trans (if_pos rfl)
  have e2 : sort3 x y z 2 = -gI (-x) (gI (-y) (-z)) := (if_neg (by decide)).trans (if_neg (by decide))
  rw [kuf_ne (by decide), kuf_eq, kuf_eq, e0, e1, e2]
set_option maxRecDepth 100000 in
set_option maxHeartbeats 4000000 in
theorem c2_lay {w : kM} {p : Nat} {P : Nat → Int32} (hp : w p = kO 2 (pF P)) {x y z : Int32} (hx : 0 ≤ x ∧ 0 ≤ y ∧ 0 ≤ z) : kCtrW mX2_laySides 1 [.ref p, .int x, .int y, .int z] w none (fun w' => w' = kup w p (kO 2 (pF (kuf (kuf (kuf P 0 (sort3 x y z 0)) 2 (sort3 x y z 2)) 1 (sort3 x y z 1))))) := by
  refine kCtrW.of pl2 nlX2_laySides rfl (Nat.le_of_ble_eq_true rfl) (fun n => ?_)
  refine kW.eq (w' := kup w p (kO 2 (pF P))) (kup_id hp).symm rfl ?_
  refine kw_aload_n (pc := 0) dX2_laySides_0 rfl ?_
  refine kw_iload_n (pc := 1) dX2_laySides_1 rfl ?_
  refine kw_iload_n (pc := 2) dX2_laySides_2 rfl ?_
  refine kw_iload_n (pc := 3) dX2_laySides_3 rfl ?_
  refine kw_mmax (pc := 4) dX2_laySides_4 lX2_37 (by decide) (Nat.le_of_ble_eq_true rfl) ?_
  refine kw_mmax (pc := 7) dX2_laySides_7 lX2_37 (by decide) (Nat.le_of_ble_eq_true rfl) ?_
  refine kw_putfield (pc := 10) kfw dX2_laySides_10 fX2_28 (kup_self _ _ _) (fun _ _ => rfl) (fun _ _ => rfl) (kW.eq (pput (by decide)) rfl ?_)
  refine kw_aload_n (pc := 13) dX2_laySides_13 rfl ?_
  refine kw_iload_n (pc := 14) dX2_laySides_14 rfl ?_
  refine kw_iload_n (pc := 15) dX2_laySides_15 rfl ?_
  refine kw_iload_n (pc := 16) dX2_laySides_16 rfl ?_
  refine kw_mmin (pc := 17) dX2_laySides_17 lX2_43 (by decide) (Nat.le_of_ble_eq_true rfl) ?_
  refine kw_mmin (pc := 20) dX2_laySides_20 lX2_43 (by decide) (Nat.le_of_ble_eq_true rfl) ?_
  refine kw_putfield (pc := 23) kfw dX2_laySides_23 fX2_34 (kup_self _ _ _) (fun _ _ => rfl) (fun _ _ => rfl) (kW.eq (pput (by decide)) rfl ?_)
  refine kw_aload_n (pc := 26) dX2_laySides_26 rfl ?_
  refine kw_iload_n (pc := 27) dX2_laySides_27 rfl ?_
  refine kw_iload_n (pc := 28) dX2_laySides_28 rfl ?_
  refine kw_iadd (pc := 29) dX2_laySides_29 ?_
  refine kw_iload_n (pc := 30) dX2_laySides_30 rfl ?_
  refine kw_iadd (pc := 31) dX2_laySides_31 ?_
  refine kw_aload_n (pc := 32) dX2_laySides_32 rfl ?_
  refine kw_getfield (pc := 33) kfw dX2_laySides_33 fX2_28 (kup_self _ _ _) rfl ?_
  refine kw_isub (pc := 36) dX2_laySides_36 ?_
  refine kw_aload_n (pc := 37) dX2_laySides_37 rfl ?_
  refine kw_getfield (pc := 38) kfw dX2_laySides_38 fX2_34 (kup_self _ _ _) rfl ?_
  refine kw_isub (pc := 41) dX2_laySides_41 ?_
  refine kw_putfield (pc := 42) kfw dX2_laySides_42 fX2_31 (kup_self _ _ _) (fun _ _ => rfl) (fun _ _ => rfl) (kW.eq (pput (by decide)) rfl ?_)
  exact kw_return nlX2_laySides (pc := 45) dX2_laySides_45 rfl ⟨rfl, lay_end hx, rfl⟩
theorem fill_end {P : Nat → Int32} {x y z wt zn wy : Int32} : ∀ k, k < 7 → kuf (kuf (kuf (kuf (kuf (kuf (kuf P 0 (sort3 x y z 0)) 2 (sort3 x y z 2)) 1 (sort3 x y z 1)) 3 wt) 4 zn) 5 0) 6 wy k = fillP x y z wt zn wy k := by
  intro k hk
  match k, hk with
  | 0, _ => simp [kuf, fillP]
  | 1, _ => simp [kuf, fillP]
  | 2, _ => simp [kuf, fillP]
  | 3, _ => simp [kuf, fillP]
  | 4, _ => simp [kuf, fillP]
  | 5, _ => simp [kuf, fillP]
  | 6, _ => simp [kuf, fillP]
theorem bun_end {P A B : Nat → Int32} {x y z : Int32} (hx : x = gI (A 0) (B 0)) (hy : y = gI (A 1) (B 1)) (hz : z = A 2 + B 2) {wy : Int32} (hw : wy = gI (A 6) (B 6)) : ∀ k, k < 7 → kuf (kuf (kuf (kuf (kuf (kuf (kuf P 0 (sort3 x y z 0)) 2 (sort3 x y z 2)) 1 (sort3 x y z 1)) 3 (A 3 + B 3)) 4 (A 4)) 5 (A 5 + B 5)) 6 wy k = bnP A B k := by
  subst hx
  subst hy
  subst hz
  subst hw
  intro k hk
  match k, hk with
  | 0, _ => simp [kuf, bnP]
  | 1, _ => simp [kuf, bnP]
  | 2, _ => simp [kuf, bnP]
  | 3, _ => simp [kuf, bnP]
  | 4, _ => simp [kuf, bnP]
  | 5, _ => simp [kuf, bnP]
  | 6, _ => simp [kuf, bnP]
set_option maxRecDepth 100000 in
set_option maxHeartbeats 4000000 in
theorem c2_fill {w : kM} {p : Nat} {P : Nat → Int32} (hp : w p = kO 2 (pF P)) {x y z : Int32} (hx : 0 ≤ x ∧ 0 ≤ y ∧ 0 ≤ z) (wt zn wy : Int32) : kCtrW mX2_fill 2 [.ref p, .int x, .int y, .int z, .int wt, .int zn, .int wy] w none (fun w' => w' = kup w p (kO 2 (pF (fillP x y z wt zn wy)))) := by
  refine kCtrW.of pl2 nlX2_fill rfl (Nat.le_of_ble_eq_true rfl) (fun n => ?_)
  refine kW.eq (w' := kup w p (kO 2 (pF P))) (kup_id hp).symm rfl ?_
  refine kw_aload_n (pc := 0) dX2_fill_0 rfl ?_
  refine kw_iload_n (pc := 1) dX2_fill_1 rfl ?_
  refine kw_iload_n (pc := 2) dX2_fill_2 rfl ?_
  refine kw_iload_n (pc := 3) dX2_fill_3 rfl ?_
  refine kw_callVw0 (pc := 4) dX2_fill_4 lX2_9 (c2_lay (kup_self _ _ _) hx) (kup_self _ _ _) rfl rfl rfl ⟨by decide, by decide, Nat.le_of_ble_eq_true rfl⟩ (fun w1 hw1 => ?_)
  have hw1 : w1 = _ := hw1
  subst hw1
  refine kW.eq kup_kup rfl ?_
  refine kw_aload_n (pc := 7) dX2_fill_7 rfl ?_
  refine kw_iload (pc := 8) dX2_fill_8 rfl ?_
  refine kw_putfield (pc := 10) kfw dX2_fill_10 fX2_15 (kup_self _ _ _) (fun _ _ => rfl) (fun _ _ => rfl) (kW.eq (pput (by decide)) rfl ?_)
  refine kw_aload_n (pc := 13) dX2_fill_13 rfl ?_
  refine kw_iload (pc := 14) dX2_fill_14 rfl ?_
  refine kw_putfield (pc := 16) kfw dX2_fill_16 fX2_19 (kup_self _ _ _) (fun _ _ => rfl) (fun _ _ => rfl) (kW.eq (pput (by decide)) rfl ?_)
  refine kw_aload_n (pc := 19) dX2_fill_19 rfl ?_
  refine kw_iconst (v := 0) (pc := 20) dX2_fill_20 (by decide) ?_
  refine kw_putfield (pc := 21) kfw dX2_fill_21 fX2_22 (kup_self _ _ _) (fun _ _ => rfl) (fun _ _ => rfl) (kW.eq (pput (by decide)) rfl ?_)
  refine kw_aload_n (pc := 24) dX2_fill_24 rfl ?_
  refine kw_iload (pc := 25) dX2_fill_25 rfl ?_
  refine kw_putfield (pc := 27) kfw dX2_fill_27 fX2_25 (kup_self _ _ _) (fun _ _ => rfl) (fun _ _ => rfl) (kW.eq (pput (by decide)) rfl ?_)
  exact kw_return nlX2_fill (pc := 30) dX2_fill_30 rfl ⟨rfl, pcell fill_end, rfl⟩
theorem cp_end {P A : Nat → Int32} : ∀ k, k < 7 → kuf (kuf (kuf (kuf (kuf (kuf (kuf P 0 (A 0)) 1 (A 1)) 2 (A 2)) 3 (A 3)) 4 (A 4)) 5 (A 5)) 6 (A 6) k = A k := by
  intro k hk
  match k, hk with
  | 0, _ => simp [kuf]
  | 1, _ => simp [kuf]
  | 2, _ => simp [kuf]
  | 3, _ => simp [kuf]
  | 4, _ => simp [kuf]
  | 5, _ => simp [kuf]
  | 6, _ => simp [kuf]
set_option maxRecDepth 100000 in
set_option maxHeartbeats 4000000 in
theorem c2_copy {w : kM} {p : Nat} {P : Nat → Int32} (hp : w p = kO 2 (pF P)) {x : Nat} {A : Nat → Int32} (hne : x ≠ p) (hx : w x = kO 2 (pF A)) : kCtrW mX2_copyFrom 0 [.ref p, .ref x] w none (fun w' => w' = kup w p (kO 2 (pF A))) := by
  refine kCtrW.of pl2 nlX2_copyFrom rfl (Nat.le_of_ble_eq_true rfl) (fun n => ?_)
  refine kW.eq (w' := kup w p (kO 2 (pF P))) (kup_id hp).symm rfl ?_
  refine kw_aload_n (pc := 0) dX2_copyFrom_0 rfl ?_
  refine kw_aload_n (pc := 1) dX2_copyFrom_1 rfl ?_
  refine kw_getfield (pc := 2) kfw dX2_copyFrom_2 fX2_28 ((kup_ne hne).trans hx) rfl ?_
  refine kw_putfield (pc := 5) kfw dX2_copyFrom_5 fX2_28 (kup_self _ _ _) (fun _ _ => rfl) (fun _ _ => rfl) (kW.eq (pput (by decide)) rfl ?_)
  refine kw_aload_n (pc := 8) dX2_copyFrom_8 rfl ?_
  refine kw_aload_n (pc := 9) dX2_copyFrom_9 rfl ?_
  refine kw_getfield (pc := 10) kfw dX2_copyFrom_10 fX2_31 ((kup_ne hne).trans hx) rfl ?_
  refine kw_putfield (pc := 13) kfw dX2_copyFrom_13 fX2_31 (kup_self _ _ _) (fun _ _ => rfl) (fun _ _ => rfl) (kW.eq (pput (by decide)) rfl ?_)
  refine kw_aload_n (pc := 16) dX2_copyFrom_16 rfl ?_
  refine kw_aload_n (pc := 17) dX2_copyFrom_17 rfl ?_
  refine kw_getfield (pc := 18) kfw dX2_copyFrom_18 fX2_34 ((kup_ne hne).trans hx) rfl ?_
  refine kw_putfield (pc := 21) kfw dX2_copyFrom_21 fX2_34 (kup_self _ _ _) (fun _ _ => rfl) (fun _ _ => rfl) (kW.eq (pput (by decide)) rfl ?_)
  refine kw_aload_n (pc := 24) dX2_copyFrom_24 rfl ?_
  refine kw_aload_n (pc := 25) dX2_copyFrom_25 rfl ?_
  refine kw_getfield (pc := 26) kfw dX2_copyFrom_26 fX2_15 ((kup_ne hne).trans hx) rfl ?_
  refine kw_putfield (pc := 29) kfw dX2_copyFrom_29 fX2_15 (kup_self _ _ _) (fun _ _ => rfl) (fun _ _ => rfl) (kW.eq (pput (by decide)) rfl ?_)
  refine kw_aload_n (pc := 32) dX2_copyFrom_32 rfl ?_
  refine kw_aload_n (pc := 33) dX2_copyFrom_33 rfl ?_
  refine kw_getfield (pc := 34) kfw dX2_copyFrom_34 fX2_19 ((kup_ne hne).trans hx) rfl ?_
  refine kw_putfield (pc := 37) kfw dX2_copyFrom_37 fX2_19 (kup_self _ _ _) (fun _ _ => rfl) (fun _ _ => rfl) (kW.eq (pput (by decide)) rfl ?_)
  refine kw_aload_n (pc := 40) dX2_copyFrom_40 rfl ?_
  refine kw_aload_n (pc := 41) dX2_copyFrom_41 rfl ?_
  refine kw_getfield (pc := 42) kfw dX2_copyFrom_42 fX2_22 ((kup_ne hne).trans hx) rfl ?_
  refine kw_putfield (pc := 45) kfw dX2_copyFrom_45 fX2_22 (kup_self _ _ _) (fun _ _ => rfl) (fun _ _ => rfl) (kW.eq (pput (by decide)) rfl ?_)
  refine kw_aload_n (pc := 48) dX2_copyFrom_48 rfl ?_
  refine kw_aload_n (pc := 49) dX2_copyFrom_49 rfl ?_
  refine kw_getfield (pc := 50) kfw dX2_copyFrom_50 fX2_25 ((kup_ne hne).trans hx) rfl ?_
  refine kw_putfield (pc := 53) kfw dX2_copyFrom_53 fX2_25 (kup_self _ _ _) (fun _ _ => rfl) (fun _ _ => rfl) (kW.eq (pput (by decide)) rfl ?_)
  exact kw_return nlX2_copyFrom (pc := 56) dX2_copyFrom_56 rfl ⟨rfl, pcell cp_end, rfl⟩
set_option maxRecDepth 100000 in
set_option maxHeartbeats 4000000 in
theorem c2_bundle {w : kM} {p : Nat} {P : Nat → Int32} (hp : w p = kO 2 (pF P)) {x : Nat} {A : Nat → Int32} (hne : x ≠ p) (hx : w x = kO 2 (pF A)) {y : Nat} {B : Nat → Int32} (hne2 : y ≠ p) (hy : w y = kO 2 (pF B)) (hq : (0 : Int32) ≤ (if A 0 < B 0 then B 0 else A 0) ∧ (0 : Int32) ≤ (if A 1 < B 1 then B 1 else A 1) ∧ 0 ≤ A 2 + B 2) : kCtrW mX2_becomeBundle 2 [.ref p, .ref x, .ref y] w none (fun w' => w' = kup w p (kO 2 (pF (bnP A B)))) := by
  refine kCtrW.of pl2 nlX2_becomeBundle rfl (Nat.le_of_ble_eq_true rfl) (fun n => ?_)
  refine kW.eq (w' := kup w p (kO 2 (pF P))) (kup_id hp).symm rfl ?_
  refine kw_aload_n (pc := 0) dX2_becomeBundle_0 rfl ?_
  refine kw_aload_n (pc := 1) dX2_becomeBundle_1 rfl ?_
  refine kw_getfield (pc := 2) kfw dX2_becomeBundle_2 fX2_28 ((kup_ne hne).trans hx) rfl ?_
  refine kw_aload_n (pc := 5) dX2_becomeBundle_5 rfl ?_
  refine kw_getfield (pc := 6) kfw dX2_becomeBundle_6 fX2_28 ((kup_ne hne2).trans hy) rfl ?_
  refine kw_mmax (pc := 9) dX2_becomeBundle_9 lX2_37 (by decide) (Nat.le_of_ble_eq_true rfl) ?_
  refine kw_aload_n (pc := 12) dX2_becomeBundle_12 rfl ?_
  refine kw_getfield (pc := 13) kfw dX2_becomeBundle_13 fX2_31 ((kup_ne hne).trans hx) rfl ?_
  refine kw_aload_n (pc := 16) dX2_becomeBundle_16 rfl ?_
  refine kw_getfield (pc := 17) kfw dX2_becomeBundle_17 fX2_31 ((kup_ne hne2).trans hy) rfl ?_
  refine kw_mmax (pc := 20) dX2_becomeBundle_20 lX2_37 (by decide) (Nat.le_of_ble_eq_true rfl) ?_
  refine kw_aload_n (pc := 23) dX2_becomeBundle_23 rfl ?_
  refine kw_getfield (pc := 24) kfw dX2_becomeBundle_24 fX2_34 ((kup_ne hne).trans hx) rfl ?_
  refine kw_aload_n (pc := 27) dX2_becomeBundle_27 rfl ?_
  refine kw_getfield (pc := 28) kfw dX2_becomeBundle_28 fX2_34 ((kup_ne hne2).trans hy) rfl ?_
  refine kw_iadd (pc := 31) dX2_becomeBundle_31 ?_
  refine kw_callVw0 (pc := 32) dX2_becomeBundle_32 lX2_9 (c2_lay (kup_self _ _ _) hq) (kup_self _ _ _) rfl rfl rfl ⟨by decide, by decide, Nat.le_of_ble_eq_true rfl⟩ (fun w1 hw1 => ?_)
  have hw1 : w1 = _ := hw1
  subst hw1
  refine kW.eq kup_kup rfl ?_
  refine kw_aload_n (pc := 35) dX2_becomeBundle_35 rfl ?_
  refine kw_aload_n (pc := 36) dX2_becomeBundle_36 rfl ?_
  refine kw_getfield (pc := 37) kfw dX2_becomeBundle_37 fX2_15 ((kup_ne hne).trans hx) rfl ?_
  refine kw_aload_n (pc := 40) dX2_becomeBundle_40 rfl ?_
  refine kw_getfield (pc := 41) kfw dX2_becomeBundle_41 fX2_15 ((kup_ne hne2).trans hy) rfl ?_
  refine kw_iadd (pc := 44) dX2_becomeBundle_44 ?_
  refine kw_putfield (pc := 45) kfw dX2_becomeBundle_45 fX2_15 (kup_self _ _ _) (fun _ _ => rfl) (fun _ _ => rfl) (kW.eq (pput (by decide)) rfl ?_)
  refine kw_aload_n (pc := 48) dX2_becomeBundle_48 rfl ?_
  refine kw_aload_n (pc := 49) dX2_becomeBundle_49 rfl ?_
  refine kw_getfield (pc := 50) kfw dX2_becomeBundle_50 fX2_19 ((kup_ne hne).trans hx) rfl ?_
  refine kw_putfield (pc := 53) kfw dX2_becomeBundle_53 fX2_19 (kup_self _ _ _) (fun _ _ => rfl) (fun _ _ => rfl) (kW.eq (pput (by decide)) rfl ?_)
  refine kw_aload_n (pc := 56) dX2_becomeBundle_56 rfl ?_
  refine kw_aload_n (pc := 57) dX2_becomeBundle_57 rfl ?_
  refine kw_getfield (pc := 58) kfw dX2_becomeBundle_58 fX2_22 ((kup_ne hne).trans hx) rfl ?_
  refine kw_aload_n (pc := 61) dX2_becomeBundle_61 rfl ?_
  refine kw_getfield (pc := 62) kfw dX2_becomeBundle_62 fX2_22 ((kup_ne hne2).trans hy) rfl ?_
  refine kw_iadd (pc := 65) dX2_becomeBundle_65 ?_
  refine kw_putfield (pc := 66) kfw dX2_becomeBundle_66 fX2_22 (kup_self _ _ _) (fun _ _ => rfl) (fun _ _ => rfl) (kW.eq (pput (by decide)) rfl ?_)
  refine kw_aload_n (pc := 69) dX2_becomeBundle_69 rfl ?_
  refine kw_aload_n (pc := 70) dX2_becomeBundle_70 rfl ?_
  refine kw_getfield (pc := 71) kfw dX2_becomeBundle_71 fX2_25 ((kup_ne hne).trans hx) rfl ?_
  refine kw_aload_n (pc := 74) dX2_becomeBundle_74 rfl ?_
  refine kw_getfield (pc := 75) kfw dX2_becomeBundle_75 fX2_25 ((kup_ne hne2).trans hy) rfl ?_
  refine kw_mmax (pc := 78) dX2_becomeBundle_78 lX2_37 (by decide) (Nat.le_of_ble_eq_true rfl) ?_
  refine kw_putfield (pc := 81) kfw dX2_becomeBundle_81 fX2_25 (kup_self _ _ _) (fun _ _ => rfl) (fun _ _ => rfl) (kW.eq (pput (by decide)) rfl ?_)
  exact kw_return nlX2_becomeBundle (pc := 84) dX2_becomeBundle_84 rfl ⟨rfl, pcell (bun_end (max_gI _ _) (max_gI _ _) rfl (max_gI _ _)), rfl⟩
set_option maxRecDepth 100000 in
set_option maxHeartbeats 4000000 in
theorem c2_tie {w : kM} {p : Nat} {P : Nat → Int32} (hp : w p = kO 2 (pF P)) (v : Int32) : kCtrW mX2_tie 0 [.ref p, .int v] w (some (.int (P 6))) (fun w' => w' = kup w p (kO 2 (pF (kuf P 6 v)))) := by
  refine kCtrW.of pl2 nlX2_tie rfl (Nat.le_of_ble_eq_true rfl) (fun n => ?_)
  refine kW.eq (w' := kup w p (kO 2 (pF P))) (kup_id hp).symm rfl ?_
  refine kw_aload_n (pc := 0) dX2_tie_0 rfl ?_
  refine kw_getfield (pc := 1) kfw dX2_tie_1 fX2_25 (kup_self _ _ _) rfl ?_
  refine kw_istore_n (pc := 4) dX2_tie_4 (by decide) rfl ?_
  refine kw_aload_n (pc := 5) dX2_tie_5 rfl ?_
  refine kw_iload_n (pc := 6) dX2_tie_6 rfl ?_
  refine kw_putfield (pc := 7) kfw dX2_tie_7 fX2_25 (kup_self _ _ _) (fun _ _ => rfl) (fun _ _ => rfl) (kW.eq (pput (by decide)) rfl ?_)
  refine kw_iload_n (pc := 10) dX2_tie_10 rfl ?_
  exact kw_ireturn nlX2_tie (pc := 11) dX2_tie_11 rfl rfl ⟨rfl, rfl, rfl⟩
set_option maxRecDepth 100000 in
set_option maxHeartbeats 4000000 in
theorem c2_insure {w : kM} {p : Nat} {P : Nat → Int32} (hp : w p = kO 2 (pF P)) (v : Int32) : kCtrW mX2_insure 0 [.ref p, .int v] w (some (.int (P 5))) (fun w' => w' = kup w p (kO 2 (pF (kuf P 5 v)))) := by
  refine kCtrW.of pl2 nlX2_insure rfl (Nat.le_of_ble_eq_true rfl) (fun n => ?_)
  refine kW.eq (w' := kup w p (kO 2 (pF P))) (kup_id hp).symm rfl ?_
  refine kw_aload_n (pc := 0) dX2_insure_0 rfl ?_
  refine kw_getfield (pc := 1) kfw dX2_insure_1 fX2_22 (kup_self _ _ _) rfl ?_
  refine kw_istore_n (pc := 4) dX2_insure_4 (by decide) rfl ?_
  refine kw_aload_n (pc := 5) dX2_insure_5 rfl ?_
  refine kw_iload_n (pc := 6) dX2_insure_6 rfl ?_
  refine kw_putfield (pc := 7) kfw dX2_insure_7 fX2_22 (kup_self _ _ _) (fun _ _ => rfl) (fun _ _ => rfl) (kW.eq (pput (by decide)) rfl ?_)
  refine kw_iload_n (pc := 10) dX2_insure_10 rfl ?_
  exact kw_ireturn nlX2_insure (pc := 11) dX2_insure_11 rfl rfl ⟨rfl, rfl, rfl⟩
