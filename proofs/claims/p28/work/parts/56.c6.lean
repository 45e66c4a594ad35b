theorem comeS_ne {s : Nat → Int32} {c i : Nat} (hc : c < 7) (h : i < 20 ∨ (20 < i ∧ i < 21 + 7 * c) ∨ 70 ≤ i) {x y z wt zn wy : Int32} : (comeS s c x y z wt zn wy) i = s i := by
  unfold comeS
  rw [if_neg (by omega)]
  unfold comeR putS
  rw [kuf_ne (by omega), kuf_ne (by omega), kuf_ne (by omega), kuf_ne (by omega), kuf_ne (by omega), kuf_ne (by omega), kuf_ne (by omega), kuf_ne (by omega)]
theorem comeS_pa {s : Nat → Int32} {c j : Nat} (hc : c < 7) (hj : j < 7) {x y z wt zn wy : Int32} : (comeS s c x y z wt zn wy) (21 + 7 * c + j) = fillP x y z wt zn wy j := by
  unfold comeS
  rw [if_neg (by omega)]
  unfold comeR putS
  generalize hp : 21 + 7 * c = p
  rw [kuf_ne (by omega)]
  match j, hj with
  | 0, _ => simp [kuf, fillP]
  | 1, _ => simp [kuf, fillP]
  | 2, _ => simp [kuf, fillP]
  | 3, _ => simp [kuf, fillP]
  | 4, _ => simp [kuf, fillP]
  | 5, _ => simp [kuf, fillP]
  | 6, _ => simp [kuf, fillP]
theorem adm_off {w : kM} {o : Nat} {s : Nat → Int32} {c : Nat} {σ : Nat → Nat} (H : offP w o s c σ) (hc : c < 7) {x y z wt zn wy : Int32} : offP (kup (kup w (o + 5 + σ c) (kO 2 (pF (fillP x y z wt zn wy)))) o (kO 1 (kuF (oF o s) 4 (.int (s 20 + 1))))) o (comeS s c x y z wt zn wy) (c + 1) σ := by
  have h7 := H.c7
  have e20 : s 20 + 1 = (comeS s c x y z wt zn wy) 20 := by rw [comeS_20 (by omega), H.sz]; exact kA (a := c) (b := 1) rfl rfl
  have hl := H.lt c (by omega)
  refine ⟨(kup_self _ _ _).trans (congrArg (kO 1) ?_), (kup_ne (by omega)).trans ((kup_ne (by omega)).trans H.ps), ?_, ?_, ?_, H.lt, H.inj, ?_, ?_, comeS_20 (by omega), by omega⟩
  · funext j
    match j with
    | 0 => rfl
    | 1 => rfl
    | 2 => rfl
    | 3 => rfl
    | 4 => show Value.int (s 20 + 1) = Value.int ((comeS s c x y z wt zn wy) 20); rw [e20]
    | 5 => show Value.int (s 70) = Value.int ((comeS s c x y z wt zn wy) 70); rw [comeS_ne hc (by omega)]
    | 6 => show Value.int (s 71) = Value.int ((comeS s c x y z wt zn wy) 71); rw [comeS_ne hc (by omega)]
    | 7 => show Value.int (s 72) = Value.int ((comeS s c x y z wt zn wy) 72); rw [comeS_ne hc (by omega)]
    | 8 => show Value.int (s 73) = Value.int ((comeS s c x y z wt zn wy) 73); rw [comeS_ne hc (by omega)]
    | 9 => show Value.int (s 74) = Value.int ((comeS s c x y z wt zn wy) 74); rw [comeS_ne hc (by omega)]
    | q + 10 => simp [kuF, oF]
  · exact (kup_ne (by omega)).trans ((kup_ne (by omega)).trans (H.pr.trans (congrArg (kI 0 12) (tr_eq fun j hj => (comeS_ne hc (by omega)).symm))))
  · exact (kup_ne (by omega)).trans ((kup_ne (by omega)).trans (H.fa.trans (congrArg (kI 0 4) (tr_eq fun j hj => (comeS_ne hc (by omega)).symm))))
  · exact (kup_ne (by omega)).trans ((kup_ne (by omega)).trans (H.se.trans (congrArg (kI 0 4) (tr_eq fun j hj => (comeS_ne hc (by omega)).symm))))
  · intro j hj
    refine (kup_ne (by omega)).trans ?_
    by_cases g : j = c
    · subst g
      rw [kup_self]
      exact congrArg (kO 2) (pF_eq fun i hi => (comeS_pa hc hi).symm)
    · have hn : σ j ≠ σ c := fun e => g (H.inj j (by omega) c (by omega) e)
      rw [kup_ne (by omega), H.par j (by omega)]
      exact congrArg (kO 2) (pF_eq fun i hi => (comeS_ne (i := 21 + 7 * j + i) hc (by omega)).symm)
  · intro j hj
    rw [kup_ne (by omega)]
    by_cases g : j = c
    · subst g
      rw [kup_self]
      exact ⟨_, rfl⟩
    · have hn : σ j ≠ σ c := fun e => g (H.inj j (by omega) c (by omega) e)
      rw [kup_ne (by omega)]
      exact H.any j hj
theorem cpy12 {f g : Nat → Int32} : va_cpy (tr 12 f) (tr 12 g) (0 : Int32).toNatClampNeg (0 : Int32).toNatClampNeg (12 : Int32).toNatClampNeg = tr 12 f := by
  funext j
  rw [show (0 : Int32).toNatClampNeg = 0 from rfl, show (12 : Int32).toNatClampNeg = 12 from rfl]
  unfold va_cpy tr
  by_cases h : j < 12
  · simp [h]
  · simp [h]
theorem cpy4 {f g : Nat → Int32} : va_cpy (tr 4 f) (tr 4 g) (0 : Int32).toNatClampNeg (0 : Int32).toNatClampNeg (4 : Int32).toNatClampNeg = tr 4 f := by
  funext j
  rw [show (0 : Int32).toNatClampNeg = 0 from rfl, show (4 : Int32).toNatClampNeg = 4 from rfl]
  unfold va_cpy tr
  by_cases h : j < 4
  · simp [h]
  · simp [h]
theorem oF_all {o : Nat} {s r : Nat → Int32} : kuF (kuF (kuF (kuF (kuF (kuF (oF o s) 4 (.int (r 20))) 5 (.int (r 70))) 6 (.int (r 71))) 7 (.int (r 72))) 8 (.int (r 73))) 9 (.int (r 74)) = oF o r := by
  funext j
  match j with
  | 0 => rfl
  | 1 => rfl
  | 2 => rfl
  | 3 => rfl
  | 4 => rfl
  | 5 => rfl
  | 6 => rfl
  | 7 => rfl
  | 8 => rfl
  | 9 => rfl
  | q + 10 => simp [kuF, oF]
set_option maxRecDepth 100000 in
set_option maxHeartbeats 4000000 in
theorem c1_admit {w : kM} {o : Nat} {s : Nat → Int32} {c : Nat} {σ : Nat → Nat} (H : offP w o s c σ) {x y z : Int32} (hx : 0 ≤ x ∧ 0 ≤ y ∧ 0 ≤ z) (wt zn wy : Int32) : kCtrW mX1_admit 3 [.ref o, .int x, .int y, .int z, .int wt, .int zn, .int wy] w (some (.int (comeV c))) (fun w' => (∃ c', c' = (if c = 7 then 7 else c + 1) ∧ offP w' o (comeS s c x y z wt zn wy) c' σ) ∧ ∀ a, (a < o ∨ o + 12 ≤ a) → w' a = w a) := by
  refine kCtrW.of pl1 nlX1_admit rfl (Nat.le_of_ble_eq_true rfl) (fun n => ?_)
  have h7 := H.c7
  refine kw_aload_n (pc := 0) dX1_admit_0 rfl ?_
  refine kw_getfield (pc := 1) kfw dX1_admit_1 fX1_31 H.ob rfl ?_
  refine kw_aload_n (pc := 4) dX1_admit_4 rfl ?_
  refine kw_getfield (pc := 5) kfw dX1_admit_5 fX1_11 H.ob rfl ?_
  refine kw_alenV (pc := 8) (v := 7) dX1_admit_8 H.ps rfl ?_
  refine kw_icmp_lt (tgt := 24) (pc := 9) dX1_admit_9 (by decide) (fun h9 => ?_) (fun h9 => ?_)
  · have h9 := (kLtI (a := c) (b := 7) (by omega) (by omega) H.sz (rfl : (7 : Int32) = nI 7)).mp h9
    have c7 : ¬ c = 7 := by omega
    have hl := H.lt c (by omega)
    obtain ⟨P, hP⟩ := H.any c (by omega)
    refine kw_aload_n (pc := 24) dX1_admit_24 rfl ?_
    refine kw_getfield (pc := 25) kfw dX1_admit_25 fX1_11 H.ob rfl ?_
    refine kw_aload_n (pc := 28) dX1_admit_28 rfl ?_
    refine kw_getfield (pc := 29) kfw dX1_admit_29 fX1_31 H.ob rfl ?_
    refine kw_aaloadT (pc := 32) (i := c) dX1_admit_32 H.ps rfl H.sz (by omega) (by decide) rfl ?_
    refine kw_iload_n (pc := 33) dX1_admit_33 rfl ?_
    refine kw_iload_n (pc := 34) dX1_admit_34 rfl ?_
    refine kw_iload_n (pc := 35) dX1_admit_35 rfl ?_
    refine kw_iload (pc := 36) dX1_admit_36 rfl ?_
    refine kw_iload (pc := 38) dX1_admit_38 rfl ?_
    refine kw_iload (pc := 40) dX1_admit_40 rfl ?_
    refine kw_callVw0 (pc := 42) dX1_admit_42 lX1_60 (c2_fill hP hx _ _ _) hP rfl rfl rfl ⟨by decide, by decide, Nat.le_of_ble_eq_true rfl⟩ (fun w1 hw1 => ?_)
    have hw1 : w1 = _ := hw1
    subst hw1
    refine kw_aload_n (pc := 45) dX1_admit_45 rfl ?_
    refine kw_dup (pc := 46) dX1_admit_46 rfl ?_
    refine kw_getfield (pc := 47) kfw dX1_admit_47 fX1_31 ((kup_ne (by omega)).trans H.ob) rfl ?_
    refine kw_iconst (v := 1) (pc := 50) dX1_admit_50 (by decide) ?_
    refine kw_iadd (pc := 51) dX1_admit_51 ?_
    refine kw_putfield (pc := 52) kfw dX1_admit_52 fX1_31 ((kup_ne (by omega)).trans H.ob) (fun _ _ => rfl) (fun _ _ => rfl) ?_
    refine kw_aload_n (pc := 55) dX1_admit_55 rfl ?_
    refine kw_getfield (pc := 56) kfw dX1_admit_56 fX1_31 (kup_self _ _ _) rfl ?_
    refine kw_iconst (v := 1) (pc := 59) dX1_admit_59 (by decide) ?_
    refine kw_isub (pc := 60) dX1_admit_60 ?_
    exact kw_ireturn nlX1_admit (pc := 61) dX1_admit_61 rfl rfl ⟨kv_eq (by rw [comeV, if_neg c7, Int32.add_sub_cancel]; exact H.sz), ⟨⟨c + 1, by rw [if_neg c7], adm_off H (by omega)⟩, fun a q1 => (kup_ne (by omega)).trans (kup_ne (by omega))⟩, rfl⟩
  · have h9 := mt (kLtI (a := c) (b := 7) (by omega) (by omega) H.sz (rfl : (7 : Int32) = nI 7)).mpr h9
    have c7 : c = 7 := by omega
    refine kw_aload_n (pc := 12) dX1_admit_12 rfl ?_
    refine kw_dup (pc := 13) dX1_admit_13 rfl ?_
    refine kw_getfield (pc := 14) kfw dX1_admit_14 fX1_57 H.ob rfl ?_
    refine kw_iconst (v := 1) (pc := 17) dX1_admit_17 (by decide) ?_
    refine kw_iadd (pc := 18) dX1_admit_18 ?_
    refine kw_putfield (pc := 19) kfw dX1_admit_19 fX1_57 H.ob (fun _ _ => rfl) (fun _ _ => rfl) (kgen (fun w1 hw1 => ?_))
    obtain ⟨H1, F1⟩ := off_w (i := 74) hw1 H rfl (by decide) (by decide)
    clear hw1
    refine kw_iconst (v := -1) (pc := 22) dX1_admit_22 (by decide) ?_
    exact kw_ireturn nlX1_admit (pc := 23) dX1_admit_23 rfl rfl ⟨kv_eq (by rw [comeV, if_pos c7]), ⟨⟨7, by rw [if_pos c7], by rw [comeS, if_pos c7]; exact c7 ▸ H1⟩, fun a q1 => F1 a (by omega)⟩, rfl⟩
set_option maxRecDepth 100000 in
set_option maxHeartbeats 4000000 in
theorem c1_copyFrom {w : kM} {o : Nat} {s : Nat → Int32} {c : Nat} {σ : Nat → Nat} (H : offP w o s c σ) {o2 : Nat} {r : Nat → Int32} {c2 : Nat} {σ2 : Nat → Nat} (H2 : offP w o2 r c2 σ2) (hd : o + 12 ≤ o2 ∨ o2 + 12 ≤ o) : kCtrW mX1_copyFrom 1 [.ref o, .ref o2] w none (fun w' => offP w' o r c2 σ ∧ ∀ a, (a < o ∨ o + 12 ≤ a) → w' a = w a) := by
  refine kCtrW.of pl1 nlX1_copyFrom rfl (Nat.le_of_ble_eq_true rfl) (fun n => ?_)
  have h7 := H.c7
  have h72 := H2.c7
  have loop : ∀ (m i : Nat) (wi : kM), m = c2 - i → i ≤ c2 → (∀ a, (∀ j, j < i → a ≠ o + 5 + σ j) → wi a = w a) → (∀ j, j < i → wi (o + 5 + σ j) = kO 2 (pF (pa r (21 + 7 * j)))) → kW (0, fun _ => 0) mX1_copyFrom 1 (fun o' w' n' => o' = .inl none ∧ (fun w' => offP w' o r c2 σ ∧ ∀ a, (a < o ∨ o + 12 ≤ a) → w' a = w a) w' ∧ n' = n) 0 0 n wi 2 [(0, .ref o), (1, .ref o2), (2, .int (nI i))] [] := by
    intro m
    induction m using Nat.strongRecOn with
    | _ m ih =>
      intro i wi hm hi F G
      have Hs : offP wi o2 r c2 σ2 := H2.fr (fun a h1 h2 => F a (fun j hj => by have := H.lt j (by omega); omega))
      have ho : wi o = kO 1 (oF o s) := (F _ (fun j hj => by omega)).trans H.ob
      have hps := (F (o + 1) (fun j hj => by omega)).trans H.ps
      have hpr := (F (o + 2) (fun j hj => by omega)).trans H.pr
      have hfa := (F (o + 3) (fun j hj => by omega)).trans H.fa
      have hse := (F (o + 4) (fun j hj => by omega)).trans H.se
      refine kw_iload_n (pc := 2) dX1_copyFrom_2 rfl ?_
      refine kw_aload_n (pc := 3) dX1_copyFrom_3 rfl ?_
      refine kw_getfield (pc := 4) kfw dX1_copyFrom_4 fX1_31 (Hs.ob) rfl ?_
      refine kw_icmp_ge (tgt := 40) (pc := 7) dX1_copyFrom_7 (by decide) (fun h7 => ?_) (fun h7 => ?_)
      · have h7 := (kLeI (a := c2) (b := i) (by omega) (by omega) H2.sz rfl).mp h7
        obtain rfl : c2 = i := by omega
        have any_of : ∀ k, k < 7 → ∃ P, (kup (kup (kup (kup wi (o + 2) (kI 0 12 (tr 12 (fun j => r (4 + j))))) (o + 3) (kI 0 4 (tr 4 (fun j => r (16 + j))))) (o + 4) (kI 0 4 (tr 4 r))) o (kO 1 (kuF (kuF (kuF (kuF (kuF (kuF (oF o s) 4 (.int (r 20))) 5 (.int (r 70))) 6 (.int (r 71))) 7 (.int (r 72))) 8 (.int (r 73))) 9 (.int (r 74))))) (o + 5 + σ k) = kO 2 (pF P) := by
          intro k hk
          rw [kup_ne (by omega), kup_ne (by omega), kup_ne (by omega), kup_ne (by omega)]
          by_cases e : k < c2
          · exact ⟨_, G k e⟩
          · rw [F _ (fun j hj e2 => by have := H.inj k hk j (by omega) (by omega); omega)]
            exact H.any k hk
        refine kw_aload_n (pc := 40) dX1_copyFrom_40 rfl ?_
        refine kw_getfield (pc := 41) kfw dX1_copyFrom_41 fX1_17 (Hs.ob) rfl ?_
        refine kw_iconst (v := 0) (pc := 44) dX1_copyFrom_44 (by decide) ?_
        refine kw_aload_n (pc := 45) dX1_copyFrom_45 rfl ?_
        refine kw_getfield (pc := 46) kfw dX1_copyFrom_46 fX1_17 (ho) rfl ?_
        refine kw_iconst (v := 0) (pc := 49) dX1_copyFrom_49 (by decide) ?_
        refine kw_bipush (v := 12) (pc := 50) dX1_copyFrom_50 (by decide) ?_
        refine kw_acopy (pc := 52) dX1_copyFrom_52 lX1_39 kac1 kac2 kac3 (Hs.pr) (hpr) (by omega) (by decide) (by decide) (by decide) (by decide) (by decide) (by decide) (Nat.le_of_ble_eq_true rfl) (kW.eq (by rw [cpy12]) rfl ?_)
        refine kw_aload_n (pc := 55) dX1_copyFrom_55 rfl ?_
        refine kw_getfield (pc := 56) kfw dX1_copyFrom_56 fX1_21 ((kup_ne (by omega)).trans (Hs.ob)) rfl ?_
        refine kw_iconst (v := 0) (pc := 59) dX1_copyFrom_59 (by decide) ?_
        refine kw_aload_n (pc := 60) dX1_copyFrom_60 rfl ?_
        refine kw_getfield (pc := 61) kfw dX1_copyFrom_61 fX1_21 ((kup_ne (by omega)).trans (ho)) rfl ?_
        refine kw_iconst (v := 0) (pc := 64) dX1_copyFrom_64 (by decide) ?_
        refine kw_iconst (v := 4) (pc := 65) dX1_copyFrom_65 (by decide) ?_
        refine kw_acopy (pc := 66) dX1_copyFrom_66 lX1_39 kac1 kac2 kac3 ((kup_ne (by omega)).trans (Hs.fa)) ((kup_ne (by omega)).trans (hfa)) (by omega) (by decide) (by decide) (by decide) (by decide) (by decide) (by decide) (Nat.le_of_ble_eq_true rfl) (kW.eq (by rw [cpy4]) rfl ?_)
        refine kw_aload_n (pc := 69) dX1_copyFrom_69 rfl ?_
        refine kw_getfield (pc := 70) kfw dX1_copyFrom_70 fX1_24 ((kup_ne (by omega)).trans ((kup_ne (by omega)).trans (Hs.ob))) rfl ?_
        refine kw_iconst (v := 0) (pc := 73) dX1_copyFrom_73 (by decide) ?_
        refine kw_aload_n (pc := 74) dX1_copyFrom_74 rfl ?_
        refine kw_getfield (pc := 75) kfw dX1_copyFrom_75 fX1_24 ((kup_ne (by omega)).trans ((kup_ne (by omega)).trans (ho))) rfl ?_
        refine kw_iconst (v := 0) (pc := 78) dX1_copyFrom_78 (by decide) ?_
        refine kw_iconst (v := 4) (pc := 79) dX1_copyFrom_79 (by decide) ?_
        refine kw_acopy (pc := 80) dX1_copyFrom_80 lX1_39 kac1 kac2 kac3 ((kup_ne (by omega)).trans ((kup_ne (by omega)).trans (Hs.se))) ((kup_ne (by omega)).trans ((kup_ne (by omega)).trans (hse))) (by omega) (by decide) (by decide) (by decide) (by decide) (by decide) (by decide) (Nat.le_of_ble_eq_true rfl) (kW.eq (by rw [cpy4]) rfl ?_)
        refine kw_aload_n (pc := 83) dX1_copyFrom_83 rfl ?_
        refine kw_aload_n (pc := 84) dX1_copyFrom_84 rfl ?_
        refine kw_getfield (pc := 85) kfw dX1_copyFrom_85 fX1_31 ((kup_ne (by omega)).trans ((kup_ne (by omega)).trans ((kup_ne (by omega)).trans (Hs.ob)))) rfl ?_
        refine kw_putfield (pc := 88) kfw dX1_copyFrom_88 fX1_31 ((kup_ne (by omega)).trans ((kup_ne (by omega)).trans ((kup_ne (by omega)).trans (ho)))) (fun _ _ => rfl) (fun _ _ => rfl) ?_
        refine kw_aload_n (pc := 91) dX1_copyFrom_91 rfl ?_
        refine kw_aload_n (pc := 92) dX1_copyFrom_92 rfl ?_
        refine kw_getfield (pc := 93) kfw dX1_copyFrom_93 fX1_45 ((kup_ne (by omega)).trans ((kup_ne (by omega)).trans ((kup_ne (by omega)).trans ((kup_ne (by omega)).trans (Hs.ob))))) rfl ?_
        refine kw_putfield (pc := 96) kfw dX1_copyFrom_96 fX1_45 (kup_self _ _ _) (fun _ _ => rfl) (fun _ _ => rfl) (kW.eq kup_kup rfl ?_)
        refine kw_aload_n (pc := 99) dX1_copyFrom_99 rfl ?_
        refine kw_aload_n (pc := 100) dX1_copyFrom_100 rfl ?_
        refine kw_getfield (pc := 101) kfw dX1_copyFrom_101 fX1_48 ((kup_ne (by omega)).trans ((kup_ne (by omega)).trans ((kup_ne (by omega)).trans ((kup_ne (by omega)).trans (Hs.ob))))) rfl ?_
        refine kw_putfield (pc := 104) kfw dX1_copyFrom_104 fX1_48 (kup_self _ _ _) (fun _ _ => rfl) (fun _ _ => rfl) (kW.eq kup_kup rfl ?_)
        refine kw_aload_n (pc := 107) dX1_copyFrom_107 rfl ?_
        refine kw_aload_n (pc := 108) dX1_copyFrom_108 rfl ?_
        refine kw_getfield (pc := 109) kfw dX1_copyFrom_109 fX1_51 ((kup_ne (by omega)).trans ((kup_ne (by omega)).trans ((kup_ne (by omega)).trans ((kup_ne (by omega)).trans (Hs.ob))))) rfl ?_
        refine kw_putfield (pc := 112) kfw dX1_copyFrom_112 fX1_51 (kup_self _ _ _) (fun _ _ => rfl) (fun _ _ => rfl) (kW.eq kup_kup rfl ?_)
        refine kw_aload_n (pc := 115) dX1_copyFrom_115 rfl ?_
        refine kw_aload_n (pc := 116) dX1_copyFrom_116 rfl ?_
        refine kw_getfield (pc := 117) kfw dX1_copyFrom_117 fX1_54 ((kup_ne (by omega)).trans ((kup_ne (by omega)).trans ((kup_ne (by omega)).trans ((kup_ne (by omega)).trans (Hs.ob))))) rfl ?_
        refine kw_putfield (pc := 120) kfw dX1_copyFrom_120 fX1_54 (kup_self _ _ _) (fun _ _ => rfl) (fun _ _ => rfl) (kW.eq kup_kup rfl ?_)
        refine kw_aload_n (pc := 123) dX1_copyFrom_123 rfl ?_
        refine kw_aload_n (pc := 124) dX1_copyFrom_124 rfl ?_
        refine kw_getfield (pc := 125) kfw dX1_copyFrom_125 fX1_57 ((kup_ne (by omega)).trans ((kup_ne (by omega)).trans ((kup_ne (by omega)).trans ((kup_ne (by omega)).trans (Hs.ob))))) rfl ?_
        refine kw_putfield (pc := 128) kfw dX1_copyFrom_128 fX1_57 (kup_self _ _ _) (fun _ _ => rfl) (fun _ _ => rfl) (kW.eq kup_kup rfl ?_)
        exact kw_return nlX1_copyFrom (pc := 131) dX1_copyFrom_131 rfl ⟨rfl, ⟨⟨(kup_self _ _ _).trans (congrArg (kO 1) oF_all), ((kup_ne (by omega)).trans ((kup_ne (by omega)).trans ((kup_ne (by omega)).trans ((kup_ne (by omega)).trans (hps))))), (kup_ne (by omega)).trans ((kup_ne (by omega)).trans ((kup_ne (by omega)).trans (kup_self _ _ _))), (kup_ne (by omega)).trans ((kup_ne (by omega)).trans (kup_self _ _ _)), (kup_ne (by omega)).trans (kup_self _ _ _), H.lt, H.inj, fun k hk => by have := H.lt k (by omega); exact ((kup_ne (by omega)).trans ((kup_ne (by omega)).trans ((kup_ne (by omega)).trans ((kup_ne (by omega)).trans (G k (by omega)))))), fun k hk => by have := H.lt k hk; exact (any_of k hk), H2.sz, H2.c7⟩, fun a q1 => ((kup_ne (by omega)).trans ((kup_ne (by omega)).trans ((kup_ne (by omega)).trans ((kup_ne (by omega)).trans (F a (fun j hj => by have := H.lt j (by omega); omega))))))⟩, rfl⟩
      · have h7 := mt (kLeI (a := c2) (b := i) (by omega) (by omega) H2.sz rfl).mpr h7
        refine kw_iload_n (pc := 10) dX1_copyFrom_10 rfl ?_
        refine kw_aload_n (pc := 11) dX1_copyFrom_11 rfl ?_
        refine kw_getfield (pc := 12) kfw dX1_copyFrom_12 fX1_11 (ho) rfl ?_
        refine kw_alenV (pc := 15) (v := 7) dX1_copyFrom_15 hps rfl ?_
        refine kw_icmp_ge (tgt := 40) (pc := 16) dX1_copyFrom_16 (by decide) (fun h16 => ?_) (fun h16 => ?_)
        · have h16 := (kLeI (a := 7) (b := i) (by omega) (by omega) (rfl : (7 : Int32) = nI 7) rfl).mp h16
          exfalso; omega
        · have h16 := mt (kLeI (a := 7) (b := i) (by omega) (by omega) (rfl : (7 : Int32) = nI 7) rfl).mpr h16
          have hi7 : i < 7 := by omega
          have hl1 := H.lt i hi7
          have hl2 := H2.lt i hi7
          obtain ⟨P, hP0⟩ := H.any i hi7
          have hP := (F (o + 5 + σ i) (fun j hj e => by have := H.inj i hi7 j (by omega) (by omega); omega)).trans hP0
          have hne : o2 + 5 + σ2 i ≠ o + 5 + σ i := by omega
          refine kw_aload_n (pc := 19) dX1_copyFrom_19 rfl ?_
          refine kw_getfield (pc := 20) kfw dX1_copyFrom_20 fX1_11 (ho) rfl ?_
          refine kw_iload_n (pc := 23) dX1_copyFrom_23 rfl ?_
          refine kw_aaloadT (pc := 24) (i := i) dX1_copyFrom_24 hps rfl rfl (by omega) (by decide) rfl ?_
          refine kw_aload_n (pc := 25) dX1_copyFrom_25 rfl ?_
          refine kw_getfield (pc := 26) kfw dX1_copyFrom_26 fX1_11 (Hs.ob) rfl ?_
          refine kw_iload_n (pc := 29) dX1_copyFrom_29 rfl ?_
          refine kw_aaloadT (pc := 30) (i := i) dX1_copyFrom_30 Hs.ps rfl rfl (by omega) (by decide) rfl ?_
          refine kw_callVw0 (pc := 31) dX1_copyFrom_31 lX1_35 (c2_copy hP hne (Hs.par i (by omega))) hP rfl rfl rfl ⟨by decide, by decide, Nat.le_of_ble_eq_true rfl⟩ (fun w1 hw1 => ?_)
          have hw1 : w1 = _ := hw1
          subst hw1
          refine kw_iinc (pc := 34) dX1_copyFrom_34 (by decide) rfl rfl rfl ?_
          refine kw_goto (tgt := 2) (pc := 37) dX1_copyFrom_37 (by decide) ?_
          exact kW.locs (ih (c2 - (i + 1)) (by omega) (i + 1) _ rfl (by omega) (fun a ha => (kup_ne (ha i (by omega))).trans (F a (fun j hj => ha j (by omega)))) (fun j hj => by
            by_cases e : j = i
            · subst e; exact kup_self _ _ _
            · exact (kup_ne (fun e2 => e (H.inj j (by omega) i hi7 (by omega)))).trans (G j (by omega)))) ⟨rfl, rfl, kgE rfl (kA (a := i) (b := 1) rfl (rfl : (Int32.ofInt 1) = nI 1)), trivial⟩
  refine kw_iconst (v := 0) (pc := 0) dX1_copyFrom_0 (by decide) ?_
  refine kw_istore_n (pc := 1) dX1_copyFrom_1 (by decide) rfl ?_
  exact kW.locs (loop (c2 - 0) 0 w rfl (Nat.zero_le _) (fun _ _ => rfl) (fun j hj => absurd hj (Nat.not_lt_zero j))) ⟨rfl, rfl, rfl, trivial⟩
