theorem comeS_hi {s : Nat → Int32} {c i : Nat} (h : 75 ≤ i) (hc : c ≤ 7) {x y z wt zn wy : Int32} : comeS s c x y z wt zn wy i = s i := by
  by_cases e : c = 7
  · unfold comeS
    rw [if_pos e, kuf_ne (by omega)]
  · exact comeS_ne (by omega) (by omega)
theorem sentS_hi {s : Nat → Int32} {k c i : Nat} (h : 75 ≤ i) (hc : c ≤ 7) {z : Int32} : sentS s k c z i = s i := by
  unfold sentS
  rw [goneS_hi hc (by omega), kuf_ne (by omega), kuf_ne (by omega)]
theorem off_par {w : kM} {o : Nat} {s : Nat → Int32} {c k j : Nat} {σ : Nat → Nat} {v : Int32} (H : offP w o s c σ) (hk : k < c) (hj : j < 7) : offP (kup w (o + 5 + σ k) (kO 2 (pF (kuf (pa s (21 + 7 * k)) j v)))) o (kuf s (21 + 7 * k + j) v) c σ := by
  have h7 := H.c7
  have hl := H.lt k (by omega)
  refine ⟨(kup_ne (by omega)).trans (H.ob.trans (congrArg (kO 1) ?_)), (kup_ne (by omega)).trans H.ps, (kup_ne (by omega)).trans (H.pr.trans (congrArg (kI 0 12) (tr_eq fun i hi => (kuf_ne (by omega)).symm))), (kup_ne (by omega)).trans (H.fa.trans (congrArg (kI 0 4) (tr_eq fun i hi => (kuf_ne (by omega)).symm))), (kup_ne (by omega)).trans (H.se.trans (congrArg (kI 0 4) (tr_eq fun i hi => (kuf_ne (by omega)).symm))), H.lt, H.inj, fun i hi => ?_, fun i hi => ?_, (kuf_ne (by omega)).trans H.sz, h7⟩
  · unfold oF
    rw [kuf_ne (by omega), kuf_ne (by omega), kuf_ne (by omega), kuf_ne (by omega), kuf_ne (by omega), kuf_ne (by omega)]
  · by_cases e : i = k
    · subst e
      rw [kup_self]
      refine congrArg (kO 2) (pF_eq fun a ha => ?_)
      show kuf (pa s (21 + 7 * i)) j v a = kuf s (21 + 7 * i + j) v (21 + 7 * i + a)
      unfold kuf
      by_cases e2 : a = j
      · rw [if_pos e2, if_pos (by omega)]
      · rw [if_neg e2, if_neg (by omega)]
    · have hn : σ i ≠ σ k := fun h => e (H.inj i (by omega) k (by omega) h)
      rw [kup_ne (by omega), H.par i hi]
      exact congrArg (kO 2) (pF_eq fun a ha => (kuf_ne (j := 21 + 7 * i + a) (by omega)).symm)
  · by_cases e : i = k
    · subst e
      exact ⟨_, kup_self _ _ _⟩
    · have hn : σ i ≠ σ k := fun h => e (H.inj i (by omega) k (by omega) h)
      rw [kup_ne (by omega)]
      exact H.any i hi
/-- a price, a factor, a setting written -/
theorem off_arr {w : kM} {o : Nat} {s : Nat → Int32} {c i : Nat} {σ : Nat → Nat} {v : Int32} (H : offP w o s c σ) (hi : i < 20) : offP (kup (kup (kup w (o + 2) (kI 0 12 (tr 12 (fun j => kuf s i v (4 + j))))) (o + 3) (kI 0 4 (tr 4 (fun j => kuf s i v (16 + j))))) (o + 4) (kI 0 4 (tr 4 (kuf s i v)))) o (kuf s i v) c σ := by
  have h7 := H.c7
  refine ⟨(kup_ne (by omega)).trans ((kup_ne (by omega)).trans ((kup_ne (by omega)).trans (H.ob.trans (congrArg (kO 1) ?_)))), (kup_ne (by omega)).trans ((kup_ne (by omega)).trans ((kup_ne (by omega)).trans H.ps)), (kup_ne (by omega)).trans ((kup_ne (by omega)).trans (kup_self _ _ _)), (kup_ne (by omega)).trans (kup_self _ _ _), kup_self _ _ _, H.lt, H.inj, fun k hk => ?_, fun k hk => ?_, (kuf_ne (by omega)).trans H.sz, h7⟩
  · unfold oF
    rw [kuf_ne (by omega), kuf_ne (by omega), kuf_ne (by omega), kuf_ne (by omega), kuf_ne (by omega), kuf_ne (by omega)]
  · rw [kup_ne (by omega), kup_ne (by omega), kup_ne (by omega), H.par k hk]
    exact congrArg (kO 2) (pF_eq fun a ha => (kuf_ne (j := 21 + 7 * k + a) (by omega)).symm)
  · rw [kup_ne (by omega), kup_ne (by omega), kup_ne (by omega)]
    exact H.any k hk
theorem off_pr {w : kM} {o : Nat} {s : Nat → Int32} {c b : Nat} {σ : Nat → Nat} {v : Int32} (H : offP w o s c σ) (hb : b < 12) : offP (kup w (o + 2) (kI 0 12 (tr 12 (kuf (fun j => s (4 + j)) b v)))) o (kuf s (4 + b) v) c σ := by
  have e := off_arr (i := 4 + b) (v := v) H (by omega)
  have e1 : tr 12 (fun j => kuf s (4 + b) v (4 + j)) = tr 12 (kuf (fun j => s (4 + j)) b v) := tr_eq (fun j _ => by
    unfold kuf
    by_cases h : j = b
    · rw [if_pos h, if_pos (by omega)]
    · rw [if_neg h, if_neg (by omega)])
  have e2 : tr 4 (fun j => kuf s (4 + b) v (16 + j)) = tr 4 (fun j => s (16 + j)) := tr_eq (fun j _ => kuf_ne (by omega))
  have e3 : tr 4 (kuf s (4 + b) v) = tr 4 s := tr_eq (fun j _ => kuf_ne (by omega))
  rw [e1, e2, e3] at e
  rw [kup_id (w := kup w (o + 2) (kI 0 12 (tr 12 (kuf (fun j => s (4 + j)) b v)))) (a := o + 3) ((kup_ne (by omega)).trans H.fa), kup_id (w := kup w (o + 2) (kI 0 12 (tr 12 (kuf (fun j => s (4 + j)) b v)))) (a := o + 4) ((kup_ne (by omega)).trans H.se)] at e
  exact e
theorem off_fa {w : kM} {o : Nat} {s : Nat → Int32} {c b : Nat} {σ : Nat → Nat} {v : Int32} (H : offP w o s c σ) (hb : b < 4) : offP (kup w (o + 3) (kI 0 4 (tr 4 (kuf (fun j => s (16 + j)) b v)))) o (kuf s (16 + b) v) c σ := by
  have e := off_arr (i := 16 + b) (v := v) H (by omega)
  have e1 : tr 12 (fun j => kuf s (16 + b) v (4 + j)) = tr 12 (fun j => s (4 + j)) := tr_eq (fun j _ => kuf_ne (by omega))
  have e2 : tr 4 (fun j => kuf s (16 + b) v (16 + j)) = tr 4 (kuf (fun j => s (16 + j)) b v) := tr_eq (fun j _ => by
    unfold kuf
    by_cases h : j = b
    · rw [if_pos h, if_pos (by omega)]
    · rw [if_neg h, if_neg (by omega)])
  have e3 : tr 4 (kuf s (16 + b) v) = tr 4 s := tr_eq (fun j _ => kuf_ne (by omega))
  rw [e1, e2, e3] at e
  rw [kup_id (a := o + 2) H.pr, kup_id (w := kup w (o + 3) (kI 0 4 (tr 4 (kuf (fun j => s (16 + j)) b v)))) (a := o + 4) ((kup_ne (by omega)).trans H.se)] at e
  exact e
theorem off_se {w : kM} {o : Nat} {s : Nat → Int32} {c b : Nat} {σ : Nat → Nat} {v : Int32} (H : offP w o s c σ) (hb : b < 4) : offP (kup w (o + 4) (kI 0 4 (tr 4 (kuf s b v)))) o (kuf s b v) c σ := by
  have e := off_arr (i := b) (v := v) H (by omega)
  have e1 : tr 12 (fun j => kuf s b v (4 + j)) = tr 12 (fun j => s (4 + j)) := tr_eq (fun j _ => kuf_ne (by omega))
  have e2 : tr 4 (fun j => kuf s b v (16 + j)) = tr 4 (fun j => s (16 + j)) := tr_eq (fun j _ => kuf_ne (by omega))
  rw [e1, e2] at e
  rw [kup_id (a := o + 2) H.pr, kup_id (a := o + 3) H.fa] at e
  exact e
theorem set_lo : ∀ b : Nat, b < 4 → ([0, 50, 0, 0] : List Int32).getD (nI b).toNatClampNeg 0 = (if nI b = 1 then 50 else 0) := by decide +kernel
theorem set_hi : ∀ b : Nat, b < 4 → ([20, 300, 20, 50] : List Int32).getD (nI b).toNatClampNeg 0 = (if nI b = 1 then 300 else if nI b = 3 then 50 else 20) := by decide +kernel
set_option maxRecDepth 100000 in
set_option maxHeartbeats 4000000 in
theorem c5_bring {w : kM} {s : Nat → Int32} {q : Nat} {kp bf : Nat → Int32} {T : Nat} (C : cls w s q kp bf T) {c : Nat} (hc : s 20 = nI c) (hc7 : c ≤ 7) {x y z wt zn : Int32} (hB : (1 ≤ x ∧ x ≤ 60) ∧ (1 ≤ y ∧ y ≤ 60) ∧ (1 ≤ z ∧ z ≤ 60) ∧ (1 ≤ wt ∧ wt ≤ 99) ∧ 0 ≤ zn ∧ zn ≤ 3) : kCtrW mX5_bring 4 [.ref 0, .int x, .int y, .int z, .int wt, .int zn] w (some (.int (comeV c))) (fun w' => cls w' (comeS (svS s q) c x y z wt zn 0) (svN q) kp bf T ∧ ∀ a, 128 ≤ a → w' a = w a) := by
  refine kCtrW.of pl5 nlX5_bring rfl (Nat.le_of_ble_eq_true rfl) (fun n => ?_)
  refine kw_iload_n (pc := 0) dX5_bring_0 rfl ?_
  refine kw_iconst (v := 1) (pc := 1) dX5_bring_1 (by decide) ?_
  refine kw_bipush (v := 60) (pc := 2) dX5_bring_2 (by decide) ?_
  refine kw_callSr (pc := 4) dX5_bring_4 lX5_45 (c5_isInT hB.1) rfl rfl ⟨by decide, by decide, Nat.le_of_ble_eq_true rfl⟩ ?_
  refine kw_if_eq (tgt := 34) (pc := 7) dX5_bring_7 (by decide) (fun h7 => ?_) (fun h7 => ?_)
  · exact absurd h7 (by decide)
  · refine kw_iload_n (pc := 10) dX5_bring_10 rfl ?_
    refine kw_iconst (v := 1) (pc := 11) dX5_bring_11 (by decide) ?_
    refine kw_bipush (v := 60) (pc := 12) dX5_bring_12 (by decide) ?_
    refine kw_callSr (pc := 14) dX5_bring_14 lX5_45 (c5_isInT hB.2.1) rfl rfl ⟨by decide, by decide, Nat.le_of_ble_eq_true rfl⟩ ?_
    refine kw_if_eq (tgt := 34) (pc := 17) dX5_bring_17 (by decide) (fun h17 => ?_) (fun h17 => ?_)
    · exact absurd h17 (by decide)
    · refine kw_iload_n (pc := 20) dX5_bring_20 rfl ?_
      refine kw_iconst (v := 1) (pc := 21) dX5_bring_21 (by decide) ?_
      refine kw_bipush (v := 60) (pc := 22) dX5_bring_22 (by decide) ?_
      refine kw_callSr (pc := 24) dX5_bring_24 lX5_45 (c5_isInT hB.2.2.1) rfl rfl ⟨by decide, by decide, Nat.le_of_ble_eq_true rfl⟩ ?_
      refine kw_if_eq (tgt := 34) (pc := 27) dX5_bring_27 (by decide) (fun h27 => ?_) (fun h27 => ?_)
      · exact absurd h27 (by decide)
      · refine kw_iconst (v := 1) (pc := 30) dX5_bring_30 (by decide) ?_
        refine kw_goto (tgt := 35) (pc := 31) dX5_bring_31 (by decide) ?_
        refine kw_callSw0 (pc := 35) dX5_bring_35 lX5_49 (c5_argT (by decide)) rfl rfl ⟨by decide, by decide, Nat.le_of_ble_eq_true rfl⟩ (fun wq hwq => ?_)
        have hwq : w = wq := Eq.symm hwq
        subst hwq
        refine kw_iload (pc := 38) dX5_bring_38 rfl ?_
        refine kw_iconst (v := 1) (pc := 40) dX5_bring_40 (by decide) ?_
        refine kw_bipush (v := 99) (pc := 41) dX5_bring_41 (by decide) ?_
        refine kw_callSr (pc := 43) dX5_bring_43 lX5_45 (c5_isInT hB.2.2.2.1) rfl rfl ⟨by decide, by decide, Nat.le_of_ble_eq_true rfl⟩ ?_
        refine kw_if_eq (tgt := 63) (pc := 46) dX5_bring_46 (by decide) (fun h46 => ?_) (fun h46 => ?_)
        · exact absurd h46 (by decide)
        · refine kw_iload (pc := 49) dX5_bring_49 rfl ?_
          refine kw_iconst (v := 0) (pc := 51) dX5_bring_51 (by decide) ?_
          refine kw_iconst (v := 3) (pc := 52) dX5_bring_52 (by decide) ?_
          refine kw_callSr (pc := 53) dX5_bring_53 lX5_45 (c5_isInT hB.2.2.2.2) rfl rfl ⟨by decide, by decide, Nat.le_of_ble_eq_true rfl⟩ ?_
          refine kw_if_eq (tgt := 63) (pc := 56) dX5_bring_56 (by decide) (fun h56 => ?_) (fun h56 => ?_)
          · exact absurd h56 (by decide)
          · refine kw_iconst (v := 1) (pc := 59) dX5_bring_59 (by decide) ?_
            refine kw_goto (tgt := 64) (pc := 60) dX5_bring_60 (by decide) ?_
            refine kw_callSw0 (pc := 64) dX5_bring_64 lX5_49 (c5_argT (by decide)) rfl rfl ⟨by decide, by decide, Nat.le_of_ble_eq_true rfl⟩ (fun wq hwq => ?_)
            have hwq : w = wq := Eq.symm hwq
            subst hwq
            refine kw_aload_n (pc := 67) dX5_bring_67 rfl ?_
            refine kw_getfield (pc := 68) kfw dX5_bring_68 fX5_27 C.1 rfl ?_
            refine kw_aload_n (pc := 71) dX5_bring_71 rfl ?_
            refine kw_getfield (pc := 72) kfw dX5_bring_72 fX5_10 C.1 rfl ?_
            refine kw_callVw0 (pc := 75) dX5_bring_75 lX5_53 (c4_save C.2.2.1 C.2.1 (by decide)) C.2.2.1.ob rfl rfl rfl ⟨by decide, by decide, Nat.le_of_ble_eq_true rfl⟩ (fun w1 hw1 => ?_)
            obtain ⟨P1, G1⟩ := hw1
            have C1 := C.saved P1 G1
            have E1 : ∀ a, 128 ≤ a → w1 a = w a := fun a h => G1 a (by omega)
            obtain ⟨σ, H⟩ := C1.2.1.c ((svS_low (by decide)).trans hc) hc7
            refine kw_aload_n (pc := 78) dX5_bring_78 rfl ?_
            refine kw_getfield (pc := 79) kfw dX5_bring_79 fX5_10 C1.1 rfl ?_
            refine kw_iload_n (pc := 82) dX5_bring_82 rfl ?_
            refine kw_iload_n (pc := 83) dX5_bring_83 rfl ?_
            refine kw_iload_n (pc := 84) dX5_bring_84 rfl ?_
            refine kw_iload (pc := 85) dX5_bring_85 rfl ?_
            refine kw_iload (pc := 87) dX5_bring_87 rfl ?_
            refine kw_iconst (v := 0) (pc := 89) dX5_bring_89 (by decide) ?_
            refine kw_callVw1 (pc := 90) dX5_bring_90 lX5_57 (c1_admit H ⟨Int32.le_trans (by decide) hB.1.1, Int32.le_trans (by decide) hB.2.1.1, Int32.le_trans (by decide) hB.2.2.1.1⟩ _ _ _) H.ob rfl rfl rfl ⟨by decide, by decide, Nat.le_of_ble_eq_true rfl⟩ (fun w2 hw2 => ?_)
            obtain ⟨⟨c2, -, H2⟩, G2⟩ := hw2
            have H2 : offR w2 1 _ := ⟨_, _, H2⟩
            exact kw_ireturn nlX5_bring (pc := 93) dX5_bring_93 rfl rfl ⟨rfl, ⟨C1.setOff H2 (fun i hi => comeS_hi hi hc7) (fun a h => G2 a (by omega)), fun a h => (G2 a (by omega)).trans (E1 a h)⟩, rfl⟩
set_option maxRecDepth 100000 in
set_option maxHeartbeats 4000000 in
theorem c5_bringX {w : kM} {x y z wt zn : Int32} (hB : ¬ ((1 ≤ x ∧ x ≤ 60) ∧ (1 ≤ y ∧ y ≤ 60) ∧ (1 ≤ z ∧ z ≤ 60) ∧ (1 ≤ wt ∧ wt ≤ 99) ∧ 0 ≤ zn ∧ zn ≤ 3)) : kCtrX mX5_bring 7 [.ref 0, .int x, .int y, .int z, .int wt, .int zn] w kIAE (fun w' => w' = w) := by
  refine kCtrX.of pl5 nlX5_bring rfl (Nat.le_of_ble_eq_true rfl) (fun n => ?_)
  refine kw_iload_n (pc := 0) dX5_bring_0 rfl ?_
  refine kw_iconst (v := 1) (pc := 1) dX5_bring_1 (by decide) ?_
  refine kw_bipush (v := 60) (pc := 2) dX5_bring_2 (by decide) ?_
  refine kw_callSr (pc := 4) dX5_bring_4 lX5_45 (c5_isIn _ _ _) rfl rfl ⟨by decide, by decide, Nat.le_of_ble_eq_true rfl⟩ ?_
  refine kw_if_eq (tgt := 34) (pc := 7) dX5_bring_7 (by decide) (fun h7 => ?_) (fun h7 => ?_)
  · refine kw_iconst (v := 0) (pc := 34) dX5_bring_34 (by decide) ?_
    exact kw_callSx (pc := 35) dX5_bring_35 lX5_49 (c5_argX rfl) rfl rfl ⟨by decide, by decide, Nat.le_of_ble_eq_true rfl, by decide, by decide⟩ nlX5_bring rfl (fun w' n' hp hn => ⟨rfl, hp, hn⟩)
  · refine kw_iload_n (pc := 10) dX5_bring_10 rfl ?_
    refine kw_iconst (v := 1) (pc := 11) dX5_bring_11 (by decide) ?_
    refine kw_bipush (v := 60) (pc := 12) dX5_bring_12 (by decide) ?_
    refine kw_callSr (pc := 14) dX5_bring_14 lX5_45 (c5_isIn _ _ _) rfl rfl ⟨by decide, by decide, Nat.le_of_ble_eq_true rfl⟩ ?_
    refine kw_if_eq (tgt := 34) (pc := 17) dX5_bring_17 (by decide) (fun h17 => ?_) (fun h17 => ?_)
    · refine kw_iconst (v := 0) (pc := 34) dX5_bring_34 (by decide) ?_
      exact kw_callSx (pc := 35) dX5_bring_35 lX5_49 (c5_argX rfl) rfl rfl ⟨by decide, by decide, Nat.le_of_ble_eq_true rfl, by decide, by decide⟩ nlX5_bring rfl (fun w' n' hp hn => ⟨rfl, hp, hn⟩)
    · refine kw_iload_n (pc := 20) dX5_bring_20 rfl ?_
      refine kw_iconst (v := 1) (pc := 21) dX5_bring_21 (by decide) ?_
      refine kw_bipush (v := 60) (pc := 22) dX5_bring_22 (by decide) ?_
      refine kw_callSr (pc := 24) dX5_bring_24 lX5_45 (c5_isIn _ _ _) rfl rfl ⟨by decide, by decide, Nat.le_of_ble_eq_true rfl⟩ ?_
      refine kw_if_eq (tgt := 34) (pc := 27) dX5_bring_27 (by decide) (fun h27 => ?_) (fun h27 => ?_)
      · refine kw_iconst (v := 0) (pc := 34) dX5_bring_34 (by decide) ?_
        exact kw_callSx (pc := 35) dX5_bring_35 lX5_49 (c5_argX rfl) rfl rfl ⟨by decide, by decide, Nat.le_of_ble_eq_true rfl, by decide, by decide⟩ nlX5_bring rfl (fun w' n' hp hn => ⟨rfl, hp, hn⟩)
      · refine kw_iconst (v := 1) (pc := 30) dX5_bring_30 (by decide) ?_
        refine kw_goto (tgt := 35) (pc := 31) dX5_bring_31 (by decide) ?_
        refine kw_callSw0 (pc := 35) dX5_bring_35 lX5_49 (c5_argT (by decide)) rfl rfl ⟨by decide, by decide, Nat.le_of_ble_eq_true rfl⟩ (fun wq hwq => ?_)
        have hwq : w = wq := Eq.symm hwq
        subst hwq
        refine kw_iload (pc := 38) dX5_bring_38 rfl ?_
        refine kw_iconst (v := 1) (pc := 40) dX5_bring_40 (by decide) ?_
        refine kw_bipush (v := 99) (pc := 41) dX5_bring_41 (by decide) ?_
        refine kw_callSr (pc := 43) dX5_bring_43 lX5_45 (c5_isIn _ _ _) rfl rfl ⟨by decide, by decide, Nat.le_of_ble_eq_true rfl⟩ ?_
        refine kw_if_eq (tgt := 63) (pc := 46) dX5_bring_46 (by decide) (fun h46 => ?_) (fun h46 => ?_)
        · refine kw_iconst (v := 0) (pc := 63) dX5_bring_63 (by decide) ?_
          exact kw_callSx (pc := 64) dX5_bring_64 lX5_49 (c5_argX rfl) rfl rfl ⟨by decide, by decide, Nat.le_of_ble_eq_true rfl, by decide, by decide⟩ nlX5_bring rfl (fun w' n' hp hn => ⟨rfl, hp, hn⟩)
        · refine kw_iload (pc := 49) dX5_bring_49 rfl ?_
          refine kw_iconst (v := 0) (pc := 51) dX5_bring_51 (by decide) ?_
          refine kw_iconst (v := 3) (pc := 52) dX5_bring_52 (by decide) ?_
          refine kw_callSr (pc := 53) dX5_bring_53 lX5_45 (c5_isIn _ _ _) rfl rfl ⟨by decide, by decide, Nat.le_of_ble_eq_true rfl⟩ ?_
          refine kw_if_eq (tgt := 63) (pc := 56) dX5_bring_56 (by decide) (fun h56 => ?_) (fun h56 => ?_)
          · refine kw_iconst (v := 0) (pc := 63) dX5_bring_63 (by decide) ?_
            exact kw_callSx (pc := 64) dX5_bring_64 lX5_49 (c5_argX rfl) rfl rfl ⟨by decide, by decide, Nat.le_of_ble_eq_true rfl, by decide, by decide⟩ nlX5_bring rfl (fun w' n' hp hn => ⟨rfl, hp, hn⟩)
          · refine kw_iconst (v := 1) (pc := 59) dX5_bring_59 (by decide) ?_
            refine kw_goto (tgt := 64) (pc := 60) dX5_bring_60 (by decide) ?_
            refine kw_callSw0 (pc := 64) dX5_bring_64 lX5_49 (c5_argT (by decide)) rfl rfl ⟨by decide, by decide, Nat.le_of_ble_eq_true rfl⟩ (fun wq hwq => ?_)
            have hwq : w = wq := Eq.symm hwq
            subst hwq
            exfalso; grind [b2i]
set_option maxRecDepth 100000 in
set_option maxHeartbeats 4000000 in
theorem c5_change {w : kM} {s : Nat → Int32} {q : Nat} {kp bf : Nat → Int32} {T : Nat} (C : cls w s q kp bf T) {c : Nat} (hc : s 20 = nI c) (hc7 : c ≤ 7) {k : Nat} (hk : k < c) {v u : Int32} (hB : (0 ≤ v ∧ v ≤ 1) ∧ 0 ≤ u ∧ u ≤ (if v = 0 then 2 else 8)) : kCtrW mX5_change 3 [.ref 0, .int (nI k), .int v, .int u] w (some (.int (s (21 + 7 * k + (if v = 0 then 6 else 5))))) (fun w' => cls w' (kuf (svS s q) (21 + 7 * k + (if v = 0 then 6 else 5)) u) (svN q) kp bf T ∧ ∀ a, 128 ≤ a → w' a = w a) := by
  refine kCtrW.of pl5 nlX5_change rfl (Nat.le_of_ble_eq_true rfl) (fun n => ?_)
  refine kw_aload_n (pc := 0) dX5_change_0 rfl ?_
  refine kw_iload_n (pc := 1) dX5_change_1 rfl ?_
  refine kw_callVw0 (pc := 2) dX5_change_2 lX5_61 (c5_parT C hc hc7 hk) C.1 rfl rfl rfl ⟨by decide, by decide, Nat.le_of_ble_eq_true rfl⟩ (fun wq hwq => ?_)
  have hwq : w = wq := Eq.symm hwq
  subst hwq
  refine kw_iload_n (pc := 5) dX5_change_5 rfl ?_
  refine kw_if_eq (tgt := 14) (pc := 6) dX5_change_6 (by decide) (fun h6 => ?_) (fun h6 => ?_)
  · refine kw_iconst (v := 1) (pc := 14) dX5_change_14 (by decide) ?_
    refine kw_goto (tgt := 19) (pc := 15) dX5_change_15 (by decide) ?_
    refine kw_callSw0 (pc := 19) dX5_change_19 lX5_49 (c5_argT (by decide)) rfl rfl ⟨by decide, by decide, Nat.le_of_ble_eq_true rfl⟩ (fun wq hwq => ?_)
    have hwq : w = wq := Eq.symm hwq
    subst hwq
    refine kw_iload_n (pc := 22) dX5_change_22 rfl ?_
    refine kw_iconst (v := 0) (pc := 23) dX5_change_23 (by decide) ?_
    refine kw_iload_n (pc := 24) dX5_change_24 rfl ?_
    refine kw_if_ne (tgt := 32) (pc := 25) dX5_change_25 (by decide) (fun h25 => ?_) (fun h25 => ?_)
    · refine kw_bipush (v := 8) (pc := 32) dX5_change_32 (by decide) ?_
      refine kw_callSr (pc := 34) dX5_change_34 lX5_45 (c5_isInT (by have := hB.2; grind)) rfl rfl ⟨by decide, by decide, Nat.le_of_ble_eq_true rfl⟩ ?_
      refine kw_callSw0 (pc := 37) dX5_change_37 lX5_49 (c5_argT (by decide)) rfl rfl ⟨by decide, by decide, Nat.le_of_ble_eq_true rfl⟩ (fun wq hwq => ?_)
      have hwq : w = wq := Eq.symm hwq
      subst hwq
      refine kw_aload_n (pc := 40) dX5_change_40 rfl ?_
      refine kw_getfield (pc := 41) kfw dX5_change_41 fX5_27 C.1 rfl ?_
      refine kw_aload_n (pc := 44) dX5_change_44 rfl ?_
      refine kw_getfield (pc := 45) kfw dX5_change_45 fX5_10 C.1 rfl ?_
      refine kw_callVw0 (pc := 48) dX5_change_48 lX5_53 (c4_save C.2.2.1 C.2.1 (by decide)) C.2.2.1.ob rfl rfl rfl ⟨by decide, by decide, Nat.le_of_ble_eq_true rfl⟩ (fun w1 hw1 => ?_)
      obtain ⟨P1, G1⟩ := hw1
      have C1 := C.saved P1 G1
      have E1 : ∀ a, 128 ≤ a → w1 a = w a := fun a h => G1 a (by omega)
      obtain ⟨σ, H⟩ := C1.2.1.c ((svS_low (by decide)).trans hc) hc7
      refine kw_aload_n (pc := 51) dX5_change_51 rfl ?_
      refine kw_getfield (pc := 52) kfw dX5_change_52 fX5_10 C1.1 rfl ?_
      refine kw_getfield (pc := 55) kfw dX5_change_55 fX5_65 H.ob rfl ?_
      refine kw_iload_n (pc := 58) dX5_change_58 rfl ?_
      refine kw_aaloadT (pc := 59) (i := k) dX5_change_59 H.ps rfl rfl (by omega) (by decide) rfl ?_
      refine kw_astore (pc := 60) dX5_change_60 (by decide) rfl ?_
      refine kw_iload_n (pc := 62) dX5_change_62 rfl ?_
      refine kw_if_ne (tgt := 75) (pc := 63) dX5_change_63 (by decide) (fun h63 => ?_) (fun h63 => ?_)
      · refine kw_aload (pc := 75) dX5_change_75 rfl ?_
        refine kw_iload_n (pc := 77) dX5_change_77 rfl ?_
        refine kw_callVw1 (pc := 78) dX5_change_78 lX5_75 (c2_insure (H.par k hk) _) (H.par k hk) rfl rfl rfl ⟨by decide, by decide, Nat.le_of_ble_eq_true rfl⟩ (fun w2 hw2 => ?_)
        have hw2 : w2 = _ := hw2
        have H2 := off_par (j := 5) (v := u) H hk (by decide)
        rw [← hw2] at H2
        have G2 : ∀ a, (a < 1 ∨ 13 ≤ a) → w2 a = w1 a := fun a h => by have := H.lt k (by omega); rw [hw2]; exact kup_ne (by omega)
        exact kw_ireturn nlX5_change (pc := 81) dX5_change_81 rfl rfl ⟨kv_eq (by rw [show (if v = 0 then 6 else 5) = 5 by grind]; exact svS_low (by omega)), ⟨by rw [show (if v = 0 then 6 else 5) = 5 by grind]; exact C1.setOff ⟨_, _, H2⟩ (fun i hi => kuf_ne (by omega)) (fun a h => G2 a (by omega)), fun a h => (G2 a (by omega)).trans (E1 a h)⟩, rfl⟩
      · refine kw_aload (pc := 66) dX5_change_66 rfl ?_
        refine kw_iload_n (pc := 68) dX5_change_68 rfl ?_
        refine kw_callVw1 (pc := 69) dX5_change_69 lX5_69 (c2_tie (H.par k hk) _) (H.par k hk) rfl rfl rfl ⟨by decide, by decide, Nat.le_of_ble_eq_true rfl⟩ (fun w2 hw2 => ?_)
        have hw2 : w2 = _ := hw2
        have H2 := off_par (j := 6) (v := u) H hk (by decide)
        rw [← hw2] at H2
        have G2 : ∀ a, (a < 1 ∨ 13 ≤ a) → w2 a = w1 a := fun a h => by have := H.lt k (by omega); rw [hw2]; exact kup_ne (by omega)
        refine kw_goto (tgt := 81) (pc := 72) dX5_change_72 (by decide) ?_
        exact kw_ireturn nlX5_change (pc := 81) dX5_change_81 rfl rfl ⟨kv_eq (by rw [show (if v = 0 then 6 else 5) = 6 by grind]; exact svS_low (by omega)), ⟨by rw [show (if v = 0 then 6 else 5) = 6 by grind]; exact C1.setOff ⟨_, _, H2⟩ (fun i hi => kuf_ne (by omega)) (fun a h => G2 a (by omega)), fun a h => (G2 a (by omega)).trans (E1 a h)⟩, rfl⟩
    · refine kw_iconst (v := 2) (pc := 28) dX5_change_28 (by decide) ?_
      refine kw_goto (tgt := 34) (pc := 29) dX5_change_29 (by decide) ?_
      refine kw_callSr (pc := 34) dX5_change_34 lX5_45 (c5_isInT (by have := hB.2; grind)) rfl rfl ⟨by decide, by decide, Nat.le_of_ble_eq_true rfl⟩ ?_
      refine kw_callSw0 (pc := 37) dX5_change_37 lX5_49 (c5_argT (by decide)) rfl rfl ⟨by decide, by decide, Nat.le_of_ble_eq_true rfl⟩ (fun wq hwq => ?_)
      have hwq : w = wq := Eq.symm hwq
      subst hwq
      refine kw_aload_n (pc := 40) dX5_change_40 rfl ?_
      refine kw_getfield (pc := 41) kfw dX5_change_41 fX5_27 C.1 rfl ?_
      refine kw_aload_n (pc := 44) dX5_change_44 rfl ?_
      refine kw_getfield (pc := 45) kfw dX5_change_45 fX5_10 C.1 rfl ?_
      refine kw_callVw0 (pc := 48) dX5_change_48 lX5_53 (c4_save C.2.2.1 C.2.1 (by decide)) C.2.2.1.ob rfl rfl rfl ⟨by decide, by decide, Nat.le_of_ble_eq_true rfl⟩ (fun w1 hw1 => ?_)
      obtain ⟨P1, G1⟩ := hw1
      have C1 := C.saved P1 G1
      have E1 : ∀ a, 128 ≤ a → w1 a = w a := fun a h => G1 a (by omega)
      obtain ⟨σ, H⟩ := C1.2.1.c ((svS_low (by decide)).trans hc) hc7
      refine kw_aload_n (pc := 51) dX5_change_51 rfl ?_
      refine kw_getfield (pc := 52) kfw dX5_change_52 fX5_10 C1.1 rfl ?_
      refine kw_getfield (pc := 55) kfw dX5_change_55 fX5_65 H.ob rfl ?_
      refine kw_iload_n (pc := 58) dX5_change_58 rfl ?_
      refine kw_aaloadT (pc := 59) (i := k) dX5_change_59 H.ps rfl rfl (by omega) (by decide) rfl ?_
      refine kw_astore (pc := 60) dX5_change_60 (by decide) rfl ?_
      refine kw_iload_n (pc := 62) dX5_change_62 rfl ?_
      refine kw_if_ne (tgt := 75) (pc := 63) dX5_change_63 (by decide) (fun h63 => ?_) (fun h63 => ?_)
      · refine kw_aload (pc := 75) dX5_change_75 rfl ?_
        refine kw_iload_n (pc := 77) dX5_change_77 rfl ?_
        refine kw_callVw1 (pc := 78) dX5_change_78 lX5_75 (c2_insure (H.par k hk) _) (H.par k hk) rfl rfl rfl ⟨by decide, by decide, Nat.le_of_ble_eq_true rfl⟩ (fun w2 hw2 => ?_)
        have hw2 : w2 = _ := hw2
        have H2 := off_par (j := 5) (v := u) H hk (by decide)
        rw [← hw2] at H2
        have G2 : ∀ a, (a < 1 ∨ 13 ≤ a) → w2 a = w1 a := fun a h => by have := H.lt k (by omega); rw [hw2]; exact kup_ne (by omega)
        exact kw_ireturn nlX5_change (pc := 81) dX5_change_81 rfl rfl ⟨kv_eq (by rw [show (if v = 0 then 6 else 5) = 5 by grind]; exact svS_low (by omega)), ⟨by rw [show (if v = 0 then 6 else 5) = 5 by grind]; exact C1.setOff ⟨_, _, H2⟩ (fun i hi => kuf_ne (by omega)) (fun a h => G2 a (by omega)), fun a h => (G2 a (by omega)).trans (E1 a h)⟩, rfl⟩
      · refine kw_aload (pc := 66) dX5_change_66 rfl ?_
        refine kw_iload_n (pc := 68) dX5_change_68 rfl ?_
        refine kw_callVw1 (pc := 69) dX5_change_69 lX5_69 (c2_tie (H.par k hk) _) (H.par k hk) rfl rfl rfl ⟨by decide, by decide, Nat.le_of_ble_eq_true rfl⟩ (fun w2 hw2 => ?_)
        have hw2 : w2 = _ := hw2
        have H2 := off_par (j := 6) (v := u) H hk (by decide)
        rw [← hw2] at H2
        have G2 : ∀ a, (a < 1 ∨ 13 ≤ a) → w2 a = w1 a := fun a h => by have := H.lt k (by omega); rw [hw2]; exact kup_ne (by omega)
        refine kw_goto (tgt := 81) (pc := 72) dX5_change_72 (by decide) ?_
        exact kw_ireturn nlX5_change (pc := 81) dX5_change_81 rfl rfl ⟨kv_eq (by rw [show (if v = 0 then 6 else 5) = 6 by grind]; exact svS_low (by omega)), ⟨by rw [show (if v = 0 then 6 else 5) = 6 by grind]; exact C1.setOff ⟨_, _, H2⟩ (fun i hi => kuf_ne (by omega)) (fun a h => G2 a (by omega)), fun a h => (G2 a (by omega)).trans (E1 a h)⟩, rfl⟩
  · refine kw_iload_n (pc := 9) dX5_change_9 rfl ?_
    refine kw_iconst (v := 1) (pc := 10) dX5_change_10 (by decide) ?_
    refine kw_icmp_ne (tgt := 18) (pc := 11) dX5_change_11 (by decide) (fun h11 => ?_) (fun h11 => ?_)
    · exfalso; have := hB.1; grind
    · refine kw_iconst (v := 1) (pc := 14) dX5_change_14 (by decide) ?_
      refine kw_goto (tgt := 19) (pc := 15) dX5_change_15 (by decide) ?_
      refine kw_callSw0 (pc := 19) dX5_change_19 lX5_49 (c5_argT (by decide)) rfl rfl ⟨by decide, by decide, Nat.le_of_ble_eq_true rfl⟩ (fun wq hwq => ?_)
      have hwq : w = wq := Eq.symm hwq
      subst hwq
      refine kw_iload_n (pc := 22) dX5_change_22 rfl ?_
      refine kw_iconst (v := 0) (pc := 23) dX5_change_23 (by decide) ?_
      refine kw_iload_n (pc := 24) dX5_change_24 rfl ?_
      refine kw_if_ne (tgt := 32) (pc := 25) dX5_change_25 (by decide) (fun h25 => ?_) (fun h25 => ?_)
      · refine kw_bipush (v := 8) (pc := 32) dX5_change_32 (by decide) ?_
        refine kw_callSr (pc := 34) dX5_change_34 lX5_45 (c5_isInT (by have := hB.2; grind)) rfl rfl ⟨by decide, by decide, Nat.le_of_ble_eq_true rfl⟩ ?_
        refine kw_callSw0 (pc := 37) dX5_change_37 lX5_49 (c5_argT (by decide)) rfl rfl ⟨by decide, by decide, Nat.le_of_ble_eq_true rfl⟩ (fun wq hwq => ?_)
        have hwq : w = wq := Eq.symm hwq
        subst hwq
        refine kw_aload_n (pc := 40) dX5_change_40 rfl ?_
        refine kw_getfield (pc := 41) kfw dX5_change_41 fX5_27 C.1 rfl ?_
        refine kw_aload_n (pc := 44) dX5_change_44 rfl ?_
        refine kw_getfield (pc := 45) kfw dX5_change_45 fX5_10 C.1 rfl ?_
        refine kw_callVw0 (pc := 48) dX5_change_48 lX5_53 (c4_save C.2.2.1 C.2.1 (by decide)) C.2.2.1.ob rfl rfl rfl ⟨by decide, by decide, Nat.le_of_ble_eq_true rfl⟩ (fun w1 hw1 => ?_)
        obtain ⟨P1, G1⟩ := hw1
        have C1 := C.saved P1 G1
        have E1 : ∀ a, 128 ≤ a → w1 a = w a := fun a h => G1 a (by omega)
        obtain ⟨σ, H⟩ := C1.2.1.c ((svS_low (by decide)).trans hc) hc7
        refine kw_aload_n (pc := 51) dX5_change_51 rfl ?_
        refine kw_getfield (pc := 52) kfw dX5_change_52 fX5_10 C1.1 rfl ?_
        refine kw_getfield (pc := 55) kfw dX5_change_55 fX5_65 H.ob rfl ?_
        refine kw_iload_n (pc := 58) dX5_change_58 rfl ?_
        refine kw_aaloadT (pc := 59) (i := k) dX5_change_59 H.ps rfl rfl (by omega) (by decide) rfl ?_
        refine kw_astore (pc := 60) dX5_change_60 (by decide) rfl ?_
        refine kw_iload_n (pc := 62) dX5_change_62 rfl ?_
        refine kw_if_ne (tgt := 75) (pc := 63) dX5_change_63 (by decide) (fun h63 => ?_) (fun h63 => ?_)
        · refine kw_aload (pc := 75) dX5_change_75 rfl ?_
          refine kw_iload_n (pc := 77) dX5_change_77 rfl ?_
          refine kw_callVw1 (pc := 78) dX5_change_78 lX5_75 (c2_insure (H.par k hk) _) (H.par k hk) rfl rfl rfl ⟨by decide, by decide, Nat.le_of_ble_eq_true rfl⟩ (fun w2 hw2 => ?_)
          have hw2 : w2 = _ := hw2
          have H2 := off_par (j := 5) (v := u) H hk (by decide)
          rw [← hw2] at H2
          have G2 : ∀ a, (a < 1 ∨ 13 ≤ a) → w2 a = w1 a := fun a h => by have := H.lt k (by omega); rw [hw2]; exact kup_ne (by omega)
          exact kw_ireturn nlX5_change (pc := 81) dX5_change_81 rfl rfl ⟨kv_eq (by rw [show (if v = 0 then 6 else 5) = 5 by grind]; exact svS_low (by omega)), ⟨by rw [show (if v = 0 then 6 else 5) = 5 by grind]; exact C1.setOff ⟨_, _, H2⟩ (fun i hi => kuf_ne (by omega)) (fun a h => G2 a (by omega)), fun a h => (G2 a (by omega)).trans (E1 a h)⟩, rfl⟩
        · refine kw_aload (pc := 66) dX5_change_66 rfl ?_
          refine kw_iload_n (pc := 68) dX5_change_68 rfl ?_
          refine kw_callVw1 (pc := 69) dX5_change_69 lX5_69 (c2_tie (H.par k hk) _) (H.par k hk) rfl rfl rfl ⟨by decide, by decide, Nat.le_of_ble_eq_true rfl⟩ (fun w2 hw2 => ?_)
          have hw2 : w2 = _ := hw2
          have H2 := off_par (j := 6) (v := u) H hk (by decide)
          rw [← hw2] at H2
          have G2 : ∀ a, (a < 1 ∨ 13 ≤ a) → w2 a = w1 a := fun a h => by have := H.lt k (by omega); rw [hw2]; exact kup_ne (by omega)
          refine kw_goto (tgt := 81) (pc := 72) dX5_change_72 (by decide) ?_
          exact kw_ireturn nlX5_change (pc := 81) dX5_change_81 rfl rfl ⟨kv_eq (by rw [show (if v = 0 then 6 else 5) = 6 by grind]; exact svS_low (by omega)), ⟨by rw [show (if v = 0 then 6 else 5) = 6 by grind]; exact C1.setOff ⟨_, _, H2⟩ (fun i hi => kuf_ne (by omega)) (fun a h => G2 a (by omega)), fun a h => (G2 a (by omega)).trans (E1 a h)⟩, rfl⟩
      · refine kw_iconst (v := 2) (pc := 28) dX5_change_28 (by decide) ?_
        refine kw_goto (tgt := 34) (pc := 29) dX5_change_29 (by decide) ?_
        refine kw_callSr (pc := 34) dX5_change_34 lX5_45 (c5_isInT (by have := hB.2; grind)) rfl rfl ⟨by decide, by decide, Nat.le_of_ble_eq_true rfl⟩ ?_
        refine kw_callSw0 (pc := 37) dX5_change_37 lX5_49 (c5_argT (by decide)) rfl rfl ⟨by decide, by decide, Nat.le_of_ble_eq_true rfl⟩ (fun wq hwq => ?_)
        have hwq : w = wq := Eq.symm hwq
        subst hwq
        refine kw_aload_n (pc := 40) dX5_change_40 rfl ?_
        refine kw_getfield (pc := 41) kfw dX5_change_41 fX5_27 C.1 rfl ?_
        refine kw_aload_n (pc := 44) dX5_change_44 rfl ?_
        refine kw_getfield (pc := 45) kfw dX5_change_45 fX5_10 C.1 rfl ?_
        refine kw_callVw0 (pc := 48) dX5_change_48 lX5_53 (c4_save C.2.2.1 C.2.1 (by decide)) C.2.2.1.ob rfl rfl rfl ⟨by decide, by decide, Nat.le_of_ble_eq_true rfl⟩ (fun w1 hw1 => ?_)
        obtain ⟨P1, G1⟩ := hw1
        have C1 := C.saved P1 G1
        have E1 : ∀ a, 128 ≤ a → w1 a = w a := fun a h => G1 a (by omega)
        obtain ⟨σ, H⟩ := C1.2.1.c ((svS_low (by decide)).trans hc) hc7
        refine kw_aload_n (pc := 51) dX5_change_51 rfl ?_
        refine kw_getfield (pc := 52) kfw dX5_change_52 fX5_10 C1.1 rfl ?_
        refine kw_getfield (pc := 55) kfw dX5_change_55 fX5_65 H.ob rfl ?_
        refine kw_iload_n (pc := 58) dX5_change_58 rfl ?_
        refine kw_aaloadT (pc := 59) (i := k) dX5_change_59 H.ps rfl rfl (by omega) (by decide) rfl ?_
        refine kw_astore (pc := 60) dX5_change_60 (by decide) rfl ?_
        refine kw_iload_n (pc := 62) dX5_change_62 rfl ?_
        refine kw_if_ne (tgt := 75) (pc := 63) dX5_change_63 (by decide) (fun h63 => ?_) (fun h63 => ?_)
        · refine kw_aload (pc := 75) dX5_change_75 rfl ?_
          refine kw_iload_n (pc := 77) dX5_change_77 rfl ?_
          refine kw_callVw1 (pc := 78) dX5_change_78 lX5_75 (c2_insure (H.par k hk) _) (H.par k hk) rfl rfl rfl ⟨by decide, by decide, Nat.le_of_ble_eq_true rfl⟩ (fun w2 hw2 => ?_)
          have hw2 : w2 = _ := hw2
          have H2 := off_par (j := 5) (v := u) H hk (by decide)
          rw [← hw2] at H2
          have G2 : ∀ a, (a < 1 ∨ 13 ≤ a) → w2 a = w1 a := fun a h => by have := H.lt k (by omega); rw [hw2]; exact kup_ne (by omega)
          exact kw_ireturn nlX5_change (pc := 81) dX5_change_81 rfl rfl ⟨kv_eq (by rw [show (if v = 0 then 6 else 5) = 5 by grind]; exact svS_low (by omega)), ⟨by rw [show (if v = 0 then 6 else 5) = 5 by grind]; exact C1.setOff ⟨_, _, H2⟩ (fun i hi => kuf_ne (by omega)) (fun a h => G2 a (by omega)), fun a h => (G2 a (by omega)).trans (E1 a h)⟩, rfl⟩
        · refine kw_aload (pc := 66) dX5_change_66 rfl ?_
          refine kw_iload_n (pc := 68) dX5_change_68 rfl ?_
          refine kw_callVw1 (pc := 69) dX5_change_69 lX5_69 (c2_tie (H.par k hk) _) (H.par k hk) rfl rfl rfl ⟨by decide, by decide, Nat.le_of_ble_eq_true rfl⟩ (fun w2 hw2 => ?_)
          have hw2 : w2 = _ := hw2
          have H2 := off_par (j := 6) (v := u) H hk (by decide)
          rw [← hw2] at H2
          have G2 : ∀ a, (a < 1 ∨ 13 ≤ a) → w2 a = w1 a := fun a h => by have := H.lt k (by omega); rw [hw2]; exact kup_ne (by omega)
          refine kw_goto (tgt := 81) (pc := 72) dX5_change_72 (by decide) ?_
          exact kw_ireturn nlX5_change (pc := 81) dX5_change_81 rfl rfl ⟨kv_eq (by rw [show (if v = 0 then 6 else 5) = 6 by grind]; exact svS_low (by omega)), ⟨by rw [show (if v = 0 then 6 else 5) = 6 by grind]; exact C1.setOff ⟨_, _, H2⟩ (fun i hi => kuf_ne (by omega)) (fun a h => G2 a (by omega)), fun a h => (G2 a (by omega)).trans (E1 a h)⟩, rfl⟩
set_option maxRecDepth 100000 in
set_option maxHeartbeats 4000000 in
theorem c5_changeA {w : kM} {s : Nat → Int32} {q : Nat} {kp bf : Nat → Int32} {T : Nat} (C : cls w s q kp bf T) {c : Nat} (hc : s 20 = nI c) (hc7 : c ≤ 7) {p v u : Int32} (hp : ¬ ∃ k, k < c ∧ p = nI k) : kCtrX mX5_change 8 [.ref 0, .int p, .int v, .int u] w kIOB (fun w' => w' = w) := by
  refine kCtrX.of pl5 nlX5_change rfl (Nat.le_of_ble_eq_true rfl) (fun n => ?_)
  refine kw_aload_n (pc := 0) dX5_change_0 rfl ?_
  refine kw_iload_n (pc := 1) dX5_change_1 rfl ?_
  exact kw_callVx (pc := 2) dX5_change_2 lX5_61 (c5_parX C hc hc7 hp) C.1 rfl rfl rfl ⟨by decide, by decide, Nat.le_of_ble_eq_true rfl, by decide, by decide⟩ nlX5_change rfl (fun w' n' hp hn => ⟨rfl, hp, hn⟩)
set_option maxRecDepth 100000 in
set_option maxHeartbeats 4000000 in
theorem c5_changeB {w : kM} {s : Nat → Int32} {q : Nat} {kp bf : Nat → Int32} {T : Nat} (C : cls w s q kp bf T) {c : Nat} (hc : s 20 = nI c) (hc7 : c ≤ 7) {k : Nat} (hk : k < c) {v u : Int32} (hB : ¬ ((0 ≤ v ∧ v ≤ 1) ∧ 0 ≤ u ∧ u ≤ (if v = 0 then 2 else 8))) : kCtrX mX5_change 7 [.ref 0, .int (nI k), .int v, .int u] w kIAE (fun w' => w' = w) := by
  refine kCtrX.of pl5 nlX5_change rfl (Nat.le_of_ble_eq_true rfl) (fun n => ?_)
  refine kw_aload_n (pc := 0) dX5_change_0 rfl ?_
  refine kw_iload_n (pc := 1) dX5_change_1 rfl ?_
  refine kw_callVw0 (pc := 2) dX5_change_2 lX5_61 (c5_parT C hc hc7 hk) C.1 rfl rfl rfl ⟨by decide, by decide, Nat.le_of_ble_eq_true rfl⟩ (fun wq hwq => ?_)
  have hwq : w = wq := Eq.symm hwq
  subst hwq
  refine kw_iload_n (pc := 5) dX5_change_5 rfl ?_
  refine kw_if_eq (tgt := 14) (pc := 6) dX5_change_6 (by decide) (fun h6 => ?_) (fun h6 => ?_)
  · refine kw_iconst (v := 1) (pc := 14) dX5_change_14 (by decide) ?_
    refine kw_goto (tgt := 19) (pc := 15) dX5_change_15 (by decide) ?_
    refine kw_callSw0 (pc := 19) dX5_change_19 lX5_49 (c5_argT (by decide)) rfl rfl ⟨by decide, by decide, Nat.le_of_ble_eq_true rfl⟩ (fun wq hwq => ?_)
    have hwq : w = wq := Eq.symm hwq
    subst hwq
    refine kw_iload_n (pc := 22) dX5_change_22 rfl ?_
    refine kw_iconst (v := 0) (pc := 23) dX5_change_23 (by decide) ?_
    refine kw_iload_n (pc := 24) dX5_change_24 rfl ?_
    refine kw_if_ne (tgt := 32) (pc := 25) dX5_change_25 (by decide) (fun h25 => ?_) (fun h25 => ?_)
    · refine kw_bipush (v := 8) (pc := 32) dX5_change_32 (by decide) ?_
      refine kw_callSr (pc := 34) dX5_change_34 lX5_45 (c5_isInF (by grind)) rfl rfl ⟨by decide, by decide, Nat.le_of_ble_eq_true rfl⟩ ?_
      exact kw_callSx (pc := 37) dX5_change_37 lX5_49 (c5_argX rfl) rfl rfl ⟨by decide, by decide, Nat.le_of_ble_eq_true rfl, by decide, by decide⟩ nlX5_change rfl (fun w' n' hp hn => ⟨rfl, hp, hn⟩)
    · refine kw_iconst (v := 2) (pc := 28) dX5_change_28 (by decide) ?_
      refine kw_goto (tgt := 34) (pc := 29) dX5_change_29 (by decide) ?_
      refine kw_callSr (pc := 34) dX5_change_34 lX5_45 (c5_isInF (by grind)) rfl rfl ⟨by decide, by decide, Nat.le_of_ble_eq_true rfl⟩ ?_
      exact kw_callSx (pc := 37) dX5_change_37 lX5_49 (c5_argX rfl) rfl rfl ⟨by decide, by decide, Nat.le_of_ble_eq_true rfl, by decide, by decide⟩ nlX5_change rfl (fun w' n' hp hn => ⟨rfl, hp, hn⟩)
  · refine kw_iload_n (pc := 9) dX5_change_9 rfl ?_
    refine kw_iconst (v := 1) (pc := 10) dX5_change_10 (by decide) ?_
    refine kw_icmp_ne (tgt := 18) (pc := 11) dX5_change_11 (by decide) (fun h11 => ?_) (fun h11 => ?_)
    · refine kw_iconst (v := 0) (pc := 18) dX5_change_18 (by decide) ?_
      exact kw_callSx (pc := 19) dX5_change_19 lX5_49 (c5_argX rfl) rfl rfl ⟨by decide, by decide, Nat.le_of_ble_eq_true rfl, by decide, by decide⟩ nlX5_change rfl (fun w' n' hp hn => ⟨rfl, hp, hn⟩)
    · refine kw_iconst (v := 1) (pc := 14) dX5_change_14 (by decide) ?_
      refine kw_goto (tgt := 19) (pc := 15) dX5_change_15 (by decide) ?_
      refine kw_callSw0 (pc := 19) dX5_change_19 lX5_49 (c5_argT (by decide)) rfl rfl ⟨by decide, by decide, Nat.le_of_ble_eq_true rfl⟩ (fun wq hwq => ?_)
      have hwq : w = wq := Eq.symm hwq
      subst hwq
      refine kw_iload_n (pc := 22) dX5_change_22 rfl ?_
      refine kw_iconst (v := 0) (pc := 23) dX5_change_23 (by decide) ?_
      refine kw_iload_n (pc := 24) dX5_change_24 rfl ?_
      refine kw_if_ne (tgt := 32) (pc := 25) dX5_change_25 (by decide) (fun h25 => ?_) (fun h25 => ?_)
      · refine kw_bipush (v := 8) (pc := 32) dX5_change_32 (by decide) ?_
        refine kw_callSr (pc := 34) dX5_change_34 lX5_45 (c5_isInF (by grind)) rfl rfl ⟨by decide, by decide, Nat.le_of_ble_eq_true rfl⟩ ?_
        exact kw_callSx (pc := 37) dX5_change_37 lX5_49 (c5_argX rfl) rfl rfl ⟨by decide, by decide, Nat.le_of_ble_eq_true rfl, by decide, by decide⟩ nlX5_change rfl (fun w' n' hp hn => ⟨rfl, hp, hn⟩)
      · refine kw_iconst (v := 2) (pc := 28) dX5_change_28 (by decide) ?_
        refine kw_goto (tgt := 34) (pc := 29) dX5_change_29 (by decide) ?_
        refine kw_callSr (pc := 34) dX5_change_34 lX5_45 (c5_isInF (by grind)) rfl rfl ⟨by decide, by decide, Nat.le_of_ble_eq_true rfl⟩ ?_
        exact kw_callSx (pc := 37) dX5_change_37 lX5_49 (c5_argX rfl) rfl rfl ⟨by decide, by decide, Nat.le_of_ble_eq_true rfl, by decide, by decide⟩ nlX5_change rfl (fun w' n' hp hn => ⟨rfl, hp, hn⟩)
set_option maxRecDepth 100000 in
set_option maxHeartbeats 4000000 in
theorem c5_price {w : kM} {s : Nat → Int32} {q : Nat} {kp bf : Nat → Int32} {T : Nat} (C : cls w s q kp bf T) {c : Nat} (hc : s 20 = nI c) (hc7 : c ≤ 7) {b : Nat} (hb : b < 12) {v : Int32} (hB : 0 ≤ v ∧ v ≤ 99) : kCtrW mX5_price 3 [.ref 0, .int (nI b), .int v] w (some (.int (s (4 + b)))) (fun w' => cls w' (kuf (svS s q) (4 + b) v) (svN q) kp bf T ∧ ∀ a, 128 ≤ a → w' a = w a) := by
  refine kCtrW.of pl5 nlX5_price rfl (Nat.le_of_ble_eq_true rfl) (fun n => ?_)
  refine kw_iload_n (pc := 0) dX5_price_0 rfl ?_
  refine kw_bipush (v := 12) (pc := 1) dX5_price_1 (by decide) ?_
  refine kw_callSw0 (pc := 3) dX5_price_3 lX5_92 (c5_idxT ⟨nI_pos' (by omega), nI_lt (b := 12) (by omega) (by omega)⟩) rfl rfl ⟨by decide, by decide, Nat.le_of_ble_eq_true rfl⟩ (fun wq hwq => ?_)
  have hwq : w = wq := Eq.symm hwq
  subst hwq
  refine kw_iload_n (pc := 6) dX5_price_6 rfl ?_
  refine kw_iconst (v := 0) (pc := 7) dX5_price_7 (by decide) ?_
  refine kw_bipush (v := 99) (pc := 8) dX5_price_8 (by decide) ?_
  refine kw_callSr (pc := 10) dX5_price_10 lX5_45 (c5_isInT hB) rfl rfl ⟨by decide, by decide, Nat.le_of_ble_eq_true rfl⟩ ?_
  refine kw_callSw0 (pc := 13) dX5_price_13 lX5_49 (c5_argT (by decide)) rfl rfl ⟨by decide, by decide, Nat.le_of_ble_eq_true rfl⟩ (fun wq hwq => ?_)
  have hwq : w = wq := Eq.symm hwq
  subst hwq
  refine kw_aload_n (pc := 16) dX5_price_16 rfl ?_
  refine kw_getfield (pc := 17) kfw dX5_price_17 fX5_27 C.1 rfl ?_
  refine kw_aload_n (pc := 20) dX5_price_20 rfl ?_
  refine kw_getfield (pc := 21) kfw dX5_price_21 fX5_10 C.1 rfl ?_
  refine kw_callVw0 (pc := 24) dX5_price_24 lX5_53 (c4_save C.2.2.1 C.2.1 (by decide)) C.2.2.1.ob rfl rfl rfl ⟨by decide, by decide, Nat.le_of_ble_eq_true rfl⟩ (fun w1 hw1 => ?_)
  obtain ⟨P1, G1⟩ := hw1
  have C1 := C.saved P1 G1
  have E1 : ∀ a, 128 ≤ a → w1 a = w a := fun a h => G1 a (by omega)
  obtain ⟨σ, H⟩ := C1.2.1.c ((svS_low (by decide)).trans hc) hc7
  refine kw_aload_n (pc := 27) dX5_price_27 rfl ?_
  refine kw_getfield (pc := 28) kfw dX5_price_28 fX5_10 C1.1 rfl ?_
  refine kw_getfield (pc := 31) kfw dX5_price_31 fX5_96 H.ob rfl ?_
  refine kw_iload_n (pc := 34) dX5_price_34 rfl ?_
  refine kw_ialoadT (pc := 35) (i := b) dX5_price_35 H.pr rfl (by omega) (by decide) ?_
  refine kw_istore_n (pc := 36) dX5_price_36 (by decide) rfl ?_
  refine kw_aload_n (pc := 37) dX5_price_37 rfl ?_
  refine kw_getfield (pc := 38) kfw dX5_price_38 fX5_10 C1.1 rfl ?_
  refine kw_getfield (pc := 41) kfw dX5_price_41 fX5_96 H.ob rfl ?_
  refine kw_iload_n (pc := 44) dX5_price_44 rfl ?_
  refine kw_iload_n (pc := 45) dX5_price_45 rfl ?_
  refine kw_iastoreT (pc := 46) (i := b) dX5_price_46 H.pr rfl (by omega) (by decide) (kgen (fun w2 hw2 => ?_))
  have H2 := off_pr (b := b) (v := v) H hb
  rw [← hw2] at H2
  have G2 : ∀ a, (a < 1 ∨ 13 ≤ a) → w2 a = w1 a := fun a h => by rw [hw2]; exact kup_ne (by omega)
  refine kw_iload_n (pc := 47) dX5_price_47 rfl ?_
  exact kw_ireturn nlX5_price (pc := 48) dX5_price_48 rfl rfl ⟨kv_eq (svS_low (by omega)), ⟨C1.setOff ⟨_, _, H2⟩ (fun i hi => kuf_ne (by omega)) (fun a h => G2 a (by omega)), fun a h => (G2 a (by omega)).trans (E1 a h)⟩, rfl⟩
set_option maxRecDepth 100000 in
set_option maxHeartbeats 4000000 in
theorem c5_priceA {w : kM} {b v : Int32} (hb : ¬ (0 ≤ b ∧ b < 12)) : kCtrX mX5_price 7 [.ref 0, .int b, .int v] w kIOB (fun w' => w' = w) := by
  refine kCtrX.of pl5 nlX5_price rfl (Nat.le_of_ble_eq_true rfl) (fun n => ?_)
  refine kw_iload_n (pc := 0) dX5_price_0 rfl ?_
  refine kw_bipush (v := 12) (pc := 1) dX5_price_1 (by decide) ?_
  exact kw_callSx (pc := 3) dX5_price_3 lX5_92 (c5_idxX hb) rfl rfl ⟨by decide, by decide, Nat.le_of_ble_eq_true rfl, by decide, by decide⟩ nlX5_price rfl (fun w' n' hp hn => ⟨rfl, hp, hn⟩)
set_option maxRecDepth 100000 in
set_option maxHeartbeats 4000000 in
theorem c5_priceB {w : kM} {b : Nat} (hb : b < 12) {v : Int32} (hB : ¬ (0 ≤ v ∧ v ≤ 99)) : kCtrX mX5_price 7 [.ref 0, .int (nI b), .int v] w kIAE (fun w' => w' = w) := by
  refine kCtrX.of pl5 nlX5_price rfl (Nat.le_of_ble_eq_true rfl) (fun n => ?_)
  refine kw_iload_n (pc := 0) dX5_price_0 rfl ?_
  refine kw_bipush (v := 12) (pc := 1) dX5_price_1 (by decide) ?_
  refine kw_callSw0 (pc := 3) dX5_price_3 lX5_92 (c5_idxT ⟨nI_pos' (by omega), nI_lt (b := 12) (by omega) (by omega)⟩) rfl rfl ⟨by decide, by decide, Nat.le_of_ble_eq_true rfl⟩ (fun wq hwq => ?_)
  have hwq : w = wq := Eq.symm hwq
  subst hwq
  refine kw_iload_n (pc := 6) dX5_price_6 rfl ?_
  refine kw_iconst (v := 0) (pc := 7) dX5_price_7 (by decide) ?_
  refine kw_bipush (v := 99) (pc := 8) dX5_price_8 (by decide) ?_
  refine kw_callSr (pc := 10) dX5_price_10 lX5_45 (c5_isInF hB) rfl rfl ⟨by decide, by decide, Nat.le_of_ble_eq_true rfl⟩ ?_
  exact kw_callSx (pc := 13) dX5_price_13 lX5_49 (c5_argX rfl) rfl rfl ⟨by decide, by decide, Nat.le_of_ble_eq_true rfl, by decide, by decide⟩ nlX5_price rfl (fun w' n' hp hn => ⟨rfl, hp, hn⟩)
set_option maxRecDepth 100000 in
set_option maxHeartbeats 4000000 in
theorem c5_zone {w : kM} {s : Nat → Int32} {q : Nat} {kp bf : Nat → Int32} {T : Nat} (C : cls w s q kp bf T) {c : Nat} (hc : s 20 = nI c) (hc7 : c ≤ 7) {b : Nat} (hb : b < 4) {v : Int32} (hB : 1 ≤ v ∧ v ≤ 9) : kCtrW mX5_zone 3 [.ref 0, .int (nI b), .int v] w (some (.int (s (16 + b)))) (fun w' => cls w' (kuf (svS s q) (16 + b) v) (svN q) kp bf T ∧ ∀ a, 128 ≤ a → w' a = w a) := by
  refine kCtrW.of pl5 nlX5_zone rfl (Nat.le_of_ble_eq_true rfl) (fun n => ?_)
  refine kw_iload_n (pc := 0) dX5_zone_0 rfl ?_
  refine kw_iconst (v := 4) (pc := 1) dX5_zone_1 (by decide) ?_
  refine kw_callSw0 (pc := 2) dX5_zone_2 lX5_92 (c5_idxT ⟨nI_pos' (by omega), nI_lt (b := 4) (by omega) (by omega)⟩) rfl rfl ⟨by decide, by decide, Nat.le_of_ble_eq_true rfl⟩ (fun wq hwq => ?_)
  have hwq : w = wq := Eq.symm hwq
  subst hwq
  refine kw_iload_n (pc := 5) dX5_zone_5 rfl ?_
  refine kw_iconst (v := 1) (pc := 6) dX5_zone_6 (by decide) ?_
  refine kw_bipush (v := 9) (pc := 7) dX5_zone_7 (by decide) ?_
  refine kw_callSr (pc := 9) dX5_zone_9 lX5_45 (c5_isInT hB) rfl rfl ⟨by decide, by decide, Nat.le_of_ble_eq_true rfl⟩ ?_
  refine kw_callSw0 (pc := 12) dX5_zone_12 lX5_49 (c5_argT (by decide)) rfl rfl ⟨by decide, by decide, Nat.le_of_ble_eq_true rfl⟩ (fun wq hwq => ?_)
  have hwq : w = wq := Eq.symm hwq
  subst hwq
  refine kw_aload_n (pc := 15) dX5_zone_15 rfl ?_
  refine kw_getfield (pc := 16) kfw dX5_zone_16 fX5_27 C.1 rfl ?_
  refine kw_aload_n (pc := 19) dX5_zone_19 rfl ?_
  refine kw_getfield (pc := 20) kfw dX5_zone_20 fX5_10 C.1 rfl ?_
  refine kw_callVw0 (pc := 23) dX5_zone_23 lX5_53 (c4_save C.2.2.1 C.2.1 (by decide)) C.2.2.1.ob rfl rfl rfl ⟨by decide, by decide, Nat.le_of_ble_eq_true rfl⟩ (fun w1 hw1 => ?_)
  obtain ⟨P1, G1⟩ := hw1
  have C1 := C.saved P1 G1
  have E1 : ∀ a, 128 ≤ a → w1 a = w a := fun a h => G1 a (by omega)
  obtain ⟨σ, H⟩ := C1.2.1.c ((svS_low (by decide)).trans hc) hc7
  refine kw_aload_n (pc := 26) dX5_zone_26 rfl ?_
  refine kw_getfield (pc := 27) kfw dX5_zone_27 fX5_10 C1.1 rfl ?_
  refine kw_getfield (pc := 30) kfw dX5_zone_30 fX5_100 H.ob rfl ?_
  refine kw_iload_n (pc := 33) dX5_zone_33 rfl ?_
  refine kw_ialoadT (pc := 34) (i := b) dX5_zone_34 H.fa rfl (by omega) (by decide) ?_
  refine kw_istore_n (pc := 35) dX5_zone_35 (by decide) rfl ?_
  refine kw_aload_n (pc := 36) dX5_zone_36 rfl ?_
  refine kw_getfield (pc := 37) kfw dX5_zone_37 fX5_10 C1.1 rfl ?_
  refine kw_getfield (pc := 40) kfw dX5_zone_40 fX5_100 H.ob rfl ?_
  refine kw_iload_n (pc := 43) dX5_zone_43 rfl ?_
  refine kw_iload_n (pc := 44) dX5_zone_44 rfl ?_
  refine kw_iastoreT (pc := 45) (i := b) dX5_zone_45 H.fa rfl (by omega) (by decide) (kgen (fun w2 hw2 => ?_))
  have H2 := off_fa (b := b) (v := v) H hb
  rw [← hw2] at H2
  have G2 : ∀ a, (a < 1 ∨ 13 ≤ a) → w2 a = w1 a := fun a h => by rw [hw2]; exact kup_ne (by omega)
  refine kw_iload_n (pc := 46) dX5_zone_46 rfl ?_
  exact kw_ireturn nlX5_zone (pc := 47) dX5_zone_47 rfl rfl ⟨kv_eq (svS_low (by omega)), ⟨C1.setOff ⟨_, _, H2⟩ (fun i hi => kuf_ne (by omega)) (fun a h => G2 a (by omega)), fun a h => (G2 a (by omega)).trans (E1 a h)⟩, rfl⟩
set_option maxRecDepth 100000 in
set_option maxHeartbeats 4000000 in
theorem c5_zoneA {w : kM} {b v : Int32} (hb : ¬ (0 ≤ b ∧ b < 4)) : kCtrX mX5_zone 7 [.ref 0, .int b, .int v] w kIOB (fun w' => w' = w) := by
  refine kCtrX.of pl5 nlX5_zone rfl (Nat.le_of_ble_eq_true rfl) (fun n => ?_)
  refine kw_iload_n (pc := 0) dX5_zone_0 rfl ?_
  refine kw_iconst (v := 4) (pc := 1) dX5_zone_1 (by decide) ?_
  exact kw_callSx (pc := 2) dX5_zone_2 lX5_92 (c5_idxX hb) rfl rfl ⟨by decide, by decide, Nat.le_of_ble_eq_true rfl, by decide, by decide⟩ nlX5_zone rfl (fun w' n' hp hn => ⟨rfl, hp, hn⟩)
set_option maxRecDepth 100000 in
set_option maxHeartbeats 4000000 in
theorem c5_zoneB {w : kM} {b : Nat} (hb : b < 4) {v : Int32} (hB : ¬ (1 ≤ v ∧ v ≤ 9)) : kCtrX mX5_zone 7 [.ref 0, .int (nI b), .int v] w kIAE (fun w' => w' = w) := by
  refine kCtrX.of pl5 nlX5_zone rfl (Nat.le_of_ble_eq_true rfl) (fun n => ?_)
  refine kw_iload_n (pc := 0) dX5_zone_0 rfl ?_
  refine kw_iconst (v := 4) (pc := 1) dX5_zone_1 (by decide) ?_
  refine kw_callSw0 (pc := 2) dX5_zone_2 lX5_92 (c5_idxT ⟨nI_pos' (by omega), nI_lt (b := 4) (by omega) (by omega)⟩) rfl rfl ⟨by decide, by decide, Nat.le_of_ble_eq_true rfl⟩ (fun wq hwq => ?_)
  have hwq : w = wq := Eq.symm hwq
  subst hwq
  refine kw_iload_n (pc := 5) dX5_zone_5 rfl ?_
  refine kw_iconst (v := 1) (pc := 6) dX5_zone_6 (by decide) ?_
  refine kw_bipush (v := 9) (pc := 7) dX5_zone_7 (by decide) ?_
  refine kw_callSr (pc := 9) dX5_zone_9 lX5_45 (c5_isInF hB) rfl rfl ⟨by decide, by decide, Nat.le_of_ble_eq_true rfl⟩ ?_
  exact kw_callSx (pc := 12) dX5_zone_12 lX5_49 (c5_argX rfl) rfl rfl ⟨by decide, by decide, Nat.le_of_ble_eq_true rfl, by decide, by decide⟩ nlX5_zone rfl (fun w' n' hp hn => ⟨rfl, hp, hn⟩)
set_option maxRecDepth 100000 in
set_option maxHeartbeats 4000000 in
theorem c5_set {w : kM} {s : Nat → Int32} {q : Nat} {kp bf : Nat → Int32} {T : Nat} (C : cls w s q kp bf T) {c : Nat} (hc : s 20 = nI c) (hc7 : c ≤ 7) {b : Nat} (hb : b < 4) {v : Int32} (hB : (if nI b = 1 then 50 else 0) ≤ v ∧ v ≤ (if nI b = 1 then 300 else if nI b = 3 then 50 else 20)) : kCtrW mX5_set 3 [.ref 0, .int (nI b), .int v] w (some (.int (s b))) (fun w' => cls w' (kuf (svS s q) b v) (svN q) kp bf T ∧ ∀ a, 128 ≤ a → w' a = w a) := by
  refine kCtrW.of pl5 nlX5_set rfl (Nat.le_of_ble_eq_true rfl) (fun n => ?_)
  refine kw_iload_n (pc := 0) dX5_set_0 rfl ?_
  refine kw_iconst (v := 4) (pc := 1) dX5_set_1 (by decide) ?_
  refine kw_callSw0 (pc := 2) dX5_set_2 lX5_92 (c5_idxT ⟨nI_pos' (by omega), nI_lt (b := 4) (by omega) (by omega)⟩) rfl rfl ⟨by decide, by decide, Nat.le_of_ble_eq_true rfl⟩ (fun wq hwq => ?_)
  have hwq : w = wq := Eq.symm hwq
  subst hwq
  refine kw_iload_n (pc := 5) dX5_set_5 rfl ?_
  refine kw_getstatic (pc := 6) (i := 1) dX5_set_6 rfl rfl sX5_103 ?_
  refine kw_iload_n (pc := 9) dX5_set_9 rfl ?_
  refine kw_ialoadS (pc := 10) (i := 1) dX5_set_10 rfl rfl rfl (vp_ofE rfl (show b < 4 by omega) (by decide)) ?_
  refine kw_getstatic (pc := 11) (i := 2) dX5_set_11 rfl rfl sX5_106 ?_
  refine kw_iload_n (pc := 14) dX5_set_14 rfl ?_
  refine kw_ialoadS (pc := 15) (i := 2) dX5_set_15 rfl rfl rfl (vp_ofE rfl (show b < 4 by omega) (by decide)) ?_
  refine kw_callSr (pc := 16) dX5_set_16 lX5_45 (c5_isInT (by show ([0, 50, 0, 0] : List Int32).getD (nI b).toNatClampNeg 0 ≤ v ∧ v ≤ ([20, 300, 20, 50] : List Int32).getD (nI b).toNatClampNeg 0; rw [set_lo b hb, set_hi b hb]; exact hB)) rfl rfl ⟨by decide, by decide, Nat.le_of_ble_eq_true rfl⟩ ?_
  refine kw_callSw0 (pc := 19) dX5_set_19 lX5_49 (c5_argT (by decide)) rfl rfl ⟨by decide, by decide, Nat.le_of_ble_eq_true rfl⟩ (fun wq hwq => ?_)
  have hwq : w = wq := Eq.symm hwq
  subst hwq
  refine kw_aload_n (pc := 22) dX5_set_22 rfl ?_
  refine kw_getfield (pc := 23) kfw dX5_set_23 fX5_27 C.1 rfl ?_
  refine kw_aload_n (pc := 26) dX5_set_26 rfl ?_
  refine kw_getfield (pc := 27) kfw dX5_set_27 fX5_10 C.1 rfl ?_
  refine kw_callVw0 (pc := 30) dX5_set_30 lX5_53 (c4_save C.2.2.1 C.2.1 (by decide)) C.2.2.1.ob rfl rfl rfl ⟨by decide, by decide, Nat.le_of_ble_eq_true rfl⟩ (fun w1 hw1 => ?_)
  obtain ⟨P1, G1⟩ := hw1
  have C1 := C.saved P1 G1
  have E1 : ∀ a, 128 ≤ a → w1 a = w a := fun a h => G1 a (by omega)
  obtain ⟨σ, H⟩ := C1.2.1.c ((svS_low (by decide)).trans hc) hc7
  refine kw_aload_n (pc := 33) dX5_set_33 rfl ?_
  refine kw_getfield (pc := 34) kfw dX5_set_34 fX5_10 C1.1 rfl ?_
  refine kw_getfield (pc := 37) kfw dX5_set_37 fX5_109 H.ob rfl ?_
  refine kw_iload_n (pc := 40) dX5_set_40 rfl ?_
  refine kw_ialoadT (pc := 41) (i := b) dX5_set_41 H.se rfl (by omega) (by decide) ?_
  refine kw_istore_n (pc := 42) dX5_set_42 (by decide) rfl ?_
  refine kw_aload_n (pc := 43) dX5_set_43 rfl ?_
  refine kw_getfield (pc := 44) kfw dX5_set_44 fX5_10 C1.1 rfl ?_
  refine kw_getfield (pc := 47) kfw dX5_set_47 fX5_109 H.ob rfl ?_
  refine kw_iload_n (pc := 50) dX5_set_50 rfl ?_
  refine kw_iload_n (pc := 51) dX5_set_51 rfl ?_
  refine kw_iastoreT (pc := 52) (i := b) dX5_set_52 H.se rfl (by omega) (by decide) (kgen (fun w2 hw2 => ?_))
  have H2 := off_se (b := b) (v := v) H hb
  rw [← hw2] at H2
  have G2 : ∀ a, (a < 1 ∨ 13 ≤ a) → w2 a = w1 a := fun a h => by rw [hw2]; exact kup_ne (by omega)
  refine kw_iload_n (pc := 53) dX5_set_53 rfl ?_
  exact kw_ireturn nlX5_set (pc := 54) dX5_set_54 rfl rfl ⟨kv_eq (svS_low (by omega)), ⟨C1.setOff ⟨_, _, H2⟩ (fun i hi => kuf_ne (by omega)) (fun a h => G2 a (by omega)), fun a h => (G2 a (by omega)).trans (E1 a h)⟩, rfl⟩
set_option maxRecDepth 100000 in
set_option maxHeartbeats 4000000 in
theorem c5_setA {w : kM} {b v : Int32} (hb : ¬ (0 ≤ b ∧ b < 4)) : kCtrX mX5_set 7 [.ref 0, .int b, .int v] w kIOB (fun w' => w' = w) := by
  refine kCtrX.of pl5 nlX5_set rfl (Nat.le_of_ble_eq_true rfl) (fun n => ?_)
  refine kw_iload_n (pc := 0) dX5_set_0 rfl ?_
  refine kw_iconst (v := 4) (pc := 1) dX5_set_1 (by decide) ?_
  exact kw_callSx (pc := 2) dX5_set_2 lX5_92 (c5_idxX hb) rfl rfl ⟨by decide, by decide, Nat.le_of_ble_eq_true rfl, by decide, by decide⟩ nlX5_set rfl (fun w' n' hp hn => ⟨rfl, hp, hn⟩)
set_option maxRecDepth 100000 in
set_option maxHeartbeats 4000000 in
theorem c5_setB {w : kM} {b : Nat} (hb : b < 4) {v : Int32} (hB : ¬ ((if nI b = 1 then 50 else 0) ≤ v ∧ v ≤ (if nI b = 1 then 300 else if nI b = 3 then 50 else 20))) : kCtrX mX5_set 7 [.ref 0, .int (nI b), .int v] w kIAE (fun w' => w' = w) := by
  refine kCtrX.of pl5 nlX5_set rfl (Nat.le_of_ble_eq_true rfl) (fun n => ?_)
  refine kw_iload_n (pc := 0) dX5_set_0 rfl ?_
  refine kw_iconst (v := 4) (pc := 1) dX5_set_1 (by decide) ?_
  refine kw_callSw0 (pc := 2) dX5_set_2 lX5_92 (c5_idxT ⟨nI_pos' (by omega), nI_lt (b := 4) (by omega) (by omega)⟩) rfl rfl ⟨by decide, by decide, Nat.le_of_ble_eq_true rfl⟩ (fun wq hwq => ?_)
  have hwq : w = wq := Eq.symm hwq
  subst hwq
  refine kw_iload_n (pc := 5) dX5_set_5 rfl ?_
  refine kw_getstatic (pc := 6) (i := 1) dX5_set_6 rfl rfl sX5_103 ?_
  refine kw_iload_n (pc := 9) dX5_set_9 rfl ?_
  refine kw_ialoadS (pc := 10) (i := 1) dX5_set_10 rfl rfl rfl (vp_ofE rfl (show b < 4 by omega) (by decide)) ?_
  refine kw_getstatic (pc := 11) (i := 2) dX5_set_11 rfl rfl sX5_106 ?_
  refine kw_iload_n (pc := 14) dX5_set_14 rfl ?_
  refine kw_ialoadS (pc := 15) (i := 2) dX5_set_15 rfl rfl rfl (vp_ofE rfl (show b < 4 by omega) (by decide)) ?_
  refine kw_callSr (pc := 16) dX5_set_16 lX5_45 (c5_isInF (by show ¬ (([0, 50, 0, 0] : List Int32).getD (nI b).toNatClampNeg 0 ≤ v ∧ v ≤ ([20, 300, 20, 50] : List Int32).getD (nI b).toNatClampNeg 0); rw [set_lo b hb, set_hi b hb]; exact hB)) rfl rfl ⟨by decide, by decide, Nat.le_of_ble_eq_true rfl⟩ ?_
  exact kw_callSx (pc := 19) dX5_set_19 lX5_49 (c5_argX rfl) rfl rfl ⟨by decide, by decide, Nat.le_of_ble_eq_true rfl, by decide, by decide⟩ nlX5_set rfl (fun w' n' hp hn => ⟨rfl, hp, hn⟩)
