theorem bdF_no {s P Q : Nat → Int32} (h : ¬ bOK s P Q) : (-1 : Int32) = bdF s P Q := (if_neg h).symm
theorem bdF_yes {s P Q : Nat → Int32} (h : bOK s P Q) : pP s (bnP P Q) = bdF s P Q := (if_pos h).symm
theorem gI_comm (a b : Int32) : gI a b = gI b a := by
  unfold gI
  grind
theorem bnP_comm {P Q : Nat → Int32} (h : P 4 = Q 4) : bnP Q P = bnP P Q := by
  funext k
  unfold bnP
  rw [gI_comm (Q 0) (P 0), gI_comm (Q 1) (P 1), gI_comm (Q 6) (P 6), Int32.add_comm (Q 2) (P 2), Int32.add_comm (Q 3) (P 3), Int32.add_comm (Q 5) (P 5), h]
theorem bOK_comm {s P Q : Nat → Int32} (h : bOK s P Q) : bOK s Q P := ⟨h.1.symm, h.2.2.1, h.2.1, by rw [Int32.add_comm]; exact h.2.2.2.1, by rw [bnP_comm h.1]; exact h.2.2.2.2⟩
theorem bdF_comm {s P Q : Nat → Int32} : bdF s Q P = bdF s P Q := by
  unfold bdF
  by_cases h : bOK s P Q
  · rw [if_pos h, if_pos (bOK_comm h), bnP_comm h.1]
  · rw [if_neg h, if_neg (fun z => h (bOK_comm z))]
def bnF (y : Nat) (z : Int32) : Nat → Value := fun k => match k with
  | 0 => .ref (y + 1)
  | 1 => .ref (y + 2)
  | 2 => .ref (y + 3)
  | 3 => .ref (y + 11)
  | 4 => .int z
  | _ => .null
theorem bnF_4 {y : Nat} {z x : Int32} : kuF (bnF y z) 4 (.int x) = bnF y x := by
  funext j
  match j with
  | 0 => rfl
  | 1 => rfl
  | 2 => rfl
  | 3 => rfl
  | 4 => rfl
  | q + 5 => simp [kuF, bnF]
set_option maxRecDepth 100000 in
set_option maxHeartbeats 4000000 in
theorem c0_pair {w : kM} {y : Nat} {z : Int32} (hy : w y = kO 0 (bnF y z)) {X : Nat → Int32} (hb : w (y + 1) = kO 2 (pF X)) {o : Nat} {s : Nat → Int32} {c : Nat} {σ : Nat → Nat} (H : offP w o s c σ) (hoy : y + 12 ≤ o ∨ o + 12 ≤ y) {p q : Nat} {P B : Nat → Int32} (hp : w p = kO 2 (pF P)) (hq : w q = kO 2 (pF B)) (hpy : p ≠ y + 1) (hqy : q ≠ y + 1) (hn : (0 : Int32) ≤ (if P 0 < B 0 then B 0 else P 0) ∧ (0 : Int32) ≤ (if P 1 < B 1 then B 1 else P 1) ∧ 0 ≤ P 2 + B 2) (hf : bOK s P B → fineP s (bnP P B)) : kCtrW mX0_postageOfPair 3 [.ref y, .ref o, .ref p, .ref q] w (some (.int (bdF s P B))) (fun w' => ∃ X', w' = kup w (y + 1) (kO 2 (pF X'))) := by
  refine kCtrW.of pl0 nlX0_postageOfPair rfl (Nat.le_of_ble_eq_true rfl) (fun n => ?_)
  refine kw_aload_n (pc := 0) dX0_postageOfPair_0 rfl ?_
  refine kw_getfield (pc := 1) kfw dX0_postageOfPair_1 fX0_30 hp rfl ?_
  refine kw_aload_n (pc := 4) dX0_postageOfPair_4 rfl ?_
  refine kw_getfield (pc := 5) kfw dX0_postageOfPair_5 fX0_30 hq rfl ?_
  refine kw_icmp_ne (tgt := 27) (pc := 8) dX0_postageOfPair_8 (by decide) (fun h8 => ?_) (fun h8 => ?_)
  · refine kw_iconst (v := -1) (pc := 27) dX0_postageOfPair_27 (by decide) ?_
    exact kw_ireturn nlX0_postageOfPair (pc := 28) dX0_postageOfPair_28 rfl rfl ⟨kv_eq (bdF_no (fun hh => by first | exact h8 hh.1 | exact (b2i_0.mp h16) hh.2.1 | exact (b2i_0.mp h24) hh.2.2.1)), ⟨X, (kup_id hb).symm⟩, rfl⟩
  · refine kw_aload_n (pc := 11) dX0_postageOfPair_11 rfl ?_
    refine kw_aload_n (pc := 12) dX0_postageOfPair_12 rfl ?_
    refine kw_callVr (pc := 13) dX0_postageOfPair_13 lX0_34 (c1_isTaken H hp) H.ob rfl rfl rfl ⟨by decide, by decide, Nat.le_of_ble_eq_true rfl⟩ ?_
    refine kw_if_eq (tgt := 27) (pc := 16) dX0_postageOfPair_16 (by decide) (fun h16 => ?_) (fun h16 => ?_)
    · refine kw_iconst (v := -1) (pc := 27) dX0_postageOfPair_27 (by decide) ?_
      exact kw_ireturn nlX0_postageOfPair (pc := 28) dX0_postageOfPair_28 rfl rfl ⟨kv_eq (bdF_no (fun hh => by first | exact h8 hh.1 | exact (b2i_0.mp h16) hh.2.1 | exact (b2i_0.mp h24) hh.2.2.1)), ⟨X, (kup_id hb).symm⟩, rfl⟩
    · refine kw_aload_n (pc := 19) dX0_postageOfPair_19 rfl ?_
      refine kw_aload_n (pc := 20) dX0_postageOfPair_20 rfl ?_
      refine kw_callVr (pc := 21) dX0_postageOfPair_21 lX0_34 (c1_isTaken H hq) H.ob rfl rfl rfl ⟨by decide, by decide, Nat.le_of_ble_eq_true rfl⟩ ?_
      refine kw_if_ne (tgt := 29) (pc := 24) dX0_postageOfPair_24 (by decide) (fun h24 => ?_) (fun h24 => ?_)
      · refine kw_aload_n (pc := 29) dX0_postageOfPair_29 rfl ?_
        refine kw_getfield (pc := 30) kfw dX0_postageOfPair_30 fX0_12 hy rfl ?_
        refine kw_aload_n (pc := 33) dX0_postageOfPair_33 rfl ?_
        refine kw_aload_n (pc := 34) dX0_postageOfPair_34 rfl ?_
        refine kw_callVw0 (pc := 35) dX0_postageOfPair_35 lX0_40 (c2_bundle hb hpy hp hqy hq hn) hb rfl rfl rfl ⟨by decide, by decide, Nat.le_of_ble_eq_true rfl⟩ (fun w1 hw1 => ?_)
        have hw1 : w1 = _ := hw1
        subst hw1
        have H1 := H.fr (w' := kup w (y + 1) (kO 2 (pF (bnP P B)))) (fun k h1 h2 => kup_ne (by omega))
        refine kw_aload_n (pc := 38) dX0_postageOfPair_38 rfl ?_
        refine kw_getfield (pc := 39) kfw dX0_postageOfPair_39 fX0_12 ((kup_ne (by omega)).trans hy) rfl ?_
        refine kw_getfield (pc := 42) kfw dX0_postageOfPair_42 fX0_44 (kup_self _ _ _) rfl ?_
        refine kw_bipush (v := 99) (pc := 45) dX0_postageOfPair_45 (by decide) ?_
        refine kw_icmp_gt (tgt := 61) (pc := 47) dX0_postageOfPair_47 (by decide) (fun h47 => ?_) (fun h47 => ?_)
        · refine kw_iconst (v := -1) (pc := 61) dX0_postageOfPair_61 (by decide) ?_
          exact kw_ireturn nlX0_postageOfPair (pc := 62) dX0_postageOfPair_62 rfl rfl ⟨kv_eq (bdF_no (fun hh => by first | exact absurd hh.2.2.2.1 (Int32.not_le.mpr h47) | exact (b2i_0.mp h58) hh.2.2.2.2)), ⟨_, rfl⟩, rfl⟩
        · refine kw_aload_n (pc := 50) dX0_postageOfPair_50 rfl ?_
          refine kw_aload_n (pc := 51) dX0_postageOfPair_51 rfl ?_
          refine kw_getfield (pc := 52) kfw dX0_postageOfPair_52 fX0_12 ((kup_ne (by omega)).trans hy) rfl ?_
          refine kw_callVr (pc := 55) dX0_postageOfPair_55 lX0_34 (c1_isTaken H1 (kup_self _ _ _)) H1.ob rfl rfl rfl ⟨by decide, by decide, Nat.le_of_ble_eq_true rfl⟩ ?_
          refine kw_if_ne (tgt := 63) (pc := 58) dX0_postageOfPair_58 (by decide) (fun h58 => ?_) (fun h58 => ?_)
          · have hok : bOK s P B := ⟨h8, Decidable.not_not.mp (mt b2i_0.mpr h16), Decidable.not_not.mp (mt b2i_0.mpr h24), show P 3 + B 3 ≤ 99 from Int32.not_lt.mp h47, Decidable.not_not.mp (mt b2i_0.mpr h58)⟩
            refine kw_aload_n (pc := 63) dX0_postageOfPair_63 rfl ?_
            refine kw_aload_n (pc := 64) dX0_postageOfPair_64 rfl ?_
            refine kw_getfield (pc := 65) kfw dX0_postageOfPair_65 fX0_12 ((kup_ne (by omega)).trans hy) rfl ?_
            refine kw_aload_n (pc := 68) dX0_postageOfPair_68 rfl ?_
            refine kw_aload_n (pc := 69) dX0_postageOfPair_69 rfl ?_
            refine kw_getfield (pc := 70) kfw dX0_postageOfPair_70 fX0_12 ((kup_ne (by omega)).trans hy) rfl ?_
            refine kw_aload_n (pc := 73) dX0_postageOfPair_73 rfl ?_
            refine kw_getfield (pc := 74) kfw dX0_postageOfPair_74 fX0_12 ((kup_ne (by omega)).trans hy) rfl ?_
            refine kw_getfield (pc := 77) kfw dX0_postageOfPair_77 fX0_47 (kup_self _ _ _) rfl ?_
            refine kw_callVr (pc := 80) dX0_postageOfPair_80 lX0_50 (c1_stringO H1 (kup_self _ _ _) rfl) H1.ob rfl rfl rfl ⟨by decide, by decide, Nat.le_of_ble_eq_true rfl⟩ ?_
            refine kw_callVr (pc := 83) dX0_postageOfPair_83 lX0_54 (c1_postageO H1 (kup_self _ _ _) rfl (hf hok)) H1.ob rfl rfl rfl ⟨by decide, by decide, Nat.le_of_ble_eq_true rfl⟩ ?_
            exact kw_ireturn nlX0_postageOfPair (pc := 86) dX0_postageOfPair_86 rfl rfl ⟨kv_eq (bdF_yes hok), ⟨_, rfl⟩, rfl⟩
          · refine kw_iconst (v := -1) (pc := 61) dX0_postageOfPair_61 (by decide) ?_
            exact kw_ireturn nlX0_postageOfPair (pc := 62) dX0_postageOfPair_62 rfl rfl ⟨kv_eq (bdF_no (fun hh => by first | exact absurd hh.2.2.2.1 (Int32.not_le.mpr h47) | exact (b2i_0.mp h58) hh.2.2.2.2)), ⟨_, rfl⟩, rfl⟩
      · refine kw_iconst (v := -1) (pc := 27) dX0_postageOfPair_27 (by decide) ?_
        exact kw_ireturn nlX0_postageOfPair (pc := 28) dX0_postageOfPair_28 rfl rfl ⟨kv_eq (bdF_no (fun hh => by first | exact h8 hh.1 | exact (b2i_0.mp h16) hh.2.1 | exact (b2i_0.mp h24) hh.2.2.1)), ⟨X, (kup_id hb).symm⟩, rfl⟩
