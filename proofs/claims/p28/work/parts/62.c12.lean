def nnP (P : Nat → Int32) : Prop := 0 ≤ P 0 ∧ 0 ≤ P 1 ∧ 0 ≤ P 2 ∧ P 2 ≤ 1000
theorem nn_hn {P B : Nat → Int32} (h1 : nnP P) (h2 : nnP B) : (0 : Int32) ≤ (if P 0 < B 0 then B 0 else P 0) ∧ (0 : Int32) ≤ (if P 1 < B 1 then B 1 else P 1) ∧ 0 ≤ P 2 + B 2 := by
  obtain ⟨a1, a2, a3, a4⟩ := h1
  obtain ⟨b1, b2, b3, b4⟩ := h2
  refine ⟨?_, ?_, ?_⟩
  · split <;> assumption
  · split <;> assumption
  · grind
def bnS (w : kM) (y : Nat) (z : Nat) (a : Nat → Int32) (G : Nat → Nat → Int32) (L : Nat → Int32) : Prop := w y = kO 0 (bnF y (nI z)) ∧ (∃ X, w (y + 1) = kO 2 (pF X)) ∧ w (y + 2) = kI 0 7 (tr 7 a) ∧ w (y + 3) = kV 4 7 (tv 7 (fun k => .ref (y + 4 + k))) ∧ (∀ k, k < 7 → w (y + 4 + k) = kI 0 7 (tr 7 (G k))) ∧ w (y + 11) = kI 0 128 (tr 128 L)
theorem bnS.fr {w w' : kM} {y z : Nat} {a : Nat → Int32} {G : Nat → Nat → Int32} {L : Nat → Int32} (B : bnS w y z a G L) (h : ∀ k, y ≤ k → k < y + 12 → w' k = w k) : bnS w' y z a G L := by
  obtain ⟨b1, ⟨X, b2⟩, b3, b4, b5, b6⟩ := B
  exact ⟨(h _ (by omega) (by omega)).trans b1, ⟨X, (h _ (by omega) (by omega)).trans b2⟩, (h _ (by omega) (by omega)).trans b3, (h _ (by omega) (by omega)).trans b4, fun k hk => (h _ (by omega) (by omega)).trans (b5 k hk), (h _ (by omega) (by omega)).trans b6⟩
theorem bnS.sz {w : kM} {y z z' : Nat} {a : Nat → Int32} {G : Nat → Nat → Int32} {L : Nat → Int32} (B : bnS w y z a G L) : bnS (kup w y (kO 0 (bnF y (nI z')))) y z' a G L := by
  obtain ⟨b1, ⟨X, b2⟩, b3, b4, b5, b6⟩ := B
  exact ⟨kup_self _ _ _, ⟨X, (kup_ne (by omega)).trans b2⟩, (kup_ne (by omega)).trans b3, (kup_ne (by omega)).trans b4, fun k hk => (kup_ne (by omega)).trans (b5 k hk), (kup_ne (by omega)).trans b6⟩
theorem bnS.al {w : kM} {y z : Nat} {a a' : Nat → Int32} {G : Nat → Nat → Int32} {L : Nat → Int32} (B : bnS w y z a G L) : bnS (kup w (y + 2) (kI 0 7 (tr 7 a'))) y z a' G L := by
  obtain ⟨b1, ⟨X, b2⟩, b3, b4, b5, b6⟩ := B
  exact ⟨(kup_ne (by omega)).trans b1, ⟨X, (kup_ne (by omega)).trans b2⟩, kup_self _ _ _, (kup_ne (by omega)).trans b4, fun k hk => (kup_ne (by omega)).trans (b5 k hk), (kup_ne (by omega)).trans b6⟩
theorem bnS.ls {w : kM} {y z : Nat} {a : Nat → Int32} {G : Nat → Nat → Int32} {L L' : Nat → Int32} (B : bnS w y z a G L) : bnS (kup w (y + 11) (kI 0 128 (tr 128 L'))) y z a G L' := by
  obtain ⟨b1, ⟨X, b2⟩, b3, b4, b5, b6⟩ := B
  exact ⟨(kup_ne (by omega)).trans b1, ⟨X, (kup_ne (by omega)).trans b2⟩, (kup_ne (by omega)).trans b3, (kup_ne (by omega)).trans b4, fun k hk => (kup_ne (by omega)).trans (b5 k hk), kup_self _ _ _⟩
def tgU (G : Nat → Nat → Int32) (i j : Nat) (v : Int32) : Nat → Nat → Int32 := fun k => if k = i then kuf (G i) j v else if k = j then kuf (G j) i v else G k
theorem bnS.tg {w : kM} {y z i j : Nat} {a : Nat → Int32} {G : Nat → Nat → Int32} {L : Nat → Int32} {v : Int32} {X : Nat → Int32} (B : bnS w y z a G L) (hi : i < 7) (hj : j < 7) (hne : j ≠ i) : bnS (kup (kup (kup w (y + 1) (kO 2 (pF X))) (y + 4 + i) (kI 0 7 (tr 7 (kuf (G i) j v)))) (y + 4 + j) (kI 0 7 (tr 7 (kuf (G j) i v)))) y z a (tgU G i j v) L := by
  obtain ⟨b1, -, b3, b4, b5, b6⟩ := B
  refine ⟨(kup_ne (by omega)).trans ((kup_ne (by omega)).trans ((kup_ne (by omega)).trans b1)), ⟨X, (kup_ne (by omega)).trans ((kup_ne (by omega)).trans (kup_self _ _ _))⟩, (kup_ne (by omega)).trans ((kup_ne (by omega)).trans ((kup_ne (by omega)).trans b3)), (kup_ne (by omega)).trans ((kup_ne (by omega)).trans ((kup_ne (by omega)).trans b4)), fun k hk => ?_, (kup_ne (by omega)).trans ((kup_ne (by omega)).trans ((kup_ne (by omega)).trans b6))⟩
  unfold tgU
  by_cases e1 : k = j
  · subst e1
    rw [kup_self, if_neg hne, if_pos rfl]
  · rw [kup_ne (by omega)]
    by_cases e2 : k = i
    · subst e2
      rw [kup_self, if_pos rfl]
    · rw [kup_ne (by omega), kup_ne (by omega), if_neg e2, if_neg e1]
      exact b5 k hk
abbrev alOK (s : Nat → Int32) (i : Nat) (a : Nat → Int32) : Prop := ∀ k, k < i → a k = alS s k
/-- the pairs that are told so far: those below i, and i's with those below j -/
abbrev tgOK (s : Nat → Int32) (i j : Nat) (G : Nat → Nat → Int32) : Prop := ∀ p q, p ≠ q → (p < i ∧ q < i) ∨ (p = i ∧ q < j) ∨ (q = i ∧ p < j) → G p q = bdS s p q
theorem tgOK.up {s : Nat → Int32} {i j : Nat} {G : Nat → Nat → Int32} (h : tgOK s i j G) (hj : j < i) : tgOK s i (j + 1) (tgU G i j (bdS s i j)) := by
  intro p q hne hc
  unfold tgU kuf
  by_cases e1 : p = i
  · subst e1
    rw [if_pos rfl]
    by_cases e2 : q = j
    · subst e2
      rw [if_pos rfl]
    · rw [if_neg e2]
      exact h p q hne (by omega)
  · rw [if_neg e1]
    by_cases e2 : p = j
    · subst e2
      rw [if_pos rfl]
      by_cases e3 : q = i
      · subst e3
        rw [if_pos rfl]
        exact bdF_comm
      · rw [if_neg e3]
        exact h p q hne (by omega)
    · rw [if_neg e2]
      exact h p q hne (by omega)
theorem tgOK.nx {s : Nat → Int32} {i : Nat} {G : Nat → Nat → Int32} (h : tgOK s i i G) : tgOK s (i + 1) 0 G := fun p q hne hc => h p q hne (by omega)
theorem min7 {x : Int32} {c : Nat} (h : x = nI c) (hc : c ≤ 7) : (if 7 < x then 7 else x) = nI c := by
  have e : (7 : Int32) < x ↔ 7 < c := kLtI (a := 7) (b := c) (by omega) (by omega) (rfl : (7 : Int32) = nI 7) h
  rw [if_neg (by rw [e]; omega), h]
set_option maxRecDepth 100000 in
set_option maxHeartbeats 4000000 in
theorem c0_weigh {w : kM} {y z : Nat} {a : Nat → Int32} {G : Nat → Nat → Int32} {L : Nat → Int32} (B : bnS w y z a G L) {o : Nat} {s : Nat → Int32} {c : Nat} {σ : Nat → Nat} (H : offP w o s c σ) (hoy : y + 12 ≤ o ∨ o + 12 ≤ y) (F : fineS s c) (hN : ∀ k, k < c → nnP (pa s (21 + 7 * k))) : kCtrW mX0_weigh 4 [.ref y, .ref o] w none (fun w' => (∃ a' G', bnS w' y c a' G' L ∧ alOK s c a' ∧ tgOK s c 0 G') ∧ ∀ a, (a < y ∨ y + 12 ≤ a) → w' a = w a) := by
  refine kCtrW.of pl0 nlX0_weigh rfl (Nat.le_of_ble_eq_true rfl) (fun n => ?_)
  have h7 := H.c7
  have loop : ∀ (m i : Nat) (wi : kM) (a1 : Nat → Int32) (G1 : Nat → Nat → Int32), m = c - i → i ≤ c → bnS wi y c a1 G1 L → alOK s i a1 → tgOK s i 0 G1 → (∀ b, (b < y ∨ y + 12 ≤ b) → wi b = w b) → kW (0, fun _ => 0) mX0_weigh 4 (fun o' w' n' => o' = .inl none ∧ (fun w' => (∃ a' G', bnS w' y c a' G' L ∧ alOK s c a' ∧ tgOK s c 0 G') ∧ ∀ a, (a < y ∨ y + 12 ≤ a) → w' a = w a) w' ∧ n' = n) 0 0 n wi 15 [(0, .ref y), (1, .ref o), (2, .int (nI i))] [] := by
    intro m
    induction m using Nat.strongRecOn with
    | _ m ih =>
      intro i wi a1 G1 hm hi B1 hA hG hF
      have H1 := H.fr (w' := wi) (fun k h1 h2 => hF k (by omega))
      have inner : i < c → ∀ (mj j : Nat) (wj : kM) (a1 : Nat → Int32) (G1 : Nat → Nat → Int32), mj = i - j → j ≤ i → bnS wj y c a1 G1 L → alOK s (i + 1) a1 → tgOK s i j G1 → (∀ b, (b < y ∨ y + 12 ≤ b) → wj b = w b) → kW (0, fun _ => 0) mX0_weigh 4 (fun o' w' n' => o' = .inl none ∧ (fun w' => (∃ a' G', bnS w' y c a' G' L ∧ alOK s c a' ∧ tgOK s c 0 G') ∧ ∀ a, (a < y ∨ y + 12 ≤ a) → w' a = w a) w' ∧ n' = n) 0 0 n wj 69 [(0, .ref y), (1, .ref o), (2, .int (nI i)), (3, .ref (o + 5 + σ i)), (5, .int (nI j))] [] := by
        intro hic mj
        induction mj using Nat.strongRecOn with
        | _ mj ihj =>
          intro j wj a1 G1 hmj hj B1 hA hG hF
          have H1 := H.fr (w' := wj) (fun k h1 h2 => hF k (by omega))
          refine kw_iload (pc := 69) dX0_weigh_69 rfl ?_
          refine kw_iload_n (pc := 71) dX0_weigh_71 rfl ?_
          refine kw_icmp_ge (tgt := 118) (pc := 72) dX0_weigh_72 (by decide) (fun h72 => ?_) (fun h72 => ?_)
          · have h72 := (kLeI (a := i) (b := j) (by omega) (by omega) rfl rfl).mp h72
            refine kw_iinc (pc := 118) dX0_weigh_118 (by decide) rfl rfl rfl ?_
            refine kw_goto (tgt := 15) (pc := 121) dX0_weigh_121 (by decide) ?_
            obtain rfl : i = j := by omega
            exact kW.locs (ih (c - (i + 1)) (by omega) (i + 1) wj a1 G1 rfl (by omega) B1 hA hG.nx hF) ⟨rfl, rfl, kgE rfl (kA (a := i) (b := 1) rfl (rfl : (Int32.ofInt 1) = nI 1)), trivial⟩
          · have h72 := mt (kLeI (a := i) (b := j) (by omega) (by omega) rfl rfl).mpr h72
            refine kw_aload_n (pc := 75) dX0_weigh_75 rfl ?_
            refine kw_aload_n (pc := 76) dX0_weigh_76 rfl ?_
            refine kw_aload_n (pc := 77) dX0_weigh_77 rfl ?_
            refine kw_aload_n (pc := 78) dX0_weigh_78 rfl ?_
            refine kw_getfield (pc := 79) kfw dX0_weigh_79 fX0_67 H1.ob rfl ?_
            refine kw_iload (pc := 82) dX0_weigh_82 rfl ?_
            refine kw_aaloadT (pc := 84) (i := j) dX0_weigh_84 H1.ps rfl rfl (by omega) (by decide) rfl ?_
            obtain ⟨X, hX⟩ := B1.2.1
            have hl1 := H1.lt i (by omega)
            have hl2 := H1.lt j (by omega)
            refine kw_callVw1 (pc := 85) dX0_weigh_85 lX0_71 (c0_pair B1.1 hX H1 (by omega) (H1.par i (by omega)) (H1.par j (by omega)) (by omega) (by omega) (nn_hn (hN i (by omega)) (hN j (by omega))) (F.2.2.2 i (by omega) j (by omega) (by omega))) B1.1 rfl rfl rfl ⟨by decide, by decide, Nat.le_of_ble_eq_true rfl⟩ (fun wz hz => ?_)
            obtain ⟨X1, hz⟩ := hz
            subst hz
            refine kw_istore (pc := 88) dX0_weigh_88 (by decide) rfl ?_
            refine kw_aload_n (pc := 90) dX0_weigh_90 rfl ?_
            refine kw_getfield (pc := 91) kfw dX0_weigh_91 fX0_24 ((kup_ne (by omega)).trans (B1.1)) rfl ?_
            refine kw_iload_n (pc := 94) dX0_weigh_94 rfl ?_
            refine kw_aaloadT (pc := 95) (i := i) dX0_weigh_95 ((kup_ne (by omega)).trans B1.2.2.2.1) rfl rfl (by omega) (by decide) rfl ?_
            refine kw_iload (pc := 96) dX0_weigh_96 rfl ?_
            refine kw_iload (pc := 98) dX0_weigh_98 rfl ?_
            refine kw_iastoreT (pc := 100) (i := j) dX0_weigh_100 ((kup_ne (by omega)).trans (B1.2.2.2.2.1 i (by omega))) rfl (by omega) (by decide) ?_
            refine kw_aload_n (pc := 101) dX0_weigh_101 rfl ?_
            refine kw_getfield (pc := 102) kfw dX0_weigh_102 fX0_24 ((kup_ne (by omega)).trans ((kup_ne (by omega)).trans (B1.1))) rfl ?_
            refine kw_iload (pc := 105) dX0_weigh_105 rfl ?_
            refine kw_aaloadT (pc := 107) (i := j) dX0_weigh_107 ((kup_ne (by omega)).trans ((kup_ne (by omega)).trans B1.2.2.2.1)) rfl rfl (by omega) (by decide) rfl ?_
            refine kw_iload_n (pc := 108) dX0_weigh_108 rfl ?_
            refine kw_iload (pc := 109) dX0_weigh_109 rfl ?_
            refine kw_iastoreT (pc := 111) (i := i) dX0_weigh_111 ((kup_ne (by omega)).trans ((kup_ne (by omega)).trans (B1.2.2.2.2.1 j (by omega)))) rfl (by omega) (by decide) (kgen (fun w3 hw3 => ?_))
            refine kw_iinc (pc := 112) dX0_weigh_112 (by decide) rfl rfl rfl ?_
            refine kw_goto (tgt := 69) (pc := 115) dX0_weigh_115 (by decide) ?_
            have e3 := B1.tg (i := i) (j := j) (v := bdS s i j) (X := X1) (by omega) (by omega) (by omega)
            rw [← hw3] at e3
            exact kW.locs (ihj (i - (j + 1)) (by omega) (j + 1) w3 a1 _ rfl (by omega) e3 hA (hG.up (by omega)) (fun b hb => by rw [hw3, kup_ne (by omega), kup_ne (by omega), kup_ne (by omega)]; exact hF b hb)) ⟨rfl, rfl, rfl, rfl, kgE rfl (kA (a := j) (b := 1) rfl (rfl : (Int32.ofInt 1) = nI 1)), trivial⟩
      refine kw_iload_n (pc := 15) dX0_weigh_15 rfl ?_
      refine kw_aload_n (pc := 16) dX0_weigh_16 rfl ?_
      refine kw_getfield (pc := 17) kfw dX0_weigh_17 fX0_66 B1.1 rfl ?_
      refine kw_icmp_ge (tgt := 124) (pc := 20) dX0_weigh_20 (by decide) (fun h20 => ?_) (fun h20 => ?_)
      · have h20 := (kLeI (a := c) (b := i) (by omega) (by omega) rfl rfl).mp h20
        exact kw_return nlX0_weigh (pc := 124) dX0_weigh_124 rfl ⟨rfl, ⟨⟨a1, G1, B1, by rw [show c = i by omega]; exact hA, by rw [show c = i by omega]; exact hG⟩, hF⟩, rfl⟩
      · have h20 := mt (kLeI (a := c) (b := i) (by omega) (by omega) rfl rfl).mpr h20
        refine kw_aload_n (pc := 23) dX0_weigh_23 rfl ?_
        refine kw_getfield (pc := 24) kfw dX0_weigh_24 fX0_67 H1.ob rfl ?_
        refine kw_iload_n (pc := 27) dX0_weigh_27 rfl ?_
        refine kw_aaloadT (pc := 28) (i := i) dX0_weigh_28 H1.ps rfl rfl (by omega) (by decide) rfl ?_
        refine kw_astore_n (pc := 29) dX0_weigh_29 (by decide) rfl ?_
        refine kw_aload_n (pc := 30) dX0_weigh_30 rfl ?_
        refine kw_aload_n (pc := 31) dX0_weigh_31 rfl ?_
        refine kw_callVr (pc := 32) dX0_weigh_32 lX0_34 (c1_isTaken H1 (H1.par i (by omega))) H1.ob rfl rfl rfl ⟨by decide, by decide, Nat.le_of_ble_eq_true rfl⟩ ?_
        refine kw_istore (pc := 35) dX0_weigh_35 (by decide) rfl ?_
        refine kw_aload_n (pc := 37) dX0_weigh_37 rfl ?_
        refine kw_getfield (pc := 38) kfw dX0_weigh_38 fX0_18 B1.1 rfl ?_
        refine kw_iload_n (pc := 41) dX0_weigh_41 rfl ?_
        refine kw_iload (pc := 42) dX0_weigh_42 rfl ?_
        refine kw_if_eq (tgt := 64) (pc := 44) dX0_weigh_44 (by decide) (fun h44 => ?_) (fun h44 => ?_)
        · refine kw_iconst (v := 0) (pc := 64) dX0_weigh_64 (by decide) ?_
          refine kw_iastoreT (pc := 65) (i := i) dX0_weigh_65 B1.2.2.1 rfl (by omega) (by decide) (kgen (fun w3 hw3 => ?_))
          refine kw_iconst (v := 0) (pc := 66) dX0_weigh_66 (by decide) ?_
          refine kw_istore (pc := 67) dX0_weigh_67 (by decide) rfl ?_
          have e3 := B1.al (a' := kuf a1 i (alS s i))
          have ev : ∀ {x : Int32}, x = alS s i → w3 = kup wi (y + 2) (kI 0 7 (tr 7 (kuf a1 i x))) → w3 = kup wi (y + 2) (kI 0 7 (tr 7 (kuf a1 i (alS s i)))) := fun h1 h2 => by rw [h2, h1]
          have hw4 := ev (by show _ = pAl s (pa s (21 + 7 * i)); unfold pAl; first | rw [if_pos (Decidable.not_not.mp (mt b2i_0.mpr h44))] | rw [if_neg (b2i_0.mp h44)]) hw3
          rw [← hw4] at e3
          exact kW.locs (inner (by omega) (i - 0) 0 w3 _ G1 rfl (Nat.zero_le _) e3 (fun k hk => by
            by_cases e : k = i
            · subst e; exact kuf_eq _ _ _
            · rw [kuf_ne e]; exact hA k (by omega)) hG (fun b hb => by rw [hw4, kup_ne (by omega)]; exact hF b hb)) ⟨rfl, rfl, rfl, rfl, rfl, trivial⟩
        · refine kw_aload_n (pc := 47) dX0_weigh_47 rfl ?_
          refine kw_aload_n (pc := 48) dX0_weigh_48 rfl ?_
          refine kw_aload_n (pc := 49) dX0_weigh_49 rfl ?_
          refine kw_aload_n (pc := 50) dX0_weigh_50 rfl ?_
          refine kw_aload_n (pc := 51) dX0_weigh_51 rfl ?_
          refine kw_getfield (pc := 52) kfw dX0_weigh_52 fX0_47 (H1.par i (by omega)) rfl ?_
          refine kw_callVr (pc := 55) dX0_weigh_55 lX0_50 (c1_stringO H1 (H1.par i (by omega)) rfl) H1.ob rfl rfl rfl ⟨by decide, by decide, Nat.le_of_ble_eq_true rfl⟩ ?_
          refine kw_callVr (pc := 58) dX0_weigh_58 lX0_54 (c1_postageO H1 (H1.par i (by omega)) rfl (F.2.2.1 i (by omega)).1) H1.ob rfl rfl rfl ⟨by decide, by decide, Nat.le_of_ble_eq_true rfl⟩ ?_
          refine kw_goto (tgt := 65) (pc := 61) dX0_weigh_61 (by decide) ?_
          refine kw_iastoreT (pc := 65) (i := i) dX0_weigh_65 B1.2.2.1 rfl (by omega) (by decide) (kgen (fun w3 hw3 => ?_))
          refine kw_iconst (v := 0) (pc := 66) dX0_weigh_66 (by decide) ?_
          refine kw_istore (pc := 67) dX0_weigh_67 (by decide) rfl ?_
          have e3 := B1.al (a' := kuf a1 i (alS s i))
          have ev : ∀ {x : Int32}, x = alS s i → w3 = kup wi (y + 2) (kI 0 7 (tr 7 (kuf a1 i x))) → w3 = kup wi (y + 2) (kI 0 7 (tr 7 (kuf a1 i (alS s i)))) := fun h1 h2 => by rw [h2, h1]
          have hw4 := ev (by show _ = pAl s (pa s (21 + 7 * i)); unfold pAl; first | rw [if_pos (Decidable.not_not.mp (mt b2i_0.mpr h44))] | rw [if_neg (b2i_0.mp h44)]) hw3
          rw [← hw4] at e3
          exact kW.locs (inner (by omega) (i - 0) 0 w3 _ G1 rfl (Nat.zero_le _) e3 (fun k hk => by
            by_cases e : k = i
            · subst e; exact kuf_eq _ _ _
            · rw [kuf_ne e]; exact hA k (by omega)) hG (fun b hb => by rw [hw4, kup_ne (by omega)]; exact hF b hb)) ⟨rfl, rfl, rfl, rfl, rfl, trivial⟩
  refine kw_aload_n (pc := 0) dX0_weigh_0 rfl ?_
  refine kw_aload_n (pc := 1) dX0_weigh_1 rfl ?_
  refine kw_getfield (pc := 2) kfw dX0_weigh_2 fX0_57 H.ob rfl ?_
  refine kw_bipush (v := 7) (pc := 5) dX0_weigh_5 (by decide) ?_
  refine kw_mmin (pc := 7) dX0_weigh_7 lX0_60 (by decide) (Nat.le_of_ble_eq_true rfl) ?_
  refine kw_putfield (pc := 10) kfw dX0_weigh_10 fX0_66 B.1 (fun _ _ => rfl) (fun _ _ => rfl) (kgen (fun w3 hw3 => ?_))
  rw [bnF_4, min7 H.sz H.c7] at hw3
  refine kw_iconst (v := 0) (pc := 13) dX0_weigh_13 (by decide) ?_
  refine kw_istore_n (pc := 14) dX0_weigh_14 (by decide) rfl ?_
  have e3 := B.sz (z' := c)
  rw [← hw3] at e3
  exact kW.locs (loop (c - 0) 0 w3 a G rfl (Nat.zero_le _) e3 (fun k hk => absurd hk (Nat.not_lt_zero k)) (fun p q _ hc => by omega) (fun b hb => by rw [hw3]; exact kup_ne (by omega))) ⟨rfl, rfl, rfl, trivial⟩
set_option maxRecDepth 100000 in
set_option maxHeartbeats 4000000 in
theorem c0_cost {w : kM} {y z : Nat} {a : Nat → Int32} {G : Nat → Nat → Int32} {L : Nat → Int32} (B : bnS w y z a G L) (hz : z ≤ 7) : kCtrR mX0_costUnbundled 0 [.ref y] w (.int (sumF a z)) := by
  refine kCtrR.of pl0 nlX0_costUnbundled rfl (Nat.le_of_ble_eq_true rfl) (fun n => ?_)
  have loop : ∀ (m : Nat) (k : Nat), m = z - k → k ≤ z → kW (0, fun _ => 0) mX0_costUnbundled 0 (fun o' w' n' => o' = .inl (some (.int (sumF a z))) ∧ w' = w ∧ n' = n) 0 0 n w 4 [(0, .ref y), (1, .int (sumF a k)), (2, .int (nI k))] [] := by
    intro m
    induction m using Nat.strongRecOn with
    | _ m ih =>
      intro k hm hk
      refine kw_iload_n (pc := 4) dX0_costUnbundled_4 rfl ?_
      refine kw_aload_n (pc := 5) dX0_costUnbundled_5 rfl ?_
      refine kw_getfield (pc := 6) kfw dX0_costUnbundled_6 fX0_66 B.1 rfl ?_
      refine kw_icmp_ge (tgt := 27) (pc := 9) dX0_costUnbundled_9 (by decide) (fun h9 => ?_) (fun h9 => ?_)
      · have h9 := (kLeI (a := z) (b := k) (by omega) (by omega) rfl rfl).mp h9
        refine kw_iload_n (pc := 27) dX0_costUnbundled_27 rfl ?_
        exact kw_ireturn nlX0_costUnbundled (pc := 28) dX0_costUnbundled_28 rfl rfl ⟨kv_eq (by rw [show k = z by omega]), rfl, rfl⟩
      · have h9 := mt (kLeI (a := z) (b := k) (by omega) (by omega) rfl rfl).mpr h9
        refine kw_iload_n (pc := 12) dX0_costUnbundled_12 rfl ?_
        refine kw_aload_n (pc := 13) dX0_costUnbundled_13 rfl ?_
        refine kw_getfield (pc := 14) kfw dX0_costUnbundled_14 fX0_18 B.1 rfl ?_
        refine kw_iload_n (pc := 17) dX0_costUnbundled_17 rfl ?_
        refine kw_ialoadT (pc := 18) (i := k) dX0_costUnbundled_18 B.2.2.1 rfl (by omega) (by decide) ?_
        refine kw_iadd (pc := 19) dX0_costUnbundled_19 ?_
        refine kw_istore_n (pc := 20) dX0_costUnbundled_20 (by decide) rfl ?_
        refine kw_iinc (pc := 21) dX0_costUnbundled_21 (by decide) rfl rfl rfl ?_
        refine kw_goto (tgt := 4) (pc := 24) dX0_costUnbundled_24 (by decide) ?_
        exact kW.locs (ih (z - (k + 1)) (by omega) (k + 1) rfl (by omega)) ⟨rfl, kgE rfl rfl, kgE rfl (kA (a := k) (b := 1) rfl (rfl : (Int32.ofInt 1) = nI 1)), trivial⟩
  refine kw_iconst (v := 0) (pc := 0) dX0_costUnbundled_0 (by decide) ?_
  refine kw_istore_n (pc := 1) dX0_costUnbundled_1 (by decide) rfl ?_
  refine kw_iconst (v := 0) (pc := 2) dX0_costUnbundled_2 (by decide) ?_
  refine kw_istore_n (pc := 3) dX0_costUnbundled_3 (by decide) rfl ?_
  exact kW.locs (loop (z - 0) 0 rfl (by omega)) ⟨rfl, rfl, rfl, trivial⟩
