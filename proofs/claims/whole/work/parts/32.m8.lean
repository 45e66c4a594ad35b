theorem c_canHaveE {w0 : kM} {mo : Nat} {s : Nat → Int32} {sv : Int32} {kp bf : Nat → Int32} {ty th : Int32} {co ma : Nat → Int32} {sp : Int32} {x y : Int32} {c k j : Nat} (hx : x = nI k) (hy : y = nI j) (H : fineS s c) (hk : k < c) (hj : j < c) : kCtrW mX6_canHave 5 [.ref mo, .int x, .int y] (mM w0 mo s sv kp bf ty th co ma sp) (some (.int (b2i (chH s ma k j)))) (fun w' => ∃ s', w' = (mM w0 mo s' sv kp bf ty th co ma sp) ∧ agr s s') := by
  subst hx; subst hy
  exact c_canHave H hk hj
def noM (ma : Nat → Int32) (k : Nat) : Nat → Int32 := fun i => if i < k then -1 else ma i
theorem noM_0 {ma : Nat → Int32} : noM ma 0 = ma := by
  funext i
  unfold noM
  rw [if_neg (by omega)]
theorem noM_step {ma : Nat → Int32} {k : Nat} : kuf (noM ma k) k (-1) = noM ma (k + 1) := by
  funext i
  unfold kuf noM
  by_cases h : i = k
  · rw [if_pos h, if_pos (by omega)]
  · rw [if_neg h]
    by_cases h2 : i < k
    · rw [if_pos h2, if_pos (by omega)]
    · rw [if_neg h2, if_neg (by omega)]
theorem cosN_agr {s s1 : Nat → Int32} {c : Nat} {mu : Nat → Nat} (H : fineS s c) (ha : agr s s1) (hmu : ∀ k, k < c → mu k < c) : ∀ {k : Nat}, k ≤ c → cosN s1 mu k = cosN s mu k
  | 0, _ => rfl
  | k + 1, h => by
    unfold cosN
    rw [cosN_agr H ha hmu (by omega), alS_agr H ha (by omega)]
    by_cases h2 : k < mu k
    · rw [bdS_agr H ha (by omega) (hmu k (by omega)) (by omega)]
    · simp only [if_neg h2]
theorem chH_agr {s s1 ma : Nat → Int32} {c k j : Nat} (H : fineS s c) (ha : agr s s1) (hk : k < c) (hj : j < c) : chH s1 ma k j ↔ chH s ma k j := by
  unfold chH
  by_cases h : k = j
  · subst h; simp
  · rw [bdS_agr H ha hk hj h]
set_option maxRecDepth 100000 in
set_option maxHeartbeats 4000000 in
theorem c_byTrying {w0 : kM} {mo : Nat} {s : Nat → Int32} {sv : Int32} {kp bf : Nat → Int32} {ty th : Int32} {co ma : Nat → Int32} {sp : Int32}  {c : Nat} (H : fineS s c) : kCtrW mX6_byTrying 6 [.ref mo] (mM w0 mo s sv kp bf ty th co ma sp) (some (.int (dsF s c c (fun _ => 0) (-1)))) (fun w' => ∃ s' co' ma', w' = (mM w0 mo s' sv kp bf ty th co' ma' sp) ∧ agr s s') := by
  refine kCtrW.of pl6 nlX6_byTrying rfl (Nat.le_of_ble_eq_true rfl) (fun n => ?_)
  have hc7 := H.1
  have main : ∀ (d k : Nat), k + d = c → ∀ (mu : Nat → Nat) (s1 ma1 : Nat → Int32) (L : Int32), agr s s1 → (∀ i, i < k → ma1 i = nI (mu i) ∧ mu i < c) → (∀ i, k ≤ i → i < c → ma1 i = -1) → (∀ s2 ma2 : Nat → Int32, agr s s2 → (∀ i, i < k → ma2 i = nI (mu i)) → (∀ i, k ≤ i → i < c → ma2 i = -1) → kW (0, fun _ => 0) mX6_byTrying 6 (fun o w' n' => o = .inl (some (.int (dsF s c c (fun _ => 0) (-1)))) ∧ (fun w' => ∃ s' co' ma', w' = (mM w0 mo s' sv kp bf ty th co' ma' sp) ∧ agr s s') w' ∧ n' = n) 0 0 n (mM w0 mo s2 sv kp bf ty th co ma2 sp) 35 [(0, .ref mo), (1, .int (nI c)), (2, .int (dsF s c d mu L)), (3, .int (nI k - 1))] []) → kW (0, fun _ => 0) mX6_byTrying 6 (fun o w' n' => o = .inl (some (.int (dsF s c c (fun _ => 0) (-1)))) ∧ (fun w' => ∃ s' co' ma', w' = (mM w0 mo s' sv kp bf ty th co' ma' sp) ∧ agr s s') w' ∧ n' = n) 0 0 n (mM w0 mo s1 sv kp bf ty th co ma1 sp) 35 [(0, .ref mo), (1, .int (nI c)), (2, .int L), (3, .int (nI k))] [] := by
    intro d
    induction d with
    | zero =>
      intro k hkd mu s1 ma1 L ha hmu hma K
      have hkc : k = c := by omega
      subst hkc
      refine kw_iload_n (pc := 35) dX6_byTrying_35 rfl ?_
      refine kw_if_lt (tgt := 151) (pc := 36) dX6_byTrying_36 (by decide) (fun h36 => ?_) (fun h36 => ?_)
      · have h36 := (kLtI (a := k) (b := 0) (by omega) (by omega) rfl (rfl : (0 : Int32) = nI 0)).mp h36
        exfalso; omega
      · have h36 := mt (kLtI (a := k) (b := 0) (by omega) (by omega) rfl (rfl : (0 : Int32) = nI 0)).mpr h36
        refine kw_iload_n (pc := 39) dX6_byTrying_39 rfl ?_
        refine kw_iload_n (pc := 40) dX6_byTrying_40 rfl ?_
        refine kw_icmp_ne (tgt := 75) (pc := 41) dX6_byTrying_41 (by decide) (fun h41 => ?_) (fun h41 => ?_)
        · have h41 := mt (kEqI (a := k) (b := k) (by omega) (by omega) rfl rfl).mpr h41
          exact absurd rfl h41
        · have h41 := (kEqI (a := k) (b := k) (by omega) (by omega) rfl rfl).mp h41
          refine kw_aload_n (pc := 44) dX6_byTrying_44 rfl ?_
          refine kw_iload_n (pc := 45) dX6_byTrying_45 rfl ?_
          refine kw_callVw1 (pc := 46) dX6_byTrying_46 lX6_95 (c_costOf (H.agr ha) (fun i hi => hmu i hi)) mM_0 rfl rfl rfl ⟨by decide, by decide, Nat.le_of_ble_eq_true rfl⟩ (fun w1 hw1 => ?_)
          obtain ⟨s2, hw1, hs2⟩ := hw1
          subst hw1
          refine kw_istore (pc := 49) dX6_byTrying_49 (by decide) rfl ?_
          refine kw_iload_n (pc := 51) dX6_byTrying_51 rfl ?_
          refine kw_iconst (v := -1) (pc := 52) dX6_byTrying_52 (by decide) ?_
          refine kw_icmp_eq (tgt := 62) (pc := 53) dX6_byTrying_53 (by decide) (fun h53 => ?_) (fun h53 => ?_)
          · refine kw_iload (pc := 62) dX6_byTrying_62 rfl ?_
            refine kw_goto (tgt := 68) (pc := 64) dX6_byTrying_64 (by decide) ?_
            refine kw_istore_n (pc := 68) dX6_byTrying_68 (by decide) rfl ?_
            refine kw_iinc (pc := 69) dX6_byTrying_69 (by decide) rfl rfl rfl ?_
            refine kw_goto (tgt := 35) (pc := 72) dX6_byTrying_72 (by decide) ?_
            exact kW.locs (K s2 ma1 (ha.tr hs2) (fun i hi => (hmu i hi).1) hma) ⟨rfl, rfl, kgE rfl (by show _ = upL L (cosN s mu k); have ec := cosN_agr H ha (fun i hi => (hmu i hi).2) (Nat.le_refl k); grind [upL]), kgE rfl (by rw [Int32.sub_eq_add_neg]; rfl), trivial⟩
          · refine kw_iload (pc := 56) dX6_byTrying_56 rfl ?_
            refine kw_iload_n (pc := 58) dX6_byTrying_58 rfl ?_
            refine kw_icmp_ge (tgt := 67) (pc := 59) dX6_byTrying_59 (by decide) (fun h59 => ?_) (fun h59 => ?_)
            · refine kw_iload_n (pc := 67) dX6_byTrying_67 rfl ?_
              refine kw_istore_n (pc := 68) dX6_byTrying_68 (by decide) rfl ?_
              refine kw_iinc (pc := 69) dX6_byTrying_69 (by decide) rfl rfl rfl ?_
              refine kw_goto (tgt := 35) (pc := 72) dX6_byTrying_72 (by decide) ?_
              exact kW.locs (K s2 ma1 (ha.tr hs2) (fun i hi => (hmu i hi).1) hma) ⟨rfl, rfl, kgE rfl (by show _ = upL L (cosN s mu k); have ec := cosN_agr H ha (fun i hi => (hmu i hi).2) (Nat.le_refl k); grind [upL]), kgE rfl (by rw [Int32.sub_eq_add_neg]; rfl), trivial⟩
            · refine kw_iload (pc := 62) dX6_byTrying_62 rfl ?_
              refine kw_goto (tgt := 68) (pc := 64) dX6_byTrying_64 (by decide) ?_
              refine kw_istore_n (pc := 68) dX6_byTrying_68 (by decide) rfl ?_
              refine kw_iinc (pc := 69) dX6_byTrying_69 (by decide) rfl rfl rfl ?_
              refine kw_goto (tgt := 35) (pc := 72) dX6_byTrying_72 (by decide) ?_
              exact kW.locs (K s2 ma1 (ha.tr hs2) (fun i hi => (hmu i hi).1) hma) ⟨rfl, rfl, kgE rfl (by show _ = upL L (cosN s mu k); have ec := cosN_agr H ha (fun i hi => (hmu i hi).2) (Nat.le_refl k); grind [upL]), kgE rfl (by rw [Int32.sub_eq_add_neg]; rfl), trivial⟩
    | succ d ihd =>
      intro k hkd mu s1 ma1 L ha hmu hma K
      have hkc : c - (d + 1) = k := by omega
      have inner : ∀ (r j : Nat), j + r = c → ∀ (s1 ma1 : Nat → Int32) (L1 : Int32), agr s s1 → (∀ i, i < k → ma1 i = nI (mu i)) → ma1 k = nI j → (∀ i, k < i → i < c → ma1 i = -1) → dsI (fun j L => if chB s mu k j = true then dsF s c d (updN mu k j) L else L) c r L1 = dsF s c (d + 1) mu L → kW (0, fun _ => 0) mX6_byTrying 6 (fun o w' n' => o = .inl (some (.int (dsF s c c (fun _ => 0) (-1)))) ∧ (fun w' => ∃ s' co' ma', w' = (mM w0 mo s' sv kp bf ty th co' ma' sp) ∧ agr s s') w' ∧ n' = n) 0 0 n (mM w0 mo s1 sv kp bf ty th co ma1 sp) 85 [(0, .ref mo), (1, .int (nI c)), (2, .int L1), (3, .int (nI k))] [] := by
        intro r
        induction r with
        | zero =>
          intro j hjr s1 ma1 L1 ha h1 h2 h3 hD
          have hjc : j = c := by omega
          refine kw_aload_n (pc := 85) dX6_byTrying_85 rfl ?_
          refine kw_getfield (pc := 86) kfw dX6_byTrying_86 fX6_24 mM_0 rfl ?_
          refine kw_iload_n (pc := 89) dX6_byTrying_89 rfl ?_
          refine kw_ialoadN (pc := 90) (i := k) dX6_byTrying_90 mM_5 rfl (by omega) (by decide) ?_
          refine kw_iload_n (pc := 91) dX6_byTrying_91 rfl ?_
          refine kw_icmp_ge (tgt := 122) (pc := 92) dX6_byTrying_92 (by decide) (fun h92 => ?_) (fun h92 => ?_)
          · have h92 := (kLeI (a := c) (b := j) (by omega) (by omega) rfl h2).mp h92
            refine kw_aload_n (pc := 122) dX6_byTrying_122 rfl ?_
            refine kw_getfield (pc := 123) kfw dX6_byTrying_123 fX6_24 mM_0 rfl ?_
            refine kw_iload_n (pc := 126) dX6_byTrying_126 rfl ?_
            refine kw_ialoadN (pc := 127) (i := k) dX6_byTrying_127 mM_5 rfl (by omega) (by decide) ?_
            refine kw_iload_n (pc := 128) dX6_byTrying_128 rfl ?_
            refine kw_icmp_ne (tgt := 145) (pc := 129) dX6_byTrying_129 (by decide) (fun h129 => ?_) (fun h129 => ?_)
            · have h129 := mt (kEqI (a := j) (b := c) (by omega) (by omega) h2 rfl).mpr h129
              exfalso; omega
            · have h129 := (kEqI (a := j) (b := c) (by omega) (by omega) h2 rfl).mp h129
              refine kw_aload_n (pc := 132) dX6_byTrying_132 rfl ?_
              refine kw_getfield (pc := 133) kfw dX6_byTrying_133 fX6_24 mM_0 rfl ?_
              refine kw_iload_n (pc := 136) dX6_byTrying_136 rfl ?_
              refine kw_iconst (v := -1) (pc := 137) dX6_byTrying_137 (by decide) ?_
              refine kw_iastoreN (pc := 138) (i := k) dX6_byTrying_138 mM_5 rfl (by omega) (by decide) (kW.eq mMs_5 rfl ?_)
              refine kw_iinc (pc := 139) dX6_byTrying_139 (by decide) rfl rfl rfl ?_
              refine kw_goto (tgt := 35) (pc := 142) dX6_byTrying_142 (by decide) ?_
              exact kW.locs (K s1 (kuf ma1 k (-1)) ha (fun i hi => by rw [kuf_ne (by omega)]; exact h1 i hi) (fun i hi hi2 => if e : i = k then (by rw [e, kuf_eq]) else (by rw [kuf_ne e]; exact h3 i (by omega) hi2))) ⟨rfl, rfl, kgE rfl hD, kgE rfl (by rw [Int32.sub_eq_add_neg]; rfl), trivial⟩
          · have h92 := mt (kLeI (a := c) (b := j) (by omega) (by omega) rfl h2).mpr h92
            exfalso; omega
        | succ r ihr =>
          intro j hjr s1 ma1 L1 ha h1 h2 h3 hD
          have hch : chH s1 ma1 k j ↔ chB s mu k j = true := (chH_agr H ha (by omega) (by omega)).trans (chH_chB (by omega) (by omega) (fun i hi => ⟨h1 i hi, by have := (hmu i hi).2; omega⟩))
          have hcj : c - (r + 1) = j := by omega
          have hD1 : dsI (fun j L => if chB s mu k j = true then dsF s c d (updN mu k j) L else L) c r (if chB s mu k j = true then dsF s c d (updN mu k j) L1 else L1) = dsF s c (d + 1) mu L := by rw [← hD]; show _ = dsI (fun j L => if chB s mu k j = true then dsF s c d (updN mu k j) L else L) c r ((fun j L => if chB s mu k j = true then dsF s c d (updN mu k j) L else L) (c - (r + 1)) L1); rw [hcj]
          refine kw_aload_n (pc := 85) dX6_byTrying_85 rfl ?_
          refine kw_getfield (pc := 86) kfw dX6_byTrying_86 fX6_24 mM_0 rfl ?_
          refine kw_iload_n (pc := 89) dX6_byTrying_89 rfl ?_
          refine kw_ialoadN (pc := 90) (i := k) dX6_byTrying_90 mM_5 rfl (by omega) (by decide) ?_
          refine kw_iload_n (pc := 91) dX6_byTrying_91 rfl ?_
          refine kw_icmp_ge (tgt := 122) (pc := 92) dX6_byTrying_92 (by decide) (fun h92 => ?_) (fun h92 => ?_)
          · have h92 := (kLeI (a := c) (b := j) (by omega) (by omega) rfl h2).mp h92
            exfalso; omega
          · have h92 := mt (kLeI (a := c) (b := j) (by omega) (by omega) rfl h2).mpr h92
            refine kw_aload_n (pc := 95) dX6_byTrying_95 rfl ?_
            refine kw_iload_n (pc := 96) dX6_byTrying_96 rfl ?_
            refine kw_aload_n (pc := 97) dX6_byTrying_97 rfl ?_
            refine kw_getfield (pc := 98) kfw dX6_byTrying_98 fX6_24 mM_0 rfl ?_
            refine kw_iload_n (pc := 101) dX6_byTrying_101 rfl ?_
            refine kw_ialoadN (pc := 102) (i := k) dX6_byTrying_102 mM_5 rfl (by omega) (by decide) ?_
            refine kw_callVw1 (pc := 103) dX6_byTrying_103 lX6_98 (c_canHaveE (k := k) (j := j) rfl h2 (H.agr ha) (by omega) (by omega)) mM_0 rfl rfl rfl ⟨by decide, by decide, Nat.le_of_ble_eq_true rfl⟩ (fun w1 hw1 => ?_)
            obtain ⟨s2, hw1, hs2⟩ := hw1
            subst hw1
            refine kw_if_ne (tgt := 122) (pc := 106) dX6_byTrying_106 (by decide) (fun h106 => ?_) (fun h106 => ?_)
            · refine kw_aload_n (pc := 122) dX6_byTrying_122 rfl ?_
              refine kw_getfield (pc := 123) kfw dX6_byTrying_123 fX6_24 mM_0 rfl ?_
              refine kw_iload_n (pc := 126) dX6_byTrying_126 rfl ?_
              refine kw_ialoadN (pc := 127) (i := k) dX6_byTrying_127 mM_5 rfl (by omega) (by decide) ?_
              refine kw_iload_n (pc := 128) dX6_byTrying_128 rfl ?_
              refine kw_icmp_ne (tgt := 145) (pc := 129) dX6_byTrying_129 (by decide) (fun h129 => ?_) (fun h129 => ?_)
              · have h129 := mt (kEqI (a := j) (b := c) (by omega) (by omega) h2 rfl).mpr h129
                refine kw_iinc (pc := 145) dX6_byTrying_145 (by decide) rfl rfl rfl ?_
                refine kw_goto (tgt := 35) (pc := 148) dX6_byTrying_148 (by decide) ?_
                have hcb : chB s mu k j = true := hch.mp (Decidable.not_not.mp (fun q => h106 (b2i_f q)))
                refine kW.locs (ihd (k + 1) (by omega) (updN mu k j) s2 ma1 L1 (ha.tr hs2) (fun i hi => ?_) (fun i hi hi2 => h3 i (by omega) hi2) (fun s3 ma3 ha3 g0 g3 => ?_)) ⟨rfl, rfl, rfl, kgE rfl (kA (a := k) (b := 1) rfl (rfl : (Int32.ofInt 1) = nI 1)), trivial⟩
                · unfold updN
                  by_cases e : i = k
                  · rw [if_pos e, e]; exact ⟨h2, by omega⟩
                  · rw [if_neg e]; exact ⟨h1 i (by omega), (hmu i (by omega)).2⟩
                · have g1 : ∀ i, i < k → ma3 i = nI (mu i) := fun i hi => by have := g0 i (by omega); unfold updN at this; rw [if_neg (by omega)] at this; exact this
                  have g2 : ma3 k = nI j := by have := g0 k (by omega); unfold updN at this; rw [if_pos rfl] at this; exact this
                  refine kW.locs (L' := [(0, .ref mo), (1, .int (nI c)), (2, .int (dsF s c d (updN mu k j) L1)), (3, .int (nI k))]) ?_ ⟨rfl, rfl, rfl, kgE rfl (kS (a := k + 1) (b := 1) rfl rfl (by omega)), trivial⟩
                  refine kw_iload_n (pc := 35) dX6_byTrying_35 rfl ?_
                  refine kw_if_lt (tgt := 151) (pc := 36) dX6_byTrying_36 (by decide) (fun h36 => ?_) (fun h36 => ?_)
                  · have h36 := (kLtI (a := k) (b := 0) (by omega) (by omega) rfl (rfl : (0 : Int32) = nI 0)).mp h36
                    exfalso; omega
                  · have h36 := mt (kLtI (a := k) (b := 0) (by omega) (by omega) rfl (rfl : (0 : Int32) = nI 0)).mpr h36
                    refine kw_iload_n (pc := 39) dX6_byTrying_39 rfl ?_
                    refine kw_iload_n (pc := 40) dX6_byTrying_40 rfl ?_
                    refine kw_icmp_ne (tgt := 75) (pc := 41) dX6_byTrying_41 (by decide) (fun h41 => ?_) (fun h41 => ?_)
                    · have h41 := mt (kEqI (a := k) (b := c) (by omega) (by omega) rfl rfl).mpr h41
                      refine kw_aload_n (pc := 75) dX6_byTrying_75 rfl ?_
                      refine kw_getfield (pc := 76) kfw dX6_byTrying_76 fX6_24 mM_0 rfl ?_
                      refine kw_iload_n (pc := 79) dX6_byTrying_79 rfl ?_
                      refine kw_dup2 (pc := 80) dX6_byTrying_80 rfl rfl ?_
                      refine kw_ialoadN (pc := 81) (i := k) dX6_byTrying_81 mM_5 rfl (by omega) (by decide) ?_
                      refine kw_iconst (v := 1) (pc := 82) dX6_byTrying_82 (by decide) ?_
                      refine kw_iadd (pc := 83) dX6_byTrying_83 ?_
                      refine kw_iastoreN (pc := 84) (i := k) dX6_byTrying_84 mM_5 rfl (by omega) (by decide) (kW.eq mMs_5 rfl ?_)
                      refine kW.eq (w' := (mM w0 mo s3 sv kp bf ty th co (kuf ma3 k (nI (j + 1))) sp)) (by rw [kA (a := j) (b := 1) g2 (rfl : (1 : Int32) = nI 1)]) rfl ?_
                      exact kW.locs (ihr (j + 1) (by omega) s3 (kuf ma3 k (nI (j + 1))) _ ha3 (fun i hi => by rw [kuf_ne (by omega)]; exact g1 i hi) (kuf_eq _ _ _) (fun i hi hi2 => by rw [kuf_ne (by omega)]; exact g3 i (by omega) hi2) (by rw [← hD1, if_pos hcb])) ⟨rfl, rfl, rfl, rfl, trivial⟩
                    · have h41 := (kEqI (a := k) (b := c) (by omega) (by omega) rfl rfl).mp h41
                      exfalso; omega
              · have h129 := (kEqI (a := j) (b := c) (by omega) (by omega) h2 rfl).mp h129
                exfalso; omega
            · refine kw_aload_n (pc := 109) dX6_byTrying_109 rfl ?_
              refine kw_getfield (pc := 110) kfw dX6_byTrying_110 fX6_24 mM_0 rfl ?_
              refine kw_iload_n (pc := 113) dX6_byTrying_113 rfl ?_
              refine kw_dup2 (pc := 114) dX6_byTrying_114 rfl rfl ?_
              refine kw_ialoadN (pc := 115) (i := k) dX6_byTrying_115 mM_5 rfl (by omega) (by decide) ?_
              refine kw_iconst (v := 1) (pc := 116) dX6_byTrying_116 (by decide) ?_
              refine kw_iadd (pc := 117) dX6_byTrying_117 ?_
              refine kw_iastoreN (pc := 118) (i := k) dX6_byTrying_118 mM_5 rfl (by omega) (by decide) (kW.eq mMs_5 rfl ?_)
              refine kw_goto (tgt := 85) (pc := 119) dX6_byTrying_119 (by decide) ?_
              refine kW.eq (w' := (mM w0 mo s2 sv kp bf ty th co (kuf ma1 k (nI (j + 1))) sp)) (by rw [kA (a := j) (b := 1) h2 (rfl : (1 : Int32) = nI 1)]) rfl ?_
              exact kW.locs (ihr (j + 1) (by omega) s2 (kuf ma1 k (nI (j + 1))) L1 (ha.tr hs2) (fun i hi => by rw [kuf_ne (by omega)]; exact h1 i hi) (kuf_eq _ _ _) (fun i hi hi2 => by rw [kuf_ne (by omega)]; exact h3 i hi hi2) (by rw [← hD1, if_neg (fun q => b2i_0.mp h106 (hch.mpr q))])) ⟨rfl, rfl, rfl, rfl, trivial⟩
      refine kw_iload_n (pc := 35) dX6_byTrying_35 rfl ?_
      refine kw_if_lt (tgt := 151) (pc := 36) dX6_byTrying_36 (by decide) (fun h36 => ?_) (fun h36 => ?_)
      · have h36 := (kLtI (a := k) (b := 0) (by omega) (by omega) rfl (rfl : (0 : Int32) = nI 0)).mp h36
        exfalso; omega
      · have h36 := mt (kLtI (a := k) (b := 0) (by omega) (by omega) rfl (rfl : (0 : Int32) = nI 0)).mpr h36
        refine kw_iload_n (pc := 39) dX6_byTrying_39 rfl ?_
        refine kw_iload_n (pc := 40) dX6_byTrying_40 rfl ?_
        refine kw_icmp_ne (tgt := 75) (pc := 41) dX6_byTrying_41 (by decide) (fun h41 => ?_) (fun h41 => ?_)
        · have h41 := mt (kEqI (a := k) (b := c) (by omega) (by omega) rfl rfl).mpr h41
          refine kw_aload_n (pc := 75) dX6_byTrying_75 rfl ?_
          refine kw_getfield (pc := 76) kfw dX6_byTrying_76 fX6_24 mM_0 rfl ?_
          refine kw_iload_n (pc := 79) dX6_byTrying_79 rfl ?_
          refine kw_dup2 (pc := 80) dX6_byTrying_80 rfl rfl ?_
          refine kw_ialoadN (pc := 81) (i := k) dX6_byTrying_81 mM_5 rfl (by omega) (by decide) ?_
          refine kw_iconst (v := 1) (pc := 82) dX6_byTrying_82 (by decide) ?_
          refine kw_iadd (pc := 83) dX6_byTrying_83 ?_
          refine kw_iastoreN (pc := 84) (i := k) dX6_byTrying_84 mM_5 rfl (by omega) (by decide) (kW.eq mMs_5 rfl ?_)
          refine kW.eq (w' := (mM w0 mo s1 sv kp bf ty th co (kuf ma1 k (nI 0)) sp)) (by rw [hma k (by omega) (by omega)]; rfl) rfl ?_
          exact kW.locs (inner c 0 (by omega) s1 (kuf ma1 k (nI 0)) L ha (fun i hi => by rw [kuf_ne (by omega)]; exact (hmu i hi).1) (kuf_eq _ _ _) (fun i hi hi2 => by rw [kuf_ne (by omega)]; exact hma i (by omega) hi2) (by rw [← hkc]; rfl)) ⟨rfl, rfl, rfl, rfl, trivial⟩
        · have h41 := (kEqI (a := k) (b := c) (by omega) (by omega) rfl rfl).mp h41
          exfalso; omega
  have fin0 : ∀ (s2 ma2 : Nat → Int32) (r : Int32), agr s s2 → r = dsF s c c (fun _ => 0) (-1) → kW (0, fun _ => 0) mX6_byTrying 6 (fun o w' n' => o = .inl (some (.int (dsF s c c (fun _ => 0) (-1)))) ∧ (fun w' => ∃ s' co' ma', w' = (mM w0 mo s' sv kp bf ty th co' ma' sp) ∧ agr s s') w' ∧ n' = n) 0 0 n (mM w0 mo s2 sv kp bf ty th co ma2 sp) 35 [(0, .ref mo), (1, .int (nI c)), (2, .int r), (3, .int (nI 0 - 1))] [] := by
    intro s2 ma2 r ha2 hr
    refine kw_iload_n (pc := 35) dX6_byTrying_35 rfl ?_
    refine kw_if_lt (tgt := 151) (pc := 36) dX6_byTrying_36 (by decide) (fun h36 => ?_) (fun h36 => ?_)
    · refine kw_iload_n (pc := 151) dX6_byTrying_151 rfl ?_
      exact kw_ireturn nlX6_byTrying (pc := 152) dX6_byTrying_152 rfl rfl ⟨kv_eq hr, ⟨s2, _, ma2, rfl, ha2⟩, rfl⟩
    · exact absurd (by decide) h36
  have loop : ∀ (m : Nat) (i : Nat), m = c - i → i ≤ c → kW (0, fun _ => 0) mX6_byTrying 6 (fun o w' n' => o = .inl (some (.int (dsF s c c (fun _ => 0) (-1)))) ∧ (fun w' => ∃ s' co' ma', w' = (mM w0 mo s' sv kp bf ty th co' ma' sp) ∧ agr s s') w' ∧ n' = n) 0 0 n (mM w0 mo s sv kp bf ty th co (noM ma i) sp) 15 [(0, .ref mo), (1, .int (nI c)), (2, .int (-1)), (3, .int 0), (4, .int (nI i))] [] := by
    intro m
    induction m using Nat.strongRecOn with
    | _ m ih =>
      intro i hm hi
      refine kw_iload (pc := 15) dX6_byTrying_15 rfl ?_
      refine kw_iload_n (pc := 17) dX6_byTrying_17 rfl ?_
      refine kw_icmp_ge (tgt := 35) (pc := 18) dX6_byTrying_18 (by decide) (fun h18 => ?_) (fun h18 => ?_)
      · have h18 := (kLeI (a := c) (b := i) (by omega) (by omega) rfl rfl).mp h18
        exact kW.locs (main c 0 (by omega) (fun _ => 0) s (noM ma i) (-1) agr.rf (fun q hq => absurd hq (by omega)) (fun q hq hq2 => by unfold noM; rw [if_pos (by omega)]) (fun s2 ma2 ha2 _ _ => fin0 s2 ma2 _ ha2 rfl)) ⟨rfl, rfl, rfl, kgE rfl rfl, trivial⟩
      · have h18 := mt (kLeI (a := c) (b := i) (by omega) (by omega) rfl rfl).mpr h18
        refine kw_aload_n (pc := 21) dX6_byTrying_21 rfl ?_
        refine kw_getfield (pc := 22) kfw dX6_byTrying_22 fX6_24 mM_0 rfl ?_
        refine kw_iload (pc := 25) dX6_byTrying_25 rfl ?_
        refine kw_iconst (v := -1) (pc := 27) dX6_byTrying_27 (by decide) ?_
        refine kw_iastoreN (pc := 28) (i := i) dX6_byTrying_28 mM_5 rfl (by omega) (by decide) (kW.eq mMs_5 rfl ?_)
        refine kw_iinc (pc := 29) dX6_byTrying_29 (by decide) rfl rfl rfl ?_
        refine kw_goto (tgt := 15) (pc := 32) dX6_byTrying_32 (by decide) ?_
        refine kW.eq (w' := (mM w0 mo s sv kp bf ty th co (noM ma (i + 1)) sp)) (by rw [noM_step]) rfl ?_
        exact kW.locs (ih (c - (i + 1)) (by omega) (i + 1) rfl (by omega)) ⟨rfl, rfl, rfl, rfl, kgE rfl (kA (a := i) (b := 1) rfl (rfl : (Int32.ofInt 1) = nI 1)), trivial⟩
  refine kw_aload_n (pc := 0) dX6_byTrying_0 rfl ?_
  refine kw_getfield (pc := 1) kfw dX6_byTrying_1 fX6_7 mM_0 rfl ?_
  refine kw_bipush (v := 20) (pc := 4) dX6_byTrying_4 (by decide) ?_
  refine kw_ialoadN (pc := 6) (i := 20) dX6_byTrying_6 mM_1 (rfl : (20 : Int32) = nI 20) (by omega) (by decide) ?_
  refine kw_istore_n (pc := 7) dX6_byTrying_7 (by decide) rfl ?_
  refine kw_iconst (v := -1) (pc := 8) dX6_byTrying_8 (by decide) ?_
  refine kw_istore_n (pc := 9) dX6_byTrying_9 (by decide) rfl ?_
  refine kw_iconst (v := 0) (pc := 10) dX6_byTrying_10 (by decide) ?_
  refine kw_istore_n (pc := 11) dX6_byTrying_11 (by decide) rfl ?_
  refine kw_iconst (v := 0) (pc := 12) dX6_byTrying_12 (by decide) ?_
  refine kw_istore (pc := 13) dX6_byTrying_13 (by decide) rfl ?_
  refine kW.eq (w' := (mM w0 mo s sv kp bf ty th co (noM ma 0) sp)) (by rw [noM_0]) rfl ?_
  exact kW.locs (loop (c - 0) 0 rfl (by omega)) ⟨rfl, kgE rfl H.2.1, rfl, rfl, rfl, trivial⟩
