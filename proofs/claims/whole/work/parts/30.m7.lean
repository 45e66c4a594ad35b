set_option maxRecDepth 100000 in
set_option maxHeartbeats 4000000 in
theorem c_bySets {w0 : kM} {mo : Nat} {s : Nat → Int32} {sv : Int32} {kp bf : Nat → Int32} {ty th : Int32} {co ma : Nat → Int32} {sp : Int32}  {c : Nat} (H : fineS s c) : kCtrW mX6_bySets 5 [.ref mo] (mM w0 mo s sv kp bf ty th co ma sp) (some (.int (setC (alS s) (bdS s) c))) (fun w' => ∃ s' co', w' = (mM w0 mo s' sv kp bf ty th co' ma sp) ∧ agr s s') := by
  refine kCtrW.of pl6 nlX6_bySets rfl (Nat.le_of_ble_eq_true rfl) (fun n => ?_)
  have hc7 := H.1
  have loopT : ∀ (m t z : Nat) (s1 T : Nat → Int32), m = 7 - t → 2 ^ t ≤ z → z < 128 → (∀ t', t' < 7 → 2 ^ t' ≤ z → Nat.log2 z = t' → kW (0, fun _ => 0) mX6_bySets 5 (fun o w' n' => o = .inl (some (.int (setC (alS s) (bdS s) c))) ∧ (fun w' => ∃ s' co', w' = (mM w0 mo s' sv kp bf ty th co' ma sp) ∧ agr s s') w' ∧ n' = n) 0 0 n (mM w0 mo s1 sv kp bf ty th T ma sp) 38 [(0, .ref mo), (1, .int (nI z)), (2, .int (nI t'))] []) → kW (0, fun _ => 0) mX6_bySets 5 (fun o w' n' => o = .inl (some (.int (setC (alS s) (bdS s) c))) ∧ (fun w' => ∃ s' co', w' = (mM w0 mo s' sv kp bf ty th co' ma sp) ∧ agr s s') w' ∧ n' = n) 0 0 n (mM w0 mo s1 sv kp bf ty th T ma sp) 24 [(0, .ref mo), (1, .int (nI z)), (2, .int (nI t))] [] := by
    intro m
    induction m using Nat.strongRecOn with
    | _ m ih =>
      intro t z s1 T hm h1 h2 K
      have ht7 : t < 7 := pow_lt7 (by omega)
      refine kw_iload_n (pc := 24) dX6_bySets_24 rfl ?_
      refine kw_iload_n (pc := 25) dX6_bySets_25 rfl ?_
      refine kw_iconst (v := 1) (pc := 26) dX6_bySets_26 (by decide) ?_
      refine kw_iadd (pc := 27) dX6_bySets_27 ?_
      refine kw_ishr (pc := 28) dX6_bySets_28 ?_
      refine kw_if_le (tgt := 38) (pc := 29) dX6_bySets_29 (by decide) (fun h29 => ?_) (fun h29 => ?_)
      · exact K t ht7 h1 (log_of z h2 t ht7 h1 ((shr1 z h2 t (by omega)).mp h29))
      · refine kw_iinc (pc := 32) dX6_bySets_32 (by decide) rfl rfl rfl ?_
        refine kw_goto (tgt := 24) (pc := 35) dX6_bySets_35 (by decide) ?_
        have h3 : 2 ^ (t + 1) ≤ z := Nat.not_lt.mp (mt (shr1 z h2 t (by omega)).mpr h29)
        have ht8 : t + 1 < 7 := pow_lt7 (by omega)
        exact kW.locs (ih (7 - (t + 1)) (by omega) (t + 1) z s1 T rfl h3 h2 K) ⟨rfl, rfl, kgE rfl (kA (a := t) (b := 1) rfl (rfl : (Int32.ofInt 1) = nI 1)), trivial⟩
  have loopO : ∀ (m o t z : Nat) (s1 T : Nat → Int32), m = t - o → o ≤ t → t < c → t < 7 → 2 ^ t ≤ z → z < 128 → agr s s1 → (∀ s2, agr s s2 → kW (0, fun _ => 0) mX6_bySets 5 (fun o w' n' => o = .inl (some (.int (setC (alS s) (bdS s) c))) ∧ (fun w' => ∃ s' co', w' = (mM w0 mo s' sv kp bf ty th co' ma sp) ∧ agr s s') w' ∧ n' = n) 0 0 n (mM w0 mo s2 sv kp bf ty th (kuf T z (inC (alS s) (bdS s) T z t t)) ma sp) 149 [(0, .ref mo), (1, .int (nI z))] []) → kW (0, fun _ => 0) mX6_bySets 5 (fun o w' n' => o = .inl (some (.int (setC (alS s) (bdS s) c))) ∧ (fun w' => ∃ s' co', w' = (mM w0 mo s' sv kp bf ty th co' ma sp) ∧ agr s s') w' ∧ n' = n) 0 0 n (mM w0 mo s1 sv kp bf ty th (kuf T z (inC (alS s) (bdS s) T z t o)) ma sp) 65 [(0, .ref mo), (1, .int (nI z)), (2, .int (nI t)), (3, .int (nI (z - 2 ^ t))), (4, .int (nI o))] [] := by
    intro m
    induction m using Nat.strongRecOn with
    | _ m ih =>
      intro o t z s1 T hm ho htc ht7 h1 h2 ha K
      have H1 := H.agr ha
      have hp := pow_le7 t (by omega)
      have hp2 := pow_le7 o (by omega)
      refine kw_iload (pc := 65) dX6_bySets_65 rfl ?_
      refine kw_iload_n (pc := 67) dX6_bySets_67 rfl ?_
      refine kw_icmp_ge (tgt := 149) (pc := 68) dX6_bySets_68 (by decide) (fun h68 => ?_) (fun h68 => ?_)
      · have h68 := (kLeI (a := t) (b := o) (by omega) (by omega) rfl rfl).mp h68
        refine kW.eq (w' := (mM w0 mo s1 sv kp bf ty th (kuf T z (inC (alS s) (bdS s) T z t t)) ma sp)) (by rw [show o = t by omega]) rfl ?_
        exact kW.locs (K s1 ha) ⟨rfl, rfl, trivial⟩
      · have h68 := mt (kLeI (a := t) (b := o) (by omega) (by omega) rfl rfl).mpr h68
        have hbit := bit1 (z - 2 ^ t) (by omega) o (by omega)
        refine kw_iload_n (pc := 71) dX6_bySets_71 rfl ?_
        refine kw_iload (pc := 72) dX6_bySets_72 rfl ?_
        refine kw_ishr (pc := 74) dX6_bySets_74 ?_
        refine kw_iconst (v := 1) (pc := 75) dX6_bySets_75 (by decide) ?_
        refine kw_iand (pc := 76) dX6_bySets_76 ?_
        refine kw_iconst (v := 1) (pc := 77) dX6_bySets_77 (by decide) ?_
        refine kw_icmp_ne (tgt := 91) (pc := 78) dX6_bySets_78 (by decide) (fun h78 => ?_) (fun h78 => ?_)
        · refine kw_iconst (v := -1) (pc := 91) dX6_bySets_91 (by decide) ?_
          refine kw_istore (pc := 92) dX6_bySets_92 (by decide) rfl ?_
          refine kw_iload (pc := 94) dX6_bySets_94 rfl ?_
          refine kw_iconst (v := -1) (pc := 96) dX6_bySets_96 (by decide) ?_
          refine kw_icmp_eq (tgt := 143) (pc := 97) dX6_bySets_97 (by decide) (fun h97 => ?_) (fun h97 => ?_)
          · refine kw_iinc (pc := 143) dX6_bySets_143 (by decide) rfl rfl rfl ?_
            refine kw_goto (tgt := 65) (pc := 146) dX6_bySets_146 (by decide) ?_
            refine kW.eq (w' := (mM w0 mo s1 sv kp bf ty th (kuf T z (inC (alS s) (bdS s) T z t (o + 1))) ma sp)) (congrArg (fun q => mM w0 mo s1 sv kp bf ty th q ma sp) (by rw [inC_neg (fun q => h78 (by rw [hbit, b2i_t q.1]))])) rfl ?_
            exact kW.locs (ih (t - (o + 1)) (by omega) (o + 1) t z s1 T rfl (by omega) htc ht7 h1 h2 ha K) ⟨rfl, rfl, rfl, rfl, kgE rfl (kA (a := o) (b := 1) rfl (rfl : (Int32.ofInt 1) = nI 1)), trivial⟩
          · exact absurd (by decide) h97
        · have hbt : (z - 2 ^ t).testBit o = true := by
            rw [hbit] at h78
            exact Decidable.byContradiction (fun q => by rw [b2i_f q] at h78; exact absurd h78 (by decide))
          have eT : kuf T z (inC (alS s) (bdS s) T z t o) (z - 2 ^ t - 2 ^ o) = T (z - 2 ^ t - 2 ^ o) := kuf_ne (by omega)
          refine kw_aload_n (pc := 81) dX6_bySets_81 rfl ?_
          refine kw_iload (pc := 82) dX6_bySets_82 rfl ?_
          refine kw_iload_n (pc := 84) dX6_bySets_84 rfl ?_
          refine kw_callVw1 (pc := 85) dX6_bySets_85 lX6_89 (c_bundled (k := o) (j := t) (by omega) (by omega) (H1.2.2.2 o (by omega) t htc (by omega))) mM_0 rfl rfl rfl ⟨by decide, by decide, Nat.le_of_ble_eq_true rfl⟩ (fun w1 hw1 => ?_)
          obtain ⟨s2, hw1, hs2⟩ := hw1
          subst hw1
          have e2 : bdF s1 (pa s1 (21 + 7 * o)) (pa s1 (21 + 7 * t)) = bdS s o t := bdS_agr H ha (by omega) htc (by omega)
          have hle := bit_le (z - 2 ^ t) (by omega) o (by omega) hbt
          refine kw_goto (tgt := 92) (pc := 88) dX6_bySets_88 (by decide) ?_
          refine kw_istore (pc := 92) dX6_bySets_92 (by decide) rfl ?_
          refine kw_iload (pc := 94) dX6_bySets_94 rfl ?_
          refine kw_iconst (v := -1) (pc := 96) dX6_bySets_96 (by decide) ?_
          refine kw_icmp_eq (tgt := 143) (pc := 97) dX6_bySets_97 (by decide) (fun h97 => ?_) (fun h97 => ?_)
          · refine kw_iinc (pc := 143) dX6_bySets_143 (by decide) rfl rfl rfl ?_
            refine kw_goto (tgt := 65) (pc := 146) dX6_bySets_146 (by decide) ?_
            refine kW.eq (w' := (mM w0 mo s2 sv kp bf ty th (kuf T z (inC (alS s) (bdS s) T z t (o + 1))) ma sp)) (congrArg (fun q => mM w0 mo s2 sv kp bf ty th q ma sp) (by rw [inC_neg (fun q => q.2.1 (by rw [← e2]; exact h97))])) rfl ?_
            exact kW.locs (ih (t - (o + 1)) (by omega) (o + 1) t z s2 T rfl (by omega) htc ht7 h1 h2 (ha.tr hs2) K) ⟨rfl, rfl, rfl, rfl, kgE rfl (kA (a := o) (b := 1) rfl (rfl : (Int32.ofInt 1) = nI 1)), trivial⟩
          · refine kw_aload_n (pc := 100) dX6_bySets_100 rfl ?_
            refine kw_getfield (pc := 101) kfw dX6_bySets_101 fX6_21 mM_0 rfl ?_
            refine kw_iload_n (pc := 104) dX6_bySets_104 rfl ?_
            refine kw_iconst (v := 1) (pc := 105) dX6_bySets_105 (by decide) ?_
            refine kw_iload (pc := 106) dX6_bySets_106 rfl ?_
            refine kw_ishl (pc := 108) dX6_bySets_108 ?_
            refine kw_isub (pc := 109) dX6_bySets_109 ?_
            refine kw_ialoadN (pc := 110) (i := ((z - 2 ^ t) - (2 ^ o))) dX6_bySets_110 mM_4 (kS (a := (z - 2 ^ t)) (b := (2 ^ o)) rfl (shl1p (t := o) rfl (by omega)) (by omega)) (by omega) (by decide) ?_
            refine kw_iload (pc := 111) dX6_bySets_111 rfl ?_
            refine kw_iadd (pc := 113) dX6_bySets_113 ?_
            refine kw_aload_n (pc := 114) dX6_bySets_114 rfl ?_
            refine kw_getfield (pc := 115) kfw dX6_bySets_115 fX6_21 mM_0 rfl ?_
            refine kw_iload_n (pc := 118) dX6_bySets_118 rfl ?_
            refine kw_ialoadN (pc := 119) (i := z) dX6_bySets_119 mM_4 rfl (by omega) (by decide) ?_
            refine kw_icmp_ge (tgt := 143) (pc := 120) dX6_bySets_120 (by decide) (fun h120 => ?_) (fun h120 => ?_)
            · refine kw_iinc (pc := 143) dX6_bySets_143 (by decide) rfl rfl rfl ?_
              refine kw_goto (tgt := 65) (pc := 146) dX6_bySets_146 (by decide) ?_
              refine kW.eq (w' := (mM w0 mo s2 sv kp bf ty th (kuf T z (inC (alS s) (bdS s) T z t (o + 1))) ma sp)) (congrArg (fun q => mM w0 mo s2 sv kp bf ty th q ma sp) (by rw [inC_neg (fun q => absurd q.2.2 (by rw [eT, kuf_eq, e2] at h120; exact Int32.not_lt.mpr h120))])) rfl ?_
              exact kW.locs (ih (t - (o + 1)) (by omega) (o + 1) t z s2 T rfl (by omega) htc ht7 h1 h2 (ha.tr hs2) K) ⟨rfl, rfl, rfl, rfl, kgE rfl (kA (a := o) (b := 1) rfl (rfl : (Int32.ofInt 1) = nI 1)), trivial⟩
            · refine kw_aload_n (pc := 123) dX6_bySets_123 rfl ?_
              refine kw_getfield (pc := 124) kfw dX6_bySets_124 fX6_21 mM_0 rfl ?_
              refine kw_iload_n (pc := 127) dX6_bySets_127 rfl ?_
              refine kw_aload_n (pc := 128) dX6_bySets_128 rfl ?_
              refine kw_getfield (pc := 129) kfw dX6_bySets_129 fX6_21 mM_0 rfl ?_
              refine kw_iload_n (pc := 132) dX6_bySets_132 rfl ?_
              refine kw_iconst (v := 1) (pc := 133) dX6_bySets_133 (by decide) ?_
              refine kw_iload (pc := 134) dX6_bySets_134 rfl ?_
              refine kw_ishl (pc := 136) dX6_bySets_136 ?_
              refine kw_isub (pc := 137) dX6_bySets_137 ?_
              refine kw_ialoadN (pc := 138) (i := ((z - 2 ^ t) - (2 ^ o))) dX6_bySets_138 mM_4 (kS (a := (z - 2 ^ t)) (b := (2 ^ o)) rfl (shl1p (t := o) rfl (by omega)) (by omega)) (by omega) (by decide) ?_
              refine kw_iload (pc := 139) dX6_bySets_139 rfl ?_
              refine kw_iadd (pc := 141) dX6_bySets_141 ?_
              refine kw_iastoreN (pc := 142) (i := z) dX6_bySets_142 mM_4 rfl (by omega) (by decide) (kW.eq mMs_4 rfl ?_)
              refine kw_iinc (pc := 143) dX6_bySets_143 (by decide) rfl rfl rfl ?_
              refine kw_goto (tgt := 65) (pc := 146) dX6_bySets_146 (by decide) ?_
              refine kW.eq (w' := (mM w0 mo s2 sv kp bf ty th (kuf T z (inC (alS s) (bdS s) T z t (o + 1))) ma sp)) (congrArg (fun q => mM w0 mo s2 sv kp bf ty th q ma sp) (by rw [kuf_kuf, eT, e2, inC_pos hbt (by rw [← e2]; exact h97) (by rw [eT, kuf_eq, e2] at h120; exact Int32.not_le.mp h120)])) rfl ?_
              exact kW.locs (ih (t - (o + 1)) (by omega) (o + 1) t z s2 T rfl (by omega) htc ht7 h1 h2 (ha.tr hs2) K) ⟨rfl, rfl, rfl, rfl, kgE rfl (kA (a := o) (b := 1) rfl (rfl : (Int32.ofInt 1) = nI 1)), trivial⟩
  have loop : ∀ (m z : Nat) (s1 : Nat → Int32), m = 2 ^ c - z → 1 ≤ z → z ≤ 2 ^ c → agr s s1 → kW (0, fun _ => 0) mX6_bySets 5 (fun o w' n' => o = .inl (some (.int (setC (alS s) (bdS s) c))) ∧ (fun w' => ∃ s' co', w' = (mM w0 mo s' sv kp bf ty th co' ma sp) ∧ agr s s') w' ∧ n' = n) 0 0 n (mM w0 mo s1 sv kp bf ty th (tbC (alS s) (bdS s) co (z - 1)) ma sp) 9 [(0, .ref mo), (1, .int (nI z))] [] := by
    intro m
    induction m using Nat.strongRecOn with
    | _ m ih =>
      intro z s1 hm hz1 hz2 ha
      have H1 := H.agr ha
      have hc1 := H1.2.1
      have hp := pow_le7 c (by omega)
      refine kw_iload_n (pc := 9) dX6_bySets_9 rfl ?_
      refine kw_iconst (v := 1) (pc := 10) dX6_bySets_10 (by decide) ?_
      refine kw_aload_n (pc := 11) dX6_bySets_11 rfl ?_
      refine kw_getfield (pc := 12) kfw dX6_bySets_12 fX6_7 mM_0 rfl ?_
      refine kw_bipush (v := 20) (pc := 15) dX6_bySets_15 (by decide) ?_
      refine kw_ialoadN (pc := 17) (i := 20) dX6_bySets_17 mM_1 (rfl : (20 : Int32) = nI 20) (by omega) (by decide) ?_
      refine kw_ishl (pc := 18) dX6_bySets_18 ?_
      refine kw_icmp_ge (tgt := 155) (pc := 19) dX6_bySets_19 (by decide) (fun h19 => ?_) (fun h19 => ?_)
      · have h19 := (kLeI (a := (2 ^ c)) (b := z) (by omega) (by omega) (shl1p (t := c) hc1 (by omega)) rfl).mp h19
        refine kw_aload_n (pc := 155) dX6_bySets_155 rfl ?_
        refine kw_getfield (pc := 156) kfw dX6_bySets_156 fX6_21 mM_0 rfl ?_
        refine kw_iconst (v := 1) (pc := 159) dX6_bySets_159 (by decide) ?_
        refine kw_aload_n (pc := 160) dX6_bySets_160 rfl ?_
        refine kw_getfield (pc := 161) kfw dX6_bySets_161 fX6_7 mM_0 rfl ?_
        refine kw_bipush (v := 20) (pc := 164) dX6_bySets_164 (by decide) ?_
        refine kw_ialoadN (pc := 166) (i := 20) dX6_bySets_166 mM_1 (rfl : (20 : Int32) = nI 20) (by omega) (by decide) ?_
        refine kw_ishl (pc := 167) dX6_bySets_167 ?_
        refine kw_iconst (v := 1) (pc := 168) dX6_bySets_168 (by decide) ?_
        refine kw_isub (pc := 169) dX6_bySets_169 ?_
        refine kw_ialoadN (pc := 170) (i := ((2 ^ c) - 1)) dX6_bySets_170 mM_4 (kS (a := (2 ^ c)) (b := 1) (shl1p (t := c) hc1 (by omega)) (rfl : (1 : Int32) = nI 1) (by omega)) (by omega) (by decide) ?_
        exact kw_ireturn nlX6_bySets (pc := 171) dX6_bySets_171 rfl rfl ⟨kv_eq (by rw [show z = 2 ^ c by omega]; exact tbC_congr _ _ (Nat.le_refl _)), ⟨s1, _, rfl, ha⟩, rfl⟩
      · have h19 := mt (kLeI (a := (2 ^ c)) (b := z) (by omega) (by omega) (shl1p (t := c) hc1 (by omega)) rfl).mpr h19
        refine kw_iconst (v := 0) (pc := 22) dX6_bySets_22 (by decide) ?_
        refine kw_istore_n (pc := 23) dX6_bySets_23 (by decide) rfl ?_
        have hzc : z < 2 ^ c := by omega
        have h128 : z < 128 := by omega
        refine kW.locs (loopT (7 - 0) 0 z s1 (tbC (alS s) (bdS s) co (z - 1)) rfl (by omega) h128 (fun t ht7 hlt hlg => ?_)) ⟨rfl, rfl, rfl, trivial⟩
        have e1 : pAl s1 (pa s1 (21 + 7 * t)) = alS s t := alS_agr H ha (pow_ltc hlt hzc)
        have hp1 := (pow_le7 t (by omega)).2
        refine kw_iload_n (pc := 38) dX6_bySets_38 rfl ?_
        refine kw_iconst (v := 1) (pc := 39) dX6_bySets_39 (by decide) ?_
        refine kw_iload_n (pc := 40) dX6_bySets_40 rfl ?_
        refine kw_ishl (pc := 41) dX6_bySets_41 ?_
        refine kw_isub (pc := 42) dX6_bySets_42 ?_
        refine kw_istore_n (pc := 43) dX6_bySets_43 (by decide) rfl ?_
        refine kw_aload_n (pc := 44) dX6_bySets_44 rfl ?_
        refine kw_getfield (pc := 45) kfw dX6_bySets_45 fX6_21 mM_0 rfl ?_
        refine kw_iload_n (pc := 48) dX6_bySets_48 rfl ?_
        refine kw_aload_n (pc := 49) dX6_bySets_49 rfl ?_
        refine kw_getfield (pc := 50) kfw dX6_bySets_50 fX6_21 mM_0 rfl ?_
        refine kw_iload_n (pc := 53) dX6_bySets_53 rfl ?_
        refine kw_ialoadN (pc := 54) (i := (z - (2 ^ t))) dX6_bySets_54 mM_4 (kS (a := z) (b := (2 ^ t)) rfl (shl1p (t := t) rfl (by omega)) (by omega)) (by omega) (by decide) ?_
        refine kw_aload_n (pc := 55) dX6_bySets_55 rfl ?_
        refine kw_iload_n (pc := 56) dX6_bySets_56 rfl ?_
        refine kw_callVr (pc := 57) dX6_bySets_57 lX6_86 (c_alone (k := t) (by omega) (H1.2.2.1 t (pow_ltc hlt hzc)).1) mM_0 rfl rfl rfl ⟨by decide, by decide, Nat.le_of_ble_eq_true rfl⟩ ?_
        refine kw_iadd (pc := 60) dX6_bySets_60 ?_
        refine kw_iastoreN (pc := 61) (i := z) dX6_bySets_61 mM_4 rfl (by omega) (by decide) (kW.eq mMs_4 rfl ?_)
        refine kw_iconst (v := 0) (pc := 62) dX6_bySets_62 (by decide) ?_
        refine kw_istore (pc := 63) dX6_bySets_63 (by decide) rfl ?_
        refine kW.eq (w' := (mM w0 mo s1 sv kp bf ty th (kuf (tbC (alS s) (bdS s) co (z - 1)) z (inC (alS s) (bdS s) (tbC (alS s) (bdS s) co (z - 1)) z t 0)) ma sp)) (congrArg (fun q => mM w0 mo s1 sv kp bf ty th q ma sp) (by rw [e1]; rfl)) rfl ?_
        refine kW.locs (loopO (t - 0) 0 t z s1 (tbC (alS s) (bdS s) co (z - 1)) rfl (by omega) (pow_ltc hlt hzc) ht7 hlt h128 ha (fun s2 ha2 => ?_)) ⟨rfl, rfl, rfl, kgE rfl (kS (a := z) (b := (2 ^ t)) rfl (shl1p (t := t) rfl (by omega)) (by omega)), rfl, trivial⟩
        refine kw_iinc (pc := 149) dX6_bySets_149 (by decide) rfl rfl rfl ?_
        refine kw_goto (tgt := 9) (pc := 152) dX6_bySets_152 (by decide) ?_
        refine kW.eq (w' := (mM w0 mo s2 sv kp bf ty th (tbC (alS s) (bdS s) co (z + 1 - 1)) ma sp)) (congrArg (fun q => mM w0 mo s2 sv kp bf ty th q ma sp) (tbC_step hz1 hlg)) rfl ?_
        exact kW.locs (ih (2 ^ c - (z + 1)) (by omega) (z + 1) s2 rfl (by omega) (by omega) ha2) ⟨rfl, kgE rfl (kA (a := z) (b := 1) rfl (rfl : (Int32.ofInt 1) = nI 1)), trivial⟩
  have hp := pow_le7 c (by omega)
  refine kw_aload_n (pc := 0) dX6_bySets_0 rfl ?_
  refine kw_getfield (pc := 1) kfw dX6_bySets_1 fX6_21 mM_0 rfl ?_
  refine kw_iconst (v := 0) (pc := 4) dX6_bySets_4 (by decide) ?_
  refine kw_iconst (v := 0) (pc := 5) dX6_bySets_5 (by decide) ?_
  refine kw_iastoreN (pc := 6) (i := 0) dX6_bySets_6 mM_4 (rfl : (0 : Int32) = nI 0) (by omega) (by decide) (kW.eq mMs_4 rfl ?_)
  refine kw_iconst (v := 1) (pc := 7) dX6_bySets_7 (by decide) ?_
  refine kw_istore_n (pc := 8) dX6_bySets_8 (by decide) rfl ?_
  exact kW.locs (loop (2 ^ c - 1) 1 s rfl (by omega) hp.2 agr.rf) ⟨rfl, kgE rfl rfl, trivial⟩
