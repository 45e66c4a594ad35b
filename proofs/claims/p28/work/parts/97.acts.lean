section AC
variable {m c q : Nat} {s : Nat → Int32}
set_option maxRecDepth 100000 in
set_option maxHeartbeats 40000000 in
theorem act_0 (G : okG m s c) (hm : m < 100000) (x y : Int32) (ek : lwV x 14 = 0) : opG mL_act 13 [.int x, .int y] m s q c := by
  have hl : ∀ w, kCtrR mL_low 0 [.int x, .int 14] w (.int 0) := fun w => by
    have t : kCtrR mL_low 0 [.int x, .int 14] w (.int (lwV x 14)) := hL_low (w := w) x 14 (by decide)
    rw [ek] at t
    exact t
  by_cases hb : lwV (x >>> ((11 : Int32) &&& 31)) 2 = 0
  · obtain ⟨v, s', q', c', mc, ms, hA, h1, h2, F⟩ := og_bring (q := q) G hm (1 + lwV y 40) (1 + lwV (y >>> ((4 : Int32) &&& 31)) 40) (1 + lwV (y >>> ((8 : Int32) &&& 31)) 40) (1 + lwV (x >>> ((6 : Int32) &&& 31)) 99) (lwV (y >>> ((12 : Int32) &&& 31)) 2)
    refine ⟨v, s', q', c', mc, ms, hA, h1, h2, fun w C => kCtrG.of plLw nlL_act rfl (Nat.le_of_ble_eq_true rfl) (fun n => ?_)⟩
    refine kw_iload_n (pc := 0) dL_act_0 rfl ?_
    refine kw_iconst (v := 4) (pc := 1) dL_act_1 (by decide) ?_
    refine kw_ishr (pc := 2) dL_act_2 ?_
    refine kw_bipush (v := 6) (pc := 3) dL_act_3 (by decide) ?_
    refine kw_callSr (pc := 5) dL_act_5 lL_73 (hL_low (x >>> ((4 : Int32) &&& 31)) 6 (by decide)) rfl rfl ⟨by decide, by decide, Nat.le_of_ble_eq_true rfl⟩ ?_
    refine kw_istore_n (pc := 8) dL_act_8 (by decide) rfl ?_
    refine kW.locs (L' := [(0, _), (1, _), (2, _), (3, _)]) ?_ ⟨rfl, rfl, rfl, rfl, trivial⟩
    refine kw_iload_n (pc := 9) dL_act_9 rfl ?_
    refine kw_bipush (v := 14) (pc := 10) dL_act_10 (by decide) ?_
    refine kw_callSr (pc := 12) dL_act_12 lL_73 (hl w) rfl rfl ⟨by decide, by decide, Nat.le_of_ble_eq_true rfl⟩ ?_
    refine kw_tableIn (off := 61) (tgt := 76) (pc := 15) dL_act_15 (by decide) (by decide) (by decide) (by decide) ?_
    refine kw_aload_n (pc := 76) dL_act_76 rfl ?_
    refine kw_iconst (v := 1) (pc := 77) dL_act_77 (by decide) ?_
    refine kw_iload_n (pc := 78) dL_act_78 rfl ?_
    refine kw_bipush (v := 40) (pc := 79) dL_act_79 (by decide) ?_
    refine kw_callSr (pc := 81) dL_act_81 lL_73 (hL_low y 40 (by decide)) rfl rfl ⟨by decide, by decide, Nat.le_of_ble_eq_true rfl⟩ ?_
    refine kw_iadd (pc := 84) dL_act_84 ?_
    refine kw_iconst (v := 1) (pc := 85) dL_act_85 (by decide) ?_
    refine kw_iload_n (pc := 86) dL_act_86 rfl ?_
    refine kw_iconst (v := 4) (pc := 87) dL_act_87 (by decide) ?_
    refine kw_ishr (pc := 88) dL_act_88 ?_
    refine kw_bipush (v := 40) (pc := 89) dL_act_89 (by decide) ?_
    refine kw_callSr (pc := 91) dL_act_91 lL_73 (hL_low (y >>> ((4 : Int32) &&& 31)) 40 (by decide)) rfl rfl ⟨by decide, by decide, Nat.le_of_ble_eq_true rfl⟩ ?_
    refine kw_iadd (pc := 94) dL_act_94 ?_
    refine kw_iconst (v := 1) (pc := 95) dL_act_95 (by decide) ?_
    refine kw_iload_n (pc := 96) dL_act_96 rfl ?_
    refine kw_bipush (v := 8) (pc := 97) dL_act_97 (by decide) ?_
    refine kw_ishr (pc := 99) dL_act_99 ?_
    refine kw_bipush (v := 40) (pc := 100) dL_act_100 (by decide) ?_
    refine kw_callSr (pc := 102) dL_act_102 lL_73 (hL_low (y >>> ((8 : Int32) &&& 31)) 40 (by decide)) rfl rfl ⟨by decide, by decide, Nat.le_of_ble_eq_true rfl⟩ ?_
    refine kw_iadd (pc := 105) dL_act_105 ?_
    refine kw_iconst (v := 1) (pc := 106) dL_act_106 (by decide) ?_
    refine kw_iload_n (pc := 107) dL_act_107 rfl ?_
    refine kw_bipush (v := 6) (pc := 108) dL_act_108 (by decide) ?_
    refine kw_ishr (pc := 110) dL_act_110 ?_
    refine kw_iload_n (pc := 111) dL_act_111 rfl ?_
    refine kw_bipush (v := 11) (pc := 112) dL_act_112 (by decide) ?_
    refine kw_ishr (pc := 114) dL_act_114 ?_
    refine kw_iconst (v := 2) (pc := 115) dL_act_115 (by decide) ?_
    refine kw_callSr (pc := 116) dL_act_116 lL_73 (hL_low (x >>> ((11 : Int32) &&& 31)) 2 (by decide)) rfl rfl ⟨by decide, by decide, Nat.le_of_ble_eq_true rfl⟩ ?_
    refine kw_if_ne (tgt := 127) (pc := 119) dL_act_119 (by decide) (fun h119 => ?_) (fun h119 => ?_)
    · exact absurd hb h119
    · refine kw_bipush (v := 99) (pc := 122) dL_act_122 (by decide) ?_
      refine kw_goto (tgt := 129) (pc := 124) dL_act_124 (by decide) ?_
      refine kw_callSr (pc := 129) dL_act_129 lL_73 (hL_low (x >>> ((6 : Int32) &&& 31)) 99 (by decide)) rfl rfl ⟨by decide, by decide, Nat.le_of_ble_eq_true rfl⟩ ?_
      refine kw_iadd (pc := 132) dL_act_132 ?_
      refine kw_iload_n (pc := 133) dL_act_133 rfl ?_
      refine kw_bipush (v := 12) (pc := 134) dL_act_134 (by decide) ?_
      refine kw_ishr (pc := 136) dL_act_136 ?_
      refine kw_iconst (v := 2) (pc := 137) dL_act_137 (by decide) ?_
      refine kw_callSr (pc := 138) dL_act_138 lL_73 (hL_low (y >>> ((12 : Int32) &&& 31)) 2 (by decide)) rfl rfl ⟨by decide, by decide, Nat.le_of_ble_eq_true rfl⟩ ?_
      refine kw_callSg (pc := 141) dL_act_141 lL_78 (F w C) rfl rfl ⟨by decide, by decide, Nat.le_of_ble_eq_true rfl, Nat.le_refl _, Nat.le_refl _⟩ (fun w1 n1 C1 => ?_)
      exact kw_ireturn nlL_act (pc := 144) dL_act_144 rfl rfl ⟨rfl, C1⟩
  · obtain ⟨v, s', q', c', mc, ms, hA, h1, h2, F⟩ := og_bring (q := q) G hm (1 + lwV y 40) (1 + lwV (y >>> ((4 : Int32) &&& 31)) 40) (1 + lwV (y >>> ((8 : Int32) &&& 31)) 40) (1 + lwV (x >>> ((6 : Int32) &&& 31)) 30) (lwV (y >>> ((12 : Int32) &&& 31)) 2)
    refine ⟨v, s', q', c', mc, ms, hA, h1, h2, fun w C => kCtrG.of plLw nlL_act rfl (Nat.le_of_ble_eq_true rfl) (fun n => ?_)⟩
    refine kw_iload_n (pc := 0) dL_act_0 rfl ?_
    refine kw_iconst (v := 4) (pc := 1) dL_act_1 (by decide) ?_
    refine kw_ishr (pc := 2) dL_act_2 ?_
    refine kw_bipush (v := 6) (pc := 3) dL_act_3 (by decide) ?_
    refine kw_callSr (pc := 5) dL_act_5 lL_73 (hL_low (x >>> ((4 : Int32) &&& 31)) 6 (by decide)) rfl rfl ⟨by decide, by decide, Nat.le_of_ble_eq_true rfl⟩ ?_
    refine kw_istore_n (pc := 8) dL_act_8 (by decide) rfl ?_
    refine kW.locs (L' := [(0, _), (1, _), (2, _), (3, _)]) ?_ ⟨rfl, rfl, rfl, rfl, trivial⟩
    refine kw_iload_n (pc := 9) dL_act_9 rfl ?_
    refine kw_bipush (v := 14) (pc := 10) dL_act_10 (by decide) ?_
    refine kw_callSr (pc := 12) dL_act_12 lL_73 (hl w) rfl rfl ⟨by decide, by decide, Nat.le_of_ble_eq_true rfl⟩ ?_
    refine kw_tableIn (off := 61) (tgt := 76) (pc := 15) dL_act_15 (by decide) (by decide) (by decide) (by decide) ?_
    refine kw_aload_n (pc := 76) dL_act_76 rfl ?_
    refine kw_iconst (v := 1) (pc := 77) dL_act_77 (by decide) ?_
    refine kw_iload_n (pc := 78) dL_act_78 rfl ?_
    refine kw_bipush (v := 40) (pc := 79) dL_act_79 (by decide) ?_
    refine kw_callSr (pc := 81) dL_act_81 lL_73 (hL_low y 40 (by decide)) rfl rfl ⟨by decide, by decide, Nat.le_of_ble_eq_true rfl⟩ ?_
    refine kw_iadd (pc := 84) dL_act_84 ?_
    refine kw_iconst (v := 1) (pc := 85) dL_act_85 (by decide) ?_
    refine kw_iload_n (pc := 86) dL_act_86 rfl ?_
    refine kw_iconst (v := 4) (pc := 87) dL_act_87 (by decide) ?_
    refine kw_ishr (pc := 88) dL_act_88 ?_
    refine kw_bipush (v := 40) (pc := 89) dL_act_89 (by decide) ?_
    refine kw_callSr (pc := 91) dL_act_91 lL_73 (hL_low (y >>> ((4 : Int32) &&& 31)) 40 (by decide)) rfl rfl ⟨by decide, by decide, Nat.le_of_ble_eq_true rfl⟩ ?_
    refine kw_iadd (pc := 94) dL_act_94 ?_
    refine kw_iconst (v := 1) (pc := 95) dL_act_95 (by decide) ?_
    refine kw_iload_n (pc := 96) dL_act_96 rfl ?_
    refine kw_bipush (v := 8) (pc := 97) dL_act_97 (by decide) ?_
    refine kw_ishr (pc := 99) dL_act_99 ?_
    refine kw_bipush (v := 40) (pc := 100) dL_act_100 (by decide) ?_
    refine kw_callSr (pc := 102) dL_act_102 lL_73 (hL_low (y >>> ((8 : Int32) &&& 31)) 40 (by decide)) rfl rfl ⟨by decide, by decide, Nat.le_of_ble_eq_true rfl⟩ ?_
    refine kw_iadd (pc := 105) dL_act_105 ?_
    refine kw_iconst (v := 1) (pc := 106) dL_act_106 (by decide) ?_
    refine kw_iload_n (pc := 107) dL_act_107 rfl ?_
    refine kw_bipush (v := 6) (pc := 108) dL_act_108 (by decide) ?_
    refine kw_ishr (pc := 110) dL_act_110 ?_
    refine kw_iload_n (pc := 111) dL_act_111 rfl ?_
    refine kw_bipush (v := 11) (pc := 112) dL_act_112 (by decide) ?_
    refine kw_ishr (pc := 114) dL_act_114 ?_
    refine kw_iconst (v := 2) (pc := 115) dL_act_115 (by decide) ?_
    refine kw_callSr (pc := 116) dL_act_116 lL_73 (hL_low (x >>> ((11 : Int32) &&& 31)) 2 (by decide)) rfl rfl ⟨by decide, by decide, Nat.le_of_ble_eq_true rfl⟩ ?_
    refine kw_if_ne (tgt := 127) (pc := 119) dL_act_119 (by decide) (fun h119 => ?_) (fun h119 => ?_)
    · refine kw_bipush (v := 30) (pc := 127) dL_act_127 (by decide) ?_
      refine kw_callSr (pc := 129) dL_act_129 lL_73 (hL_low (x >>> ((6 : Int32) &&& 31)) 30 (by decide)) rfl rfl ⟨by decide, by decide, Nat.le_of_ble_eq_true rfl⟩ ?_
      refine kw_iadd (pc := 132) dL_act_132 ?_
      refine kw_iload_n (pc := 133) dL_act_133 rfl ?_
      refine kw_bipush (v := 12) (pc := 134) dL_act_134 (by decide) ?_
      refine kw_ishr (pc := 136) dL_act_136 ?_
      refine kw_iconst (v := 2) (pc := 137) dL_act_137 (by decide) ?_
      refine kw_callSr (pc := 138) dL_act_138 lL_73 (hL_low (y >>> ((12 : Int32) &&& 31)) 2 (by decide)) rfl rfl ⟨by decide, by decide, Nat.le_of_ble_eq_true rfl⟩ ?_
      refine kw_callSg (pc := 141) dL_act_141 lL_78 (F w C) rfl rfl ⟨by decide, by decide, Nat.le_of_ble_eq_true rfl, Nat.le_refl _, Nat.le_refl _⟩ (fun w1 n1 C1 => ?_)
      exact kw_ireturn nlL_act (pc := 144) dL_act_144 rfl rfl ⟨rfl, C1⟩
    · exact absurd h119 hb
set_option maxRecDepth 100000 in
set_option maxHeartbeats 40000000 in
theorem act_1 (G : okG m s c) (hm : m < 100000) (x y : Int32) (ek : lwV x 14 = 1) : opG mL_act 13 [.int x, .int y] m s q c := by
  have hl : ∀ w, kCtrR mL_low 0 [.int x, .int 14] w (.int 1) := fun w => by
    have t : kCtrR mL_low 0 [.int x, .int 14] w (.int (lwV x 14)) := hL_low (w := w) x 14 (by decide)
    rw [ek] at t
    exact t
  by_cases hb : lwV (x >>> ((11 : Int32) &&& 31)) 2 = 0
  · obtain ⟨v, s', q', c', mc, ms, hA, h1, h2, F⟩ := og_bring (q := q) G hm (1 + lwV y 40) (1 + lwV (y >>> ((4 : Int32) &&& 31)) 40) (1 + lwV (y >>> ((8 : Int32) &&& 31)) 40) (1 + lwV (x >>> ((6 : Int32) &&& 31)) 99) (lwV (y >>> ((12 : Int32) &&& 31)) 2)
    refine ⟨v, s', q', c', mc, ms, hA, h1, h2, fun w C => kCtrG.of plLw nlL_act rfl (Nat.le_of_ble_eq_true rfl) (fun n => ?_)⟩
    refine kw_iload_n (pc := 0) dL_act_0 rfl ?_
    refine kw_iconst (v := 4) (pc := 1) dL_act_1 (by decide) ?_
    refine kw_ishr (pc := 2) dL_act_2 ?_
    refine kw_bipush (v := 6) (pc := 3) dL_act_3 (by decide) ?_
    refine kw_callSr (pc := 5) dL_act_5 lL_73 (hL_low (x >>> ((4 : Int32) &&& 31)) 6 (by decide)) rfl rfl ⟨by decide, by decide, Nat.le_of_ble_eq_true rfl⟩ ?_
    refine kw_istore_n (pc := 8) dL_act_8 (by decide) rfl ?_
    refine kW.locs (L' := [(0, _), (1, _), (2, _), (3, _)]) ?_ ⟨rfl, rfl, rfl, rfl, trivial⟩
    refine kw_iload_n (pc := 9) dL_act_9 rfl ?_
    refine kw_bipush (v := 14) (pc := 10) dL_act_10 (by decide) ?_
    refine kw_callSr (pc := 12) dL_act_12 lL_73 (hl w) rfl rfl ⟨by decide, by decide, Nat.le_of_ble_eq_true rfl⟩ ?_
    refine kw_tableIn (off := 61) (tgt := 76) (pc := 15) dL_act_15 (by decide) (by decide) (by decide) (by decide) ?_
    refine kw_aload_n (pc := 76) dL_act_76 rfl ?_
    refine kw_iconst (v := 1) (pc := 77) dL_act_77 (by decide) ?_
    refine kw_iload_n (pc := 78) dL_act_78 rfl ?_
    refine kw_bipush (v := 40) (pc := 79) dL_act_79 (by decide) ?_
    refine kw_callSr (pc := 81) dL_act_81 lL_73 (hL_low y 40 (by decide)) rfl rfl ⟨by decide, by decide, Nat.le_of_ble_eq_true rfl⟩ ?_
    refine kw_iadd (pc := 84) dL_act_84 ?_
    refine kw_iconst (v := 1) (pc := 85) dL_act_85 (by decide) ?_
    refine kw_iload_n (pc := 86) dL_act_86 rfl ?_
    refine kw_iconst (v := 4) (pc := 87) dL_act_87 (by decide) ?_
    refine kw_ishr (pc := 88) dL_act_88 ?_
    refine kw_bipush (v := 40) (pc := 89) dL_act_89 (by decide) ?_
    refine kw_callSr (pc := 91) dL_act_91 lL_73 (hL_low (y >>> ((4 : Int32) &&& 31)) 40 (by decide)) rfl rfl ⟨by decide, by decide, Nat.le_of_ble_eq_true rfl⟩ ?_
    refine kw_iadd (pc := 94) dL_act_94 ?_
    refine kw_iconst (v := 1) (pc := 95) dL_act_95 (by decide) ?_
    refine kw_iload_n (pc := 96) dL_act_96 rfl ?_
    refine kw_bipush (v := 8) (pc := 97) dL_act_97 (by decide) ?_
    refine kw_ishr (pc := 99) dL_act_99 ?_
    refine kw_bipush (v := 40) (pc := 100) dL_act_100 (by decide) ?_
    refine kw_callSr (pc := 102) dL_act_102 lL_73 (hL_low (y >>> ((8 : Int32) &&& 31)) 40 (by decide)) rfl rfl ⟨by decide, by decide, Nat.le_of_ble_eq_true rfl⟩ ?_
    refine kw_iadd (pc := 105) dL_act_105 ?_
    refine kw_iconst (v := 1) (pc := 106) dL_act_106 (by decide) ?_
    refine kw_iload_n (pc := 107) dL_act_107 rfl ?_
    refine kw_bipush (v := 6) (pc := 108) dL_act_108 (by decide) ?_
    refine kw_ishr (pc := 110) dL_act_110 ?_
    refine kw_iload_n (pc := 111) dL_act_111 rfl ?_
    refine kw_bipush (v := 11) (pc := 112) dL_act_112 (by decide) ?_
    refine kw_ishr (pc := 114) dL_act_114 ?_
    refine kw_iconst (v := 2) (pc := 115) dL_act_115 (by decide) ?_
    refine kw_callSr (pc := 116) dL_act_116 lL_73 (hL_low (x >>> ((11 : Int32) &&& 31)) 2 (by decide)) rfl rfl ⟨by decide, by decide, Nat.le_of_ble_eq_true rfl⟩ ?_
    refine kw_if_ne (tgt := 127) (pc := 119) dL_act_119 (by decide) (fun h119 => ?_) (fun h119 => ?_)
    · exact absurd hb h119
    · refine kw_bipush (v := 99) (pc := 122) dL_act_122 (by decide) ?_
      refine kw_goto (tgt := 129) (pc := 124) dL_act_124 (by decide) ?_
      refine kw_callSr (pc := 129) dL_act_129 lL_73 (hL_low (x >>> ((6 : Int32) &&& 31)) 99 (by decide)) rfl rfl ⟨by decide, by decide, Nat.le_of_ble_eq_true rfl⟩ ?_
      refine kw_iadd (pc := 132) dL_act_132 ?_
      refine kw_iload_n (pc := 133) dL_act_133 rfl ?_
      refine kw_bipush (v := 12) (pc := 134) dL_act_134 (by decide) ?_
      refine kw_ishr (pc := 136) dL_act_136 ?_
      refine kw_iconst (v := 2) (pc := 137) dL_act_137 (by decide) ?_
      refine kw_callSr (pc := 138) dL_act_138 lL_73 (hL_low (y >>> ((12 : Int32) &&& 31)) 2 (by decide)) rfl rfl ⟨by decide, by decide, Nat.le_of_ble_eq_true rfl⟩ ?_
      refine kw_callSg (pc := 141) dL_act_141 lL_78 (F w C) rfl rfl ⟨by decide, by decide, Nat.le_of_ble_eq_true rfl, Nat.le_refl _, Nat.le_refl _⟩ (fun w1 n1 C1 => ?_)
      exact kw_ireturn nlL_act (pc := 144) dL_act_144 rfl rfl ⟨rfl, C1⟩
  · obtain ⟨v, s', q', c', mc, ms, hA, h1, h2, F⟩ := og_bring (q := q) G hm (1 + lwV y 40) (1 + lwV (y >>> ((4 : Int32) &&& 31)) 40) (1 + lwV (y >>> ((8 : Int32) &&& 31)) 40) (1 + lwV (x >>> ((6 : Int32) &&& 31)) 30) (lwV (y >>> ((12 : Int32) &&& 31)) 2)
    refine ⟨v, s', q', c', mc, ms, hA, h1, h2, fun w C => kCtrG.of plLw nlL_act rfl (Nat.le_of_ble_eq_true rfl) (fun n => ?_)⟩
    refine kw_iload_n (pc := 0) dL_act_0 rfl ?_
    refine kw_iconst (v := 4) (pc := 1) dL_act_1 (by decide) ?_
    refine kw_ishr (pc := 2) dL_act_2 ?_
    refine kw_bipush (v := 6) (pc := 3) dL_act_3 (by decide) ?_
    refine kw_callSr (pc := 5) dL_act_5 lL_73 (hL_low (x >>> ((4 : Int32) &&& 31)) 6 (by decide)) rfl rfl ⟨by decide, by decide, Nat.le_of_ble_eq_true rfl⟩ ?_
    refine kw_istore_n (pc := 8) dL_act_8 (by decide) rfl ?_
    refine kW.locs (L' := [(0, _), (1, _), (2, _), (3, _)]) ?_ ⟨rfl, rfl, rfl, rfl, trivial⟩
    refine kw_iload_n (pc := 9) dL_act_9 rfl ?_
    refine kw_bipush (v := 14) (pc := 10) dL_act_10 (by decide) ?_
    refine kw_callSr (pc := 12) dL_act_12 lL_73 (hl w) rfl rfl ⟨by decide, by decide, Nat.le_of_ble_eq_true rfl⟩ ?_
    refine kw_tableIn (off := 61) (tgt := 76) (pc := 15) dL_act_15 (by decide) (by decide) (by decide) (by decide) ?_
    refine kw_aload_n (pc := 76) dL_act_76 rfl ?_
    refine kw_iconst (v := 1) (pc := 77) dL_act_77 (by decide) ?_
    refine kw_iload_n (pc := 78) dL_act_78 rfl ?_
    refine kw_bipush (v := 40) (pc := 79) dL_act_79 (by decide) ?_
    refine kw_callSr (pc := 81) dL_act_81 lL_73 (hL_low y 40 (by decide)) rfl rfl ⟨by decide, by decide, Nat.le_of_ble_eq_true rfl⟩ ?_
    refine kw_iadd (pc := 84) dL_act_84 ?_
    refine kw_iconst (v := 1) (pc := 85) dL_act_85 (by decide) ?_
    refine kw_iload_n (pc := 86) dL_act_86 rfl ?_
    refine kw_iconst (v := 4) (pc := 87) dL_act_87 (by decide) ?_
    refine kw_ishr (pc := 88) dL_act_88 ?_
    refine kw_bipush (v := 40) (pc := 89) dL_act_89 (by decide) ?_
    refine kw_callSr (pc := 91) dL_act_91 lL_73 (hL_low (y >>> ((4 : Int32) &&& 31)) 40 (by decide)) rfl rfl ⟨by decide, by decide, Nat.le_of_ble_eq_true rfl⟩ ?_
    refine kw_iadd (pc := 94) dL_act_94 ?_
    refine kw_iconst (v := 1) (pc := 95) dL_act_95 (by decide) ?_
    refine kw_iload_n (pc := 96) dL_act_96 rfl ?_
    refine kw_bipush (v := 8) (pc := 97) dL_act_97 (by decide) ?_
    refine kw_ishr (pc := 99) dL_act_99 ?_
    refine kw_bipush (v := 40) (pc := 100) dL_act_100 (by decide) ?_
    refine kw_callSr (pc := 102) dL_act_102 lL_73 (hL_low (y >>> ((8 : Int32) &&& 31)) 40 (by decide)) rfl rfl ⟨by decide, by decide, Nat.le_of_ble_eq_true rfl⟩ ?_
    refine kw_iadd (pc := 105) dL_act_105 ?_
    refine kw_iconst (v := 1) (pc := 106) dL_act_106 (by decide) ?_
    refine kw_iload_n (pc := 107) dL_act_107 rfl ?_
    refine kw_bipush (v := 6) (pc := 108) dL_act_108 (by decide) ?_
    refine kw_ishr (pc := 110) dL_act_110 ?_
    refine kw_iload_n (pc := 111) dL_act_111 rfl ?_
    refine kw_bipush (v := 11) (pc := 112) dL_act_112 (by decide) ?_
    refine kw_ishr (pc := 114) dL_act_114 ?_
    refine kw_iconst (v := 2) (pc := 115) dL_act_115 (by decide) ?_
    refine kw_callSr (pc := 116) dL_act_116 lL_73 (hL_low (x >>> ((11 : Int32) &&& 31)) 2 (by decide)) rfl rfl ⟨by decide, by decide, Nat.le_of_ble_eq_true rfl⟩ ?_
    refine kw_if_ne (tgt := 127) (pc := 119) dL_act_119 (by decide) (fun h119 => ?_) (fun h119 => ?_)
    · refine kw_bipush (v := 30) (pc := 127) dL_act_127 (by decide) ?_
      refine kw_callSr (pc := 129) dL_act_129 lL_73 (hL_low (x >>> ((6 : Int32) &&& 31)) 30 (by decide)) rfl rfl ⟨by decide, by decide, Nat.le_of_ble_eq_true rfl⟩ ?_
      refine kw_iadd (pc := 132) dL_act_132 ?_
      refine kw_iload_n (pc := 133) dL_act_133 rfl ?_
      refine kw_bipush (v := 12) (pc := 134) dL_act_134 (by decide) ?_
      refine kw_ishr (pc := 136) dL_act_136 ?_
      refine kw_iconst (v := 2) (pc := 137) dL_act_137 (by decide) ?_
      refine kw_callSr (pc := 138) dL_act_138 lL_73 (hL_low (y >>> ((12 : Int32) &&& 31)) 2 (by decide)) rfl rfl ⟨by decide, by decide, Nat.le_of_ble_eq_true rfl⟩ ?_
      refine kw_callSg (pc := 141) dL_act_141 lL_78 (F w C) rfl rfl ⟨by decide, by decide, Nat.le_of_ble_eq_true rfl, Nat.le_refl _, Nat.le_refl _⟩ (fun w1 n1 C1 => ?_)
      exact kw_ireturn nlL_act (pc := 144) dL_act_144 rfl rfl ⟨rfl, C1⟩
    · exact absurd h119 hb
set_option maxRecDepth 100000 in
set_option maxHeartbeats 40000000 in
theorem act_2 (G : okG m s c) (hm : m < 100000) (x y : Int32) (ek : lwV x 14 = 2) : opG mL_act 13 [.int x, .int y] m s q c := by
  have hl : ∀ w, kCtrR mL_low 0 [.int x, .int 14] w (.int 2) := fun w => by
    have t : kCtrR mL_low 0 [.int x, .int 14] w (.int (lwV x 14)) := hL_low (w := w) x 14 (by decide)
    rw [ek] at t
    exact t
  by_cases hb : lwV (x >>> ((11 : Int32) &&& 31)) 2 = 0
  · obtain ⟨v, s', q', c', mc, ms, hA, h1, h2, F⟩ := og_bring (q := q) G hm (1 + lwV y 40) (1 + lwV (y >>> ((4 : Int32) &&& 31)) 40) (1 + lwV (y >>> ((8 : Int32) &&& 31)) 40) (1 + lwV (x >>> ((6 : Int32) &&& 31)) 99) (lwV (y >>> ((12 : Int32) &&& 31)) 2)
    refine ⟨v, s', q', c', mc, ms, hA, h1, h2, fun w C => kCtrG.of plLw nlL_act rfl (Nat.le_of_ble_eq_true rfl) (fun n => ?_)⟩
    refine kw_iload_n (pc := 0) dL_act_0 rfl ?_
    refine kw_iconst (v := 4) (pc := 1) dL_act_1 (by decide) ?_
    refine kw_ishr (pc := 2) dL_act_2 ?_
    refine kw_bipush (v := 6) (pc := 3) dL_act_3 (by decide) ?_
    refine kw_callSr (pc := 5) dL_act_5 lL_73 (hL_low (x >>> ((4 : Int32) &&& 31)) 6 (by decide)) rfl rfl ⟨by decide, by decide, Nat.le_of_ble_eq_true rfl⟩ ?_
    refine kw_istore_n (pc := 8) dL_act_8 (by decide) rfl ?_
    refine kW.locs (L' := [(0, _), (1, _), (2, _), (3, _)]) ?_ ⟨rfl, rfl, rfl, rfl, trivial⟩
    refine kw_iload_n (pc := 9) dL_act_9 rfl ?_
    refine kw_bipush (v := 14) (pc := 10) dL_act_10 (by decide) ?_
    refine kw_callSr (pc := 12) dL_act_12 lL_73 (hl w) rfl rfl ⟨by decide, by decide, Nat.le_of_ble_eq_true rfl⟩ ?_
    refine kw_tableIn (off := 61) (tgt := 76) (pc := 15) dL_act_15 (by decide) (by decide) (by decide) (by decide) ?_
    refine kw_aload_n (pc := 76) dL_act_76 rfl ?_
    refine kw_iconst (v := 1) (pc := 77) dL_act_77 (by decide) ?_
    refine kw_iload_n (pc := 78) dL_act_78 rfl ?_
    refine kw_bipush (v := 40) (pc := 79) dL_act_79 (by decide) ?_
    refine kw_callSr (pc := 81) dL_act_81 lL_73 (hL_low y 40 (by decide)) rfl rfl ⟨by decide, by decide, Nat.le_of_ble_eq_true rfl⟩ ?_
    refine kw_iadd (pc := 84) dL_act_84 ?_
    refine kw_iconst (v := 1) (pc := 85) dL_act_85 (by decide) ?_
    refine kw_iload_n (pc := 86) dL_act_86 rfl ?_
    refine kw_iconst (v := 4) (pc := 87) dL_act_87 (by decide) ?_
    refine kw_ishr (pc := 88) dL_act_88 ?_
    refine kw_bipush (v := 40) (pc := 89) dL_act_89 (by decide) ?_
    refine kw_callSr (pc := 91) dL_act_91 lL_73 (hL_low (y >>> ((4 : Int32) &&& 31)) 40 (by decide)) rfl rfl ⟨by decide, by decide, Nat.le_of_ble_eq_true rfl⟩ ?_
    refine kw_iadd (pc := 94) dL_act_94 ?_
    refine kw_iconst (v := 1) (pc := 95) dL_act_95 (by decide) ?_
    refine kw_iload_n (pc := 96) dL_act_96 rfl ?_
    refine kw_bipush (v := 8) (pc := 97) dL_act_97 (by decide) ?_
    refine kw_ishr (pc := 99) dL_act_99 ?_
    refine kw_bipush (v := 40) (pc := 100) dL_act_100 (by decide) ?_
    refine kw_callSr (pc := 102) dL_act_102 lL_73 (hL_low (y >>> ((8 : Int32) &&& 31)) 40 (by decide)) rfl rfl ⟨by decide, by decide, Nat.le_of_ble_eq_true rfl⟩ ?_
    refine kw_iadd (pc := 105) dL_act_105 ?_
    refine kw_iconst (v := 1) (pc := 106) dL_act_106 (by decide) ?_
    refine kw_iload_n (pc := 107) dL_act_107 rfl ?_
    refine kw_bipush (v := 6) (pc := 108) dL_act_108 (by decide) ?_
    refine kw_ishr (pc := 110) dL_act_110 ?_
    refine kw_iload_n (pc := 111) dL_act_111 rfl ?_
    refine kw_bipush (v := 11) (pc := 112) dL_act_112 (by decide) ?_
    refine kw_ishr (pc := 114) dL_act_114 ?_
    refine kw_iconst (v := 2) (pc := 115) dL_act_115 (by decide) ?_
    refine kw_callSr (pc := 116) dL_act_116 lL_73 (hL_low (x >>> ((11 : Int32) &&& 31)) 2 (by decide)) rfl rfl ⟨by decide, by decide, Nat.le_of_ble_eq_true rfl⟩ ?_
    refine kw_if_ne (tgt := 127) (pc := 119) dL_act_119 (by decide) (fun h119 => ?_) (fun h119 => ?_)
    · exact absurd hb h119
    · refine kw_bipush (v := 99) (pc := 122) dL_act_122 (by decide) ?_
      refine kw_goto (tgt := 129) (pc := 124) dL_act_124 (by decide) ?_
      refine kw_callSr (pc := 129) dL_act_129 lL_73 (hL_low (x >>> ((6 : Int32) &&& 31)) 99 (by decide)) rfl rfl ⟨by decide, by decide, Nat.le_of_ble_eq_true rfl⟩ ?_
      refine kw_iadd (pc := 132) dL_act_132 ?_
      refine kw_iload_n (pc := 133) dL_act_133 rfl ?_
      refine kw_bipush (v := 12) (pc := 134) dL_act_134 (by decide) ?_
      refine kw_ishr (pc := 136) dL_act_136 ?_
      refine kw_iconst (v := 2) (pc := 137) dL_act_137 (by decide) ?_
      refine kw_callSr (pc := 138) dL_act_138 lL_73 (hL_low (y >>> ((12 : Int32) &&& 31)) 2 (by decide)) rfl rfl ⟨by decide, by decide, Nat.le_of_ble_eq_true rfl⟩ ?_
      refine kw_callSg (pc := 141) dL_act_141 lL_78 (F w C) rfl rfl ⟨by decide, by decide, Nat.le_of_ble_eq_true rfl, Nat.le_refl _, Nat.le_refl _⟩ (fun w1 n1 C1 => ?_)
      exact kw_ireturn nlL_act (pc := 144) dL_act_144 rfl rfl ⟨rfl, C1⟩
  · obtain ⟨v, s', q', c', mc, ms, hA, h1, h2, F⟩ := og_bring (q := q) G hm (1 + lwV y 40) (1 + lwV (y >>> ((4 : Int32) &&& 31)) 40) (1 + lwV (y >>> ((8 : Int32) &&& 31)) 40) (1 + lwV (x >>> ((6 : Int32) &&& 31)) 30) (lwV (y >>> ((12 : Int32) &&& 31)) 2)
    refine ⟨v, s', q', c', mc, ms, hA, h1, h2, fun w C => kCtrG.of plLw nlL_act rfl (Nat.le_of_ble_eq_true rfl) (fun n => ?_)⟩
    refine kw_iload_n (pc := 0) dL_act_0 rfl ?_
    refine kw_iconst (v := 4) (pc := 1) dL_act_1 (by decide) ?_
    refine kw_ishr (pc := 2) dL_act_2 ?_
    refine kw_bipush (v := 6) (pc := 3) dL_act_3 (by decide) ?_
    refine kw_callSr (pc := 5) dL_act_5 lL_73 (hL_low (x >>> ((4 : Int32) &&& 31)) 6 (by decide)) rfl rfl ⟨by decide, by decide, Nat.le_of_ble_eq_true rfl⟩ ?_
    refine kw_istore_n (pc := 8) dL_act_8 (by decide) rfl ?_
    refine kW.locs (L' := [(0, _), (1, _), (2, _), (3, _)]) ?_ ⟨rfl, rfl, rfl, rfl, trivial⟩
    refine kw_iload_n (pc := 9) dL_act_9 rfl ?_
    refine kw_bipush (v := 14) (pc := 10) dL_act_10 (by decide) ?_
    refine kw_callSr (pc := 12) dL_act_12 lL_73 (hl w) rfl rfl ⟨by decide, by decide, Nat.le_of_ble_eq_true rfl⟩ ?_
    refine kw_tableIn (off := 61) (tgt := 76) (pc := 15) dL_act_15 (by decide) (by decide) (by decide) (by decide) ?_
    refine kw_aload_n (pc := 76) dL_act_76 rfl ?_
    refine kw_iconst (v := 1) (pc := 77) dL_act_77 (by decide) ?_
    refine kw_iload_n (pc := 78) dL_act_78 rfl ?_
    refine kw_bipush (v := 40) (pc := 79) dL_act_79 (by decide) ?_
    refine kw_callSr (pc := 81) dL_act_81 lL_73 (hL_low y 40 (by decide)) rfl rfl ⟨by decide, by decide, Nat.le_of_ble_eq_true rfl⟩ ?_
    refine kw_iadd (pc := 84) dL_act_84 ?_
    refine kw_iconst (v := 1) (pc := 85) dL_act_85 (by decide) ?_
    refine kw_iload_n (pc := 86) dL_act_86 rfl ?_
    refine kw_iconst (v := 4) (pc := 87) dL_act_87 (by decide) ?_
    refine kw_ishr (pc := 88) dL_act_88 ?_
    refine kw_bipush (v := 40) (pc := 89) dL_act_89 (by decide) ?_
    refine kw_callSr (pc := 91) dL_act_91 lL_73 (hL_low (y >>> ((4 : Int32) &&& 31)) 40 (by decide)) rfl rfl ⟨by decide, by decide, Nat.le_of_ble_eq_true rfl⟩ ?_
    refine kw_iadd (pc := 94) dL_act_94 ?_
    refine kw_iconst (v := 1) (pc := 95) dL_act_95 (by decide) ?_
    refine kw_iload_n (pc := 96) dL_act_96 rfl ?_
    refine kw_bipush (v := 8) (pc := 97) dL_act_97 (by decide) ?_
    refine kw_ishr (pc := 99) dL_act_99 ?_
    refine kw_bipush (v := 40) (pc := 100) dL_act_100 (by decide) ?_
    refine kw_callSr (pc := 102) dL_act_102 lL_73 (hL_low (y >>> ((8 : Int32) &&& 31)) 40 (by decide)) rfl rfl ⟨by decide, by decide, Nat.le_of_ble_eq_true rfl⟩ ?_
    refine kw_iadd (pc := 105) dL_act_105 ?_
    refine kw_iconst (v := 1) (pc := 106) dL_act_106 (by decide) ?_
    refine kw_iload_n (pc := 107) dL_act_107 rfl ?_
    refine kw_bipush (v := 6) (pc := 108) dL_act_108 (by decide) ?_
    refine kw_ishr (pc := 110) dL_act_110 ?_
    refine kw_iload_n (pc := 111) dL_act_111 rfl ?_
    refine kw_bipush (v := 11) (pc := 112) dL_act_112 (by decide) ?_
    refine kw_ishr (pc := 114) dL_act_114 ?_
    refine kw_iconst (v := 2) (pc := 115) dL_act_115 (by decide) ?_
    refine kw_callSr (pc := 116) dL_act_116 lL_73 (hL_low (x >>> ((11 : Int32) &&& 31)) 2 (by decide)) rfl rfl ⟨by decide, by decide, Nat.le_of_ble_eq_true rfl⟩ ?_
    refine kw_if_ne (tgt := 127) (pc := 119) dL_act_119 (by decide) (fun h119 => ?_) (fun h119 => ?_)
    · refine kw_bipush (v := 30) (pc := 127) dL_act_127 (by decide) ?_
      refine kw_callSr (pc := 129) dL_act_129 lL_73 (hL_low (x >>> ((6 : Int32) &&& 31)) 30 (by decide)) rfl rfl ⟨by decide, by decide, Nat.le_of_ble_eq_true rfl⟩ ?_
      refine kw_iadd (pc := 132) dL_act_132 ?_
      refine kw_iload_n (pc := 133) dL_act_133 rfl ?_
      refine kw_bipush (v := 12) (pc := 134) dL_act_134 (by decide) ?_
      refine kw_ishr (pc := 136) dL_act_136 ?_
      refine kw_iconst (v := 2) (pc := 137) dL_act_137 (by decide) ?_
      refine kw_callSr (pc := 138) dL_act_138 lL_73 (hL_low (y >>> ((12 : Int32) &&& 31)) 2 (by decide)) rfl rfl ⟨by decide, by decide, Nat.le_of_ble_eq_true rfl⟩ ?_
      refine kw_callSg (pc := 141) dL_act_141 lL_78 (F w C) rfl rfl ⟨by decide, by decide, Nat.le_of_ble_eq_true rfl, Nat.le_refl _, Nat.le_refl _⟩ (fun w1 n1 C1 => ?_)
      exact kw_ireturn nlL_act (pc := 144) dL_act_144 rfl rfl ⟨rfl, C1⟩
    · exact absurd h119 hb
set_option maxRecDepth 100000 in
set_option maxHeartbeats 40000000 in
theorem act_3 (G : okG m s c) (hm : m < 100000) (x y : Int32) (ek : lwV x 14 = 3) : opG mL_act 13 [.int x, .int y] m s q c := by
  have hl : ∀ w, kCtrR mL_low 0 [.int x, .int 14] w (.int 3) := fun w => by
    have t : kCtrR mL_low 0 [.int x, .int 14] w (.int (lwV x 14)) := hL_low (w := w) x 14 (by decide)
    rw [ek] at t
    exact t
  by_cases hb : lwV (x >>> ((11 : Int32) &&& 31)) 2 = 0
  · obtain ⟨v, s', q', c', mc, ms, hA, h1, h2, F⟩ := og_bring (q := q) G hm (1 + lwV y 40) (1 + lwV (y >>> ((4 : Int32) &&& 31)) 40) (1 + lwV (y >>> ((8 : Int32) &&& 31)) 40) (1 + lwV (x >>> ((6 : Int32) &&& 31)) 99) (lwV (y >>> ((12 : Int32) &&& 31)) 2)
    refine ⟨v, s', q', c', mc, ms, hA, h1, h2, fun w C => kCtrG.of plLw nlL_act rfl (Nat.le_of_ble_eq_true rfl) (fun n => ?_)⟩
    refine kw_iload_n (pc := 0) dL_act_0 rfl ?_
    refine kw_iconst (v := 4) (pc := 1) dL_act_1 (by decide) ?_
    refine kw_ishr (pc := 2) dL_act_2 ?_
    refine kw_bipush (v := 6) (pc := 3) dL_act_3 (by decide) ?_
    refine kw_callSr (pc := 5) dL_act_5 lL_73 (hL_low (x >>> ((4 : Int32) &&& 31)) 6 (by decide)) rfl rfl ⟨by decide, by decide, Nat.le_of_ble_eq_true rfl⟩ ?_
    refine kw_istore_n (pc := 8) dL_act_8 (by decide) rfl ?_
    refine kW.locs (L' := [(0, _), (1, _), (2, _), (3, _)]) ?_ ⟨rfl, rfl, rfl, rfl, trivial⟩
    refine kw_iload_n (pc := 9) dL_act_9 rfl ?_
    refine kw_bipush (v := 14) (pc := 10) dL_act_10 (by decide) ?_
    refine kw_callSr (pc := 12) dL_act_12 lL_73 (hl w) rfl rfl ⟨by decide, by decide, Nat.le_of_ble_eq_true rfl⟩ ?_
    refine kw_tableIn (off := 61) (tgt := 76) (pc := 15) dL_act_15 (by decide) (by decide) (by decide) (by decide) ?_
    refine kw_aload_n (pc := 76) dL_act_76 rfl ?_
    refine kw_iconst (v := 1) (pc := 77) dL_act_77 (by decide) ?_
    refine kw_iload_n (pc := 78) dL_act_78 rfl ?_
    refine kw_bipush (v := 40) (pc := 79) dL_act_79 (by decide) ?_
    refine kw_callSr (pc := 81) dL_act_81 lL_73 (hL_low y 40 (by decide)) rfl rfl ⟨by decide, by decide, Nat.le_of_ble_eq_true rfl⟩ ?_
    refine kw_iadd (pc := 84) dL_act_84 ?_
    refine kw_iconst (v := 1) (pc := 85) dL_act_85 (by decide) ?_
    refine kw_iload_n (pc := 86) dL_act_86 rfl ?_
    refine kw_iconst (v := 4) (pc := 87) dL_act_87 (by decide) ?_
    refine kw_ishr (pc := 88) dL_act_88 ?_
    refine kw_bipush (v := 40) (pc := 89) dL_act_89 (by decide) ?_
    refine kw_callSr (pc := 91) dL_act_91 lL_73 (hL_low (y >>> ((4 : Int32) &&& 31)) 40 (by decide)) rfl rfl ⟨by decide, by decide, Nat.le_of_ble_eq_true rfl⟩ ?_
    refine kw_iadd (pc := 94) dL_act_94 ?_
    refine kw_iconst (v := 1) (pc := 95) dL_act_95 (by decide) ?_
    refine kw_iload_n (pc := 96) dL_act_96 rfl ?_
    refine kw_bipush (v := 8) (pc := 97) dL_act_97 (by decide) ?_
    refine kw_ishr (pc := 99) dL_act_99 ?_
    refine kw_bipush (v := 40) (pc := 100) dL_act_100 (by decide) ?_
    refine kw_callSr (pc := 102) dL_act_102 lL_73 (hL_low (y >>> ((8 : Int32) &&& 31)) 40 (by decide)) rfl rfl ⟨by decide, by decide, Nat.le_of_ble_eq_true rfl⟩ ?_
    refine kw_iadd (pc := 105) dL_act_105 ?_
    refine kw_iconst (v := 1) (pc := 106) dL_act_106 (by decide) ?_
    refine kw_iload_n (pc := 107) dL_act_107 rfl ?_
    refine kw_bipush (v := 6) (pc := 108) dL_act_108 (by decide) ?_
    refine kw_ishr (pc := 110) dL_act_110 ?_
    refine kw_iload_n (pc := 111) dL_act_111 rfl ?_
    refine kw_bipush (v := 11) (pc := 112) dL_act_112 (by decide) ?_
    refine kw_ishr (pc := 114) dL_act_114 ?_
    refine kw_iconst (v := 2) (pc := 115) dL_act_115 (by decide) ?_
    refine kw_callSr (pc := 116) dL_act_116 lL_73 (hL_low (x >>> ((11 : Int32) &&& 31)) 2 (by decide)) rfl rfl ⟨by decide, by decide, Nat.le_of_ble_eq_true rfl⟩ ?_
    refine kw_if_ne (tgt := 127) (pc := 119) dL_act_119 (by decide) (fun h119 => ?_) (fun h119 => ?_)
    · exact absurd hb h119
    · refine kw_bipush (v := 99) (pc := 122) dL_act_122 (by decide) ?_
      refine kw_goto (tgt := 129) (pc := 124) dL_act_124 (by decide) ?_
      refine kw_callSr (pc := 129) dL_act_129 lL_73 (hL_low (x >>> ((6 : Int32) &&& 31)) 99 (by decide)) rfl rfl ⟨by decide, by decide, Nat.le_of_ble_eq_true rfl⟩ ?_
      refine kw_iadd (pc := 132) dL_act_132 ?_
      refine kw_iload_n (pc := 133) dL_act_133 rfl ?_
      refine kw_bipush (v := 12) (pc := 134) dL_act_134 (by decide) ?_
      refine kw_ishr (pc := 136) dL_act_136 ?_
      refine kw_iconst (v := 2) (pc := 137) dL_act_137 (by decide) ?_
      refine kw_callSr (pc := 138) dL_act_138 lL_73 (hL_low (y >>> ((12 : Int32) &&& 31)) 2 (by decide)) rfl rfl ⟨by decide, by decide, Nat.le_of_ble_eq_true rfl⟩ ?_
      refine kw_callSg (pc := 141) dL_act_141 lL_78 (F w C) rfl rfl ⟨by decide, by decide, Nat.le_of_ble_eq_true rfl, Nat.le_refl _, Nat.le_refl _⟩ (fun w1 n1 C1 => ?_)
      exact kw_ireturn nlL_act (pc := 144) dL_act_144 rfl rfl ⟨rfl, C1⟩
  · obtain ⟨v, s', q', c', mc, ms, hA, h1, h2, F⟩ := og_bring (q := q) G hm (1 + lwV y 40) (1 + lwV (y >>> ((4 : Int32) &&& 31)) 40) (1 + lwV (y >>> ((8 : Int32) &&& 31)) 40) (1 + lwV (x >>> ((6 : Int32) &&& 31)) 30) (lwV (y >>> ((12 : Int32) &&& 31)) 2)
    refine ⟨v, s', q', c', mc, ms, hA, h1, h2, fun w C => kCtrG.of plLw nlL_act rfl (Nat.le_of_ble_eq_true rfl) (fun n => ?_)⟩
    refine kw_iload_n (pc := 0) dL_act_0 rfl ?_
    refine kw_iconst (v := 4) (pc := 1) dL_act_1 (by decide) ?_
    refine kw_ishr (pc := 2) dL_act_2 ?_
    refine kw_bipush (v := 6) (pc := 3) dL_act_3 (by decide) ?_
    refine kw_callSr (pc := 5) dL_act_5 lL_73 (hL_low (x >>> ((4 : Int32) &&& 31)) 6 (by decide)) rfl rfl ⟨by decide, by decide, Nat.le_of_ble_eq_true rfl⟩ ?_
    refine kw_istore_n (pc := 8) dL_act_8 (by decide) rfl ?_
    refine kW.locs (L' := [(0, _), (1, _), (2, _), (3, _)]) ?_ ⟨rfl, rfl, rfl, rfl, trivial⟩
    refine kw_iload_n (pc := 9) dL_act_9 rfl ?_
    refine kw_bipush (v := 14) (pc := 10) dL_act_10 (by decide) ?_
    refine kw_callSr (pc := 12) dL_act_12 lL_73 (hl w) rfl rfl ⟨by decide, by decide, Nat.le_of_ble_eq_true rfl⟩ ?_
    refine kw_tableIn (off := 61) (tgt := 76) (pc := 15) dL_act_15 (by decide) (by decide) (by decide) (by decide) ?_
    refine kw_aload_n (pc := 76) dL_act_76 rfl ?_
    refine kw_iconst (v := 1) (pc := 77) dL_act_77 (by decide) ?_
    refine kw_iload_n (pc := 78) dL_act_78 rfl ?_
    refine kw_bipush (v := 40) (pc := 79) dL_act_79 (by decide) ?_
    refine kw_callSr (pc := 81) dL_act_81 lL_73 (hL_low y 40 (by decide)) rfl rfl ⟨by decide, by decide, Nat.le_of_ble_eq_true rfl⟩ ?_
    refine kw_iadd (pc := 84) dL_act_84 ?_
    refine kw_iconst (v := 1) (pc := 85) dL_act_85 (by decide) ?_
    refine kw_iload_n (pc := 86) dL_act_86 rfl ?_
    refine kw_iconst (v := 4) (pc := 87) dL_act_87 (by decide) ?_
    refine kw_ishr (pc := 88) dL_act_88 ?_
    refine kw_bipush (v := 40) (pc := 89) dL_act_89 (by decide) ?_
    refine kw_callSr (pc := 91) dL_act_91 lL_73 (hL_low (y >>> ((4 : Int32) &&& 31)) 40 (by decide)) rfl rfl ⟨by decide, by decide, Nat.le_of_ble_eq_true rfl⟩ ?_
    refine kw_iadd (pc := 94) dL_act_94 ?_
    refine kw_iconst (v := 1) (pc := 95) dL_act_95 (by decide) ?_
    refine kw_iload_n (pc := 96) dL_act_96 rfl ?_
    refine kw_bipush (v := 8) (pc := 97) dL_act_97 (by decide) ?_
    refine kw_ishr (pc := 99) dL_act_99 ?_
    refine kw_bipush (v := 40) (pc := 100) dL_act_100 (by decide) ?_
    refine kw_callSr (pc := 102) dL_act_102 lL_73 (hL_low (y >>> ((8 : Int32) &&& 31)) 40 (by decide)) rfl rfl ⟨by decide, by decide, Nat.le_of_ble_eq_true rfl⟩ ?_
    refine kw_iadd (pc := 105) dL_act_105 ?_
    refine kw_iconst (v := 1) (pc := 106) dL_act_106 (by decide) ?_
    refine kw_iload_n (pc := 107) dL_act_107 rfl ?_
    refine kw_bipush (v := 6) (pc := 108) dL_act_108 (by decide) ?_
    refine kw_ishr (pc := 110) dL_act_110 ?_
    refine kw_iload_n (pc := 111) dL_act_111 rfl ?_
    refine kw_bipush (v := 11) (pc := 112) dL_act_112 (by decide) ?_
    refine kw_ishr (pc := 114) dL_act_114 ?_
    refine kw_iconst (v := 2) (pc := 115) dL_act_115 (by decide) ?_
    refine kw_callSr (pc := 116) dL_act_116 lL_73 (hL_low (x >>> ((11 : Int32) &&& 31)) 2 (by decide)) rfl rfl ⟨by decide, by decide, Nat.le_of_ble_eq_true rfl⟩ ?_
    refine kw_if_ne (tgt := 127) (pc := 119) dL_act_119 (by decide) (fun h119 => ?_) (fun h119 => ?_)
    · refine kw_bipush (v := 30) (pc := 127) dL_act_127 (by decide) ?_
      refine kw_callSr (pc := 129) dL_act_129 lL_73 (hL_low (x >>> ((6 : Int32) &&& 31)) 30 (by decide)) rfl rfl ⟨by decide, by decide, Nat.le_of_ble_eq_true rfl⟩ ?_
      refine kw_iadd (pc := 132) dL_act_132 ?_
      refine kw_iload_n (pc := 133) dL_act_133 rfl ?_
      refine kw_bipush (v := 12) (pc := 134) dL_act_134 (by decide) ?_
      refine kw_ishr (pc := 136) dL_act_136 ?_
      refine kw_iconst (v := 2) (pc := 137) dL_act_137 (by decide) ?_
      refine kw_callSr (pc := 138) dL_act_138 lL_73 (hL_low (y >>> ((12 : Int32) &&& 31)) 2 (by decide)) rfl rfl ⟨by decide, by decide, Nat.le_of_ble_eq_true rfl⟩ ?_
      refine kw_callSg (pc := 141) dL_act_141 lL_78 (F w C) rfl rfl ⟨by decide, by decide, Nat.le_of_ble_eq_true rfl, Nat.le_refl _, Nat.le_refl _⟩ (fun w1 n1 C1 => ?_)
      exact kw_ireturn nlL_act (pc := 144) dL_act_144 rfl rfl ⟨rfl, C1⟩
    · exact absurd h119 hb
set_option maxRecDepth 100000 in
set_option maxHeartbeats 40000000 in
theorem act_4 (G : okG m s c) (hm : m < 100000) (x y : Int32) (ek : lwV x 14 = 4) : opG mL_act 13 [.int x, .int y] m s q c := by
  have hl : ∀ w, kCtrR mL_low 0 [.int x, .int 14] w (.int 4) := fun w => by
    have t : kCtrR mL_low 0 [.int x, .int 14] w (.int (lwV x 14)) := hL_low (w := w) x 14 (by decide)
    rw [ek] at t
    exact t
  obtain ⟨v, s', q', c', mc, ms, hA, h1, h2, F⟩ := og_change (q := q) G hm (lwV (x >>> ((4 : Int32) &&& 31)) 6) 0 (lwV y 3)
  refine ⟨v, s', q', c', mc, ms, hA, h1, h2, fun w C => kCtrG.of plLw nlL_act rfl (Nat.le_of_ble_eq_true rfl) (fun n => ?_)⟩
  refine kw_iload_n (pc := 0) dL_act_0 rfl ?_
  refine kw_iconst (v := 4) (pc := 1) dL_act_1 (by decide) ?_
  refine kw_ishr (pc := 2) dL_act_2 ?_
  refine kw_bipush (v := 6) (pc := 3) dL_act_3 (by decide) ?_
  refine kw_callSr (pc := 5) dL_act_5 lL_73 (hL_low (x >>> ((4 : Int32) &&& 31)) 6 (by decide)) rfl rfl ⟨by decide, by decide, Nat.le_of_ble_eq_true rfl⟩ ?_
  refine kw_istore_n (pc := 8) dL_act_8 (by decide) rfl ?_
  refine kW.locs (L' := [(0, _), (1, _), (2, _), (3, _)]) ?_ ⟨rfl, rfl, rfl, rfl, trivial⟩
  refine kw_iload_n (pc := 9) dL_act_9 rfl ?_
  refine kw_bipush (v := 14) (pc := 10) dL_act_10 (by decide) ?_
  refine kw_callSr (pc := 12) dL_act_12 lL_73 (hl w) rfl rfl ⟨by decide, by decide, Nat.le_of_ble_eq_true rfl⟩ ?_
  refine kw_tableIn (off := 130) (tgt := 145) (pc := 15) dL_act_15 (by decide) (by decide) (by decide) (by decide) ?_
  refine kw_aload_n (pc := 145) dL_act_145 rfl ?_
  refine kw_iload_n (pc := 146) dL_act_146 rfl ?_
  refine kw_iconst (v := 0) (pc := 147) dL_act_147 (by decide) ?_
  refine kw_iload_n (pc := 148) dL_act_148 rfl ?_
  refine kw_iconst (v := 3) (pc := 149) dL_act_149 (by decide) ?_
  refine kw_callSr (pc := 150) dL_act_150 lL_73 (hL_low y 3 (by decide)) rfl rfl ⟨by decide, by decide, Nat.le_of_ble_eq_true rfl⟩ ?_
  refine kw_callSg (pc := 153) dL_act_153 lL_81 (F w C) rfl rfl ⟨by decide, by decide, Nat.le_of_ble_eq_true rfl, Nat.le_refl _, Nat.le_refl _⟩ (fun w1 n1 C1 => ?_)
  exact kw_ireturn nlL_act (pc := 156) dL_act_156 rfl rfl ⟨rfl, C1⟩
set_option maxRecDepth 100000 in
set_option maxHeartbeats 40000000 in
theorem act_5 (G : okG m s c) (hm : m < 100000) (x y : Int32) (ek : lwV x 14 = 5) : opG mL_act 13 [.int x, .int y] m s q c := by
  have hl : ∀ w, kCtrR mL_low 0 [.int x, .int 14] w (.int 5) := fun w => by
    have t : kCtrR mL_low 0 [.int x, .int 14] w (.int (lwV x 14)) := hL_low (w := w) x 14 (by decide)
    rw [ek] at t
    exact t
  obtain ⟨v, s', q', c', mc, ms, hA, h1, h2, F⟩ := og_change (q := q) G hm (lwV (x >>> ((4 : Int32) &&& 31)) 6) 0 (lwV y 3)
  refine ⟨v, s', q', c', mc, ms, hA, h1, h2, fun w C => kCtrG.of plLw nlL_act rfl (Nat.le_of_ble_eq_true rfl) (fun n => ?_)⟩
  refine kw_iload_n (pc := 0) dL_act_0 rfl ?_
  refine kw_iconst (v := 4) (pc := 1) dL_act_1 (by decide) ?_
  refine kw_ishr (pc := 2) dL_act_2 ?_
  refine kw_bipush (v := 6) (pc := 3) dL_act_3 (by decide) ?_
  refine kw_callSr (pc := 5) dL_act_5 lL_73 (hL_low (x >>> ((4 : Int32) &&& 31)) 6 (by decide)) rfl rfl ⟨by decide, by decide, Nat.le_of_ble_eq_true rfl⟩ ?_
  refine kw_istore_n (pc := 8) dL_act_8 (by decide) rfl ?_
  refine kW.locs (L' := [(0, _), (1, _), (2, _), (3, _)]) ?_ ⟨rfl, rfl, rfl, rfl, trivial⟩
  refine kw_iload_n (pc := 9) dL_act_9 rfl ?_
  refine kw_bipush (v := 14) (pc := 10) dL_act_10 (by decide) ?_
  refine kw_callSr (pc := 12) dL_act_12 lL_73 (hl w) rfl rfl ⟨by decide, by decide, Nat.le_of_ble_eq_true rfl⟩ ?_
  refine kw_tableIn (off := 130) (tgt := 145) (pc := 15) dL_act_15 (by decide) (by decide) (by decide) (by decide) ?_
  refine kw_aload_n (pc := 145) dL_act_145 rfl ?_
  refine kw_iload_n (pc := 146) dL_act_146 rfl ?_
  refine kw_iconst (v := 0) (pc := 147) dL_act_147 (by decide) ?_
  refine kw_iload_n (pc := 148) dL_act_148 rfl ?_
  refine kw_iconst (v := 3) (pc := 149) dL_act_149 (by decide) ?_
  refine kw_callSr (pc := 150) dL_act_150 lL_73 (hL_low y 3 (by decide)) rfl rfl ⟨by decide, by decide, Nat.le_of_ble_eq_true rfl⟩ ?_
  refine kw_callSg (pc := 153) dL_act_153 lL_81 (F w C) rfl rfl ⟨by decide, by decide, Nat.le_of_ble_eq_true rfl, Nat.le_refl _, Nat.le_refl _⟩ (fun w1 n1 C1 => ?_)
  exact kw_ireturn nlL_act (pc := 156) dL_act_156 rfl rfl ⟨rfl, C1⟩
set_option maxRecDepth 100000 in
set_option maxHeartbeats 40000000 in
theorem act_6 (G : okG m s c) (hm : m < 100000) (x y : Int32) (ek : lwV x 14 = 6) : opG mL_act 13 [.int x, .int y] m s q c := by
  have hl : ∀ w, kCtrR mL_low 0 [.int x, .int 14] w (.int 6) := fun w => by
    have t : kCtrR mL_low 0 [.int x, .int 14] w (.int (lwV x 14)) := hL_low (w := w) x 14 (by decide)
    rw [ek] at t
    exact t
  obtain ⟨v, s', q', c', mc, ms, hA, h1, h2, F⟩ := og_change (q := q) G hm (lwV (x >>> ((4 : Int32) &&& 31)) 6) 1 (lwV y 9)
  refine ⟨v, s', q', c', mc, ms, hA, h1, h2, fun w C => kCtrG.of plLw nlL_act rfl (Nat.le_of_ble_eq_true rfl) (fun n => ?_)⟩
  refine kw_iload_n (pc := 0) dL_act_0 rfl ?_
  refine kw_iconst (v := 4) (pc := 1) dL_act_1 (by decide) ?_
  refine kw_ishr (pc := 2) dL_act_2 ?_
  refine kw_bipush (v := 6) (pc := 3) dL_act_3 (by decide) ?_
  refine kw_callSr (pc := 5) dL_act_5 lL_73 (hL_low (x >>> ((4 : Int32) &&& 31)) 6 (by decide)) rfl rfl ⟨by decide, by decide, Nat.le_of_ble_eq_true rfl⟩ ?_
  refine kw_istore_n (pc := 8) dL_act_8 (by decide) rfl ?_
  refine kW.locs (L' := [(0, _), (1, _), (2, _), (3, _)]) ?_ ⟨rfl, rfl, rfl, rfl, trivial⟩
  refine kw_iload_n (pc := 9) dL_act_9 rfl ?_
  refine kw_bipush (v := 14) (pc := 10) dL_act_10 (by decide) ?_
  refine kw_callSr (pc := 12) dL_act_12 lL_73 (hl w) rfl rfl ⟨by decide, by decide, Nat.le_of_ble_eq_true rfl⟩ ?_
  refine kw_tableIn (off := 142) (tgt := 157) (pc := 15) dL_act_15 (by decide) (by decide) (by decide) (by decide) ?_
  refine kw_aload_n (pc := 157) dL_act_157 rfl ?_
  refine kw_iload_n (pc := 158) dL_act_158 rfl ?_
  refine kw_iconst (v := 1) (pc := 159) dL_act_159 (by decide) ?_
  refine kw_iload_n (pc := 160) dL_act_160 rfl ?_
  refine kw_bipush (v := 9) (pc := 161) dL_act_161 (by decide) ?_
  refine kw_callSr (pc := 163) dL_act_163 lL_73 (hL_low y 9 (by decide)) rfl rfl ⟨by decide, by decide, Nat.le_of_ble_eq_true rfl⟩ ?_
  refine kw_callSg (pc := 166) dL_act_166 lL_81 (F w C) rfl rfl ⟨by decide, by decide, Nat.le_of_ble_eq_true rfl, Nat.le_refl _, Nat.le_refl _⟩ (fun w1 n1 C1 => ?_)
  exact kw_ireturn nlL_act (pc := 169) dL_act_169 rfl rfl ⟨rfl, C1⟩
set_option maxRecDepth 100000 in
set_option maxHeartbeats 40000000 in
theorem act_7 (G : okG m s c) (hm : m < 100000) (x y : Int32) (ek : lwV x 14 = 7) : opG mL_act 13 [.int x, .int y] m s q c := by
  have hl : ∀ w, kCtrR mL_low 0 [.int x, .int 14] w (.int 7) := fun w => by
    have t : kCtrR mL_low 0 [.int x, .int 14] w (.int (lwV x 14)) := hL_low (w := w) x 14 (by decide)
    rw [ek] at t
    exact t
  obtain ⟨v, s', q', c', mc, ms, hA, h1, h2, F⟩ := og_send (q := q) G hm (lwV (x >>> ((4 : Int32) &&& 31)) 6)
  refine ⟨v, s', q', c', mc, ms, hA, h1, h2, fun w C => kCtrG.of plLw nlL_act rfl (Nat.le_of_ble_eq_true rfl) (fun n => ?_)⟩
  refine kw_iload_n (pc := 0) dL_act_0 rfl ?_
  refine kw_iconst (v := 4) (pc := 1) dL_act_1 (by decide) ?_
  refine kw_ishr (pc := 2) dL_act_2 ?_
  refine kw_bipush (v := 6) (pc := 3) dL_act_3 (by decide) ?_
  refine kw_callSr (pc := 5) dL_act_5 lL_73 (hL_low (x >>> ((4 : Int32) &&& 31)) 6 (by decide)) rfl rfl ⟨by decide, by decide, Nat.le_of_ble_eq_true rfl⟩ ?_
  refine kw_istore_n (pc := 8) dL_act_8 (by decide) rfl ?_
  refine kW.locs (L' := [(0, _), (1, _), (2, _), (3, _)]) ?_ ⟨rfl, rfl, rfl, rfl, trivial⟩
  refine kw_iload_n (pc := 9) dL_act_9 rfl ?_
  refine kw_bipush (v := 14) (pc := 10) dL_act_10 (by decide) ?_
  refine kw_callSr (pc := 12) dL_act_12 lL_73 (hl w) rfl rfl ⟨by decide, by decide, Nat.le_of_ble_eq_true rfl⟩ ?_
  refine kw_tableIn (off := 155) (tgt := 170) (pc := 15) dL_act_15 (by decide) (by decide) (by decide) (by decide) ?_
  refine kw_aload_n (pc := 170) dL_act_170 rfl ?_
  refine kw_iload_n (pc := 171) dL_act_171 rfl ?_
  refine kw_callSg (pc := 172) dL_act_172 lL_84 (F w C) rfl rfl ⟨by decide, by decide, Nat.le_of_ble_eq_true rfl, Nat.le_refl _, Nat.le_refl _⟩ (fun w1 n1 C1 => ?_)
  exact kw_ireturn nlL_act (pc := 175) dL_act_175 rfl rfl ⟨rfl, C1⟩
set_option maxRecDepth 100000 in
set_option maxHeartbeats 40000000 in
theorem act_8 (G : okG m s c) (hm : m < 100000) (x y : Int32) (ek : lwV x 14 = 8) : opG mL_act 13 [.int x, .int y] m s q c := by
  have hl : ∀ w, kCtrR mL_low 0 [.int x, .int 14] w (.int 8) := fun w => by
    have t : kCtrR mL_low 0 [.int x, .int 14] w (.int (lwV x 14)) := hL_low (w := w) x 14 (by decide)
    rw [ek] at t
    exact t
  obtain ⟨v, s', q', c', mc, ms, hA, h1, h2, F⟩ := og_dispute (q := q) G hm (lwV (x >>> ((4 : Int32) &&& 31)) 6) (1 + lwV y 300)
  refine ⟨v, s', q', c', mc, ms, hA, h1, h2, fun w C => kCtrG.of plLw nlL_act rfl (Nat.le_of_ble_eq_true rfl) (fun n => ?_)⟩
  refine kw_iload_n (pc := 0) dL_act_0 rfl ?_
  refine kw_iconst (v := 4) (pc := 1) dL_act_1 (by decide) ?_
  refine kw_ishr (pc := 2) dL_act_2 ?_
  refine kw_bipush (v := 6) (pc := 3) dL_act_3 (by decide) ?_
  refine kw_callSr (pc := 5) dL_act_5 lL_73 (hL_low (x >>> ((4 : Int32) &&& 31)) 6 (by decide)) rfl rfl ⟨by decide, by decide, Nat.le_of_ble_eq_true rfl⟩ ?_
  refine kw_istore_n (pc := 8) dL_act_8 (by decide) rfl ?_
  refine kW.locs (L' := [(0, _), (1, _), (2, _), (3, _)]) ?_ ⟨rfl, rfl, rfl, rfl, trivial⟩
  refine kw_iload_n (pc := 9) dL_act_9 rfl ?_
  refine kw_bipush (v := 14) (pc := 10) dL_act_10 (by decide) ?_
  refine kw_callSr (pc := 12) dL_act_12 lL_73 (hl w) rfl rfl ⟨by decide, by decide, Nat.le_of_ble_eq_true rfl⟩ ?_
  refine kw_tableIn (off := 161) (tgt := 176) (pc := 15) dL_act_15 (by decide) (by decide) (by decide) (by decide) ?_
  refine kw_aload_n (pc := 176) dL_act_176 rfl ?_
  refine kw_iload_n (pc := 177) dL_act_177 rfl ?_
  refine kw_iconst (v := 1) (pc := 178) dL_act_178 (by decide) ?_
  refine kw_iload_n (pc := 179) dL_act_179 rfl ?_
  refine kw_sipush (v := 300) (pc := 180) dL_act_180 (by decide) ?_
  refine kw_callSr (pc := 183) dL_act_183 lL_73 (hL_low y 300 (by decide)) rfl rfl ⟨by decide, by decide, Nat.le_of_ble_eq_true rfl⟩ ?_
  refine kw_iadd (pc := 186) dL_act_186 ?_
  refine kw_callSg (pc := 187) dL_act_187 lL_87 (F w C) rfl rfl ⟨by decide, by decide, Nat.le_of_ble_eq_true rfl, Nat.le_refl _, Nat.le_refl _⟩ (fun w1 n1 C1 => ?_)
  exact kw_ireturn nlL_act (pc := 190) dL_act_190 rfl rfl ⟨rfl, C1⟩
set_option maxRecDepth 100000 in
set_option maxHeartbeats 40000000 in
theorem act_9 (G : okG m s c) (hm : m < 100000) (x y : Int32) (ek : lwV x 14 = 9) : opG mL_act 13 [.int x, .int y] m s q c := by
  have hl : ∀ w, kCtrR mL_low 0 [.int x, .int 14] w (.int 9) := fun w => by
    have t : kCtrR mL_low 0 [.int x, .int 14] w (.int (lwV x 14)) := hL_low (w := w) x 14 (by decide)
    rw [ek] at t
    exact t
  obtain ⟨v, s', q', c', mc, ms, hA, h1, h2, F⟩ := og_takeBack (q := q) G hm (lwV (x >>> ((4 : Int32) &&& 31)) 6)
  refine ⟨v, s', q', c', mc, ms, hA, h1, h2, fun w C => kCtrG.of plLw nlL_act rfl (Nat.le_of_ble_eq_true rfl) (fun n => ?_)⟩
  refine kw_iload_n (pc := 0) dL_act_0 rfl ?_
  refine kw_iconst (v := 4) (pc := 1) dL_act_1 (by decide) ?_
  refine kw_ishr (pc := 2) dL_act_2 ?_
  refine kw_bipush (v := 6) (pc := 3) dL_act_3 (by decide) ?_
  refine kw_callSr (pc := 5) dL_act_5 lL_73 (hL_low (x >>> ((4 : Int32) &&& 31)) 6 (by decide)) rfl rfl ⟨by decide, by decide, Nat.le_of_ble_eq_true rfl⟩ ?_
  refine kw_istore_n (pc := 8) dL_act_8 (by decide) rfl ?_
  refine kW.locs (L' := [(0, _), (1, _), (2, _), (3, _)]) ?_ ⟨rfl, rfl, rfl, rfl, trivial⟩
  refine kw_iload_n (pc := 9) dL_act_9 rfl ?_
  refine kw_bipush (v := 14) (pc := 10) dL_act_10 (by decide) ?_
  refine kw_callSr (pc := 12) dL_act_12 lL_73 (hl w) rfl rfl ⟨by decide, by decide, Nat.le_of_ble_eq_true rfl⟩ ?_
  refine kw_tableIn (off := 176) (tgt := 191) (pc := 15) dL_act_15 (by decide) (by decide) (by decide) (by decide) ?_
  refine kw_aload_n (pc := 191) dL_act_191 rfl ?_
  refine kw_iload_n (pc := 192) dL_act_192 rfl ?_
  refine kw_callSg (pc := 193) dL_act_193 lL_90 (F w C) rfl rfl ⟨by decide, by decide, Nat.le_of_ble_eq_true rfl, Nat.le_refl _, Nat.le_refl _⟩ (fun w1 n1 C1 => ?_)
  exact kw_ireturn nlL_act (pc := 196) dL_act_196 rfl rfl ⟨rfl, C1⟩
set_option maxRecDepth 100000 in
set_option maxHeartbeats 40000000 in
theorem act_10 (G : okG m s c) (hm : m < 100000) (x y : Int32) (ek : lwV x 14 = 10) : opG mL_act 13 [.int x, .int y] m s q c := by
  have hl : ∀ w, kCtrR mL_low 0 [.int x, .int 14] w (.int 10) := fun w => by
    have t : kCtrR mL_low 0 [.int x, .int 14] w (.int (lwV x 14)) := hL_low (w := w) x 14 (by decide)
    rw [ek] at t
    exact t
  obtain ⟨v, s', q', c', mc, ms, hA, h1, h2, F⟩ := og_price (q := q) G hm (lwV y 12) (lwV (y >>> ((4 : Int32) &&& 31)) 100)
  refine ⟨v, s', q', c', mc, ms, hA, h1, h2, fun w C => kCtrG.of plLw nlL_act rfl (Nat.le_of_ble_eq_true rfl) (fun n => ?_)⟩
  refine kw_iload_n (pc := 0) dL_act_0 rfl ?_
  refine kw_iconst (v := 4) (pc := 1) dL_act_1 (by decide) ?_
  refine kw_ishr (pc := 2) dL_act_2 ?_
  refine kw_bipush (v := 6) (pc := 3) dL_act_3 (by decide) ?_
  refine kw_callSr (pc := 5) dL_act_5 lL_73 (hL_low (x >>> ((4 : Int32) &&& 31)) 6 (by decide)) rfl rfl ⟨by decide, by decide, Nat.le_of_ble_eq_true rfl⟩ ?_
  refine kw_istore_n (pc := 8) dL_act_8 (by decide) rfl ?_
  refine kW.locs (L' := [(0, _), (1, _), (2, _), (3, _)]) ?_ ⟨rfl, rfl, rfl, rfl, trivial⟩
  refine kw_iload_n (pc := 9) dL_act_9 rfl ?_
  refine kw_bipush (v := 14) (pc := 10) dL_act_10 (by decide) ?_
  refine kw_callSr (pc := 12) dL_act_12 lL_73 (hl w) rfl rfl ⟨by decide, by decide, Nat.le_of_ble_eq_true rfl⟩ ?_
  refine kw_tableIn (off := 182) (tgt := 197) (pc := 15) dL_act_15 (by decide) (by decide) (by decide) (by decide) ?_
  refine kw_aload_n (pc := 197) dL_act_197 rfl ?_
  refine kw_iload_n (pc := 198) dL_act_198 rfl ?_
  refine kw_bipush (v := 12) (pc := 199) dL_act_199 (by decide) ?_
  refine kw_callSr (pc := 201) dL_act_201 lL_73 (hL_low y 12 (by decide)) rfl rfl ⟨by decide, by decide, Nat.le_of_ble_eq_true rfl⟩ ?_
  refine kw_iload_n (pc := 204) dL_act_204 rfl ?_
  refine kw_iconst (v := 4) (pc := 205) dL_act_205 (by decide) ?_
  refine kw_ishr (pc := 206) dL_act_206 ?_
  refine kw_bipush (v := 100) (pc := 207) dL_act_207 (by decide) ?_
  refine kw_callSr (pc := 209) dL_act_209 lL_73 (hL_low (y >>> ((4 : Int32) &&& 31)) 100 (by decide)) rfl rfl ⟨by decide, by decide, Nat.le_of_ble_eq_true rfl⟩ ?_
  refine kw_callSg (pc := 212) dL_act_212 lL_92 (F w C) rfl rfl ⟨by decide, by decide, Nat.le_of_ble_eq_true rfl, Nat.le_refl _, Nat.le_refl _⟩ (fun w1 n1 C1 => ?_)
  exact kw_ireturn nlL_act (pc := 215) dL_act_215 rfl rfl ⟨rfl, C1⟩
set_option maxRecDepth 100000 in
set_option maxHeartbeats 40000000 in
theorem act_11 (G : okG m s c) (hm : m < 100000) (x y : Int32) (ek : lwV x 14 = 11) : opG mL_act 13 [.int x, .int y] m s q c := by
  have hl : ∀ w, kCtrR mL_low 0 [.int x, .int 14] w (.int 11) := fun w => by
    have t : kCtrR mL_low 0 [.int x, .int 14] w (.int (lwV x 14)) := hL_low (w := w) x 14 (by decide)
    rw [ek] at t
    exact t
  obtain ⟨v, s', q', c', mc, ms, hA, h1, h2, F⟩ := og_zone (q := q) G hm (lwV y 4) (1 + lwV (y >>> ((2 : Int32) &&& 31)) 9)
  refine ⟨v, s', q', c', mc, ms, hA, h1, h2, fun w C => kCtrG.of plLw nlL_act rfl (Nat.le_of_ble_eq_true rfl) (fun n => ?_)⟩
  refine kw_iload_n (pc := 0) dL_act_0 rfl ?_
  refine kw_iconst (v := 4) (pc := 1) dL_act_1 (by decide) ?_
  refine kw_ishr (pc := 2) dL_act_2 ?_
  refine kw_bipush (v := 6) (pc := 3) dL_act_3 (by decide) ?_
  refine kw_callSr (pc := 5) dL_act_5 lL_73 (hL_low (x >>> ((4 : Int32) &&& 31)) 6 (by decide)) rfl rfl ⟨by decide, by decide, Nat.le_of_ble_eq_true rfl⟩ ?_
  refine kw_istore_n (pc := 8) dL_act_8 (by decide) rfl ?_
  refine kW.locs (L' := [(0, _), (1, _), (2, _), (3, _)]) ?_ ⟨rfl, rfl, rfl, rfl, trivial⟩
  refine kw_iload_n (pc := 9) dL_act_9 rfl ?_
  refine kw_bipush (v := 14) (pc := 10) dL_act_10 (by decide) ?_
  refine kw_callSr (pc := 12) dL_act_12 lL_73 (hl w) rfl rfl ⟨by decide, by decide, Nat.le_of_ble_eq_true rfl⟩ ?_
  refine kw_tableIn (off := 201) (tgt := 216) (pc := 15) dL_act_15 (by decide) (by decide) (by decide) (by decide) ?_
  refine kw_aload_n (pc := 216) dL_act_216 rfl ?_
  refine kw_iload_n (pc := 217) dL_act_217 rfl ?_
  refine kw_iconst (v := 4) (pc := 218) dL_act_218 (by decide) ?_
  refine kw_callSr (pc := 219) dL_act_219 lL_73 (hL_low y 4 (by decide)) rfl rfl ⟨by decide, by decide, Nat.le_of_ble_eq_true rfl⟩ ?_
  refine kw_iconst (v := 1) (pc := 222) dL_act_222 (by decide) ?_
  refine kw_iload_n (pc := 223) dL_act_223 rfl ?_
  refine kw_iconst (v := 2) (pc := 224) dL_act_224 (by decide) ?_
  refine kw_ishr (pc := 225) dL_act_225 ?_
  refine kw_bipush (v := 9) (pc := 226) dL_act_226 (by decide) ?_
  refine kw_callSr (pc := 228) dL_act_228 lL_73 (hL_low (y >>> ((2 : Int32) &&& 31)) 9 (by decide)) rfl rfl ⟨by decide, by decide, Nat.le_of_ble_eq_true rfl⟩ ?_
  refine kw_iadd (pc := 231) dL_act_231 ?_
  refine kw_callSg (pc := 232) dL_act_232 lL_94 (F w C) rfl rfl ⟨by decide, by decide, Nat.le_of_ble_eq_true rfl, Nat.le_refl _, Nat.le_refl _⟩ (fun w1 n1 C1 => ?_)
  exact kw_ireturn nlL_act (pc := 235) dL_act_235 rfl rfl ⟨rfl, C1⟩
set_option maxRecDepth 100000 in
set_option maxHeartbeats 40000000 in
theorem act_12 (G : okG m s c) (hm : m < 100000) (x y : Int32) (ek : lwV x 14 = 12) : opG mL_act 13 [.int x, .int y] m s q c := by
  have hl : ∀ w, kCtrR mL_low 0 [.int x, .int 14] w (.int 12) := fun w => by
    have t : kCtrR mL_low 0 [.int x, .int 14] w (.int (lwV x 14)) := hL_low (w := w) x 14 (by decide)
    rw [ek] at t
    exact t
  by_cases hi : lwV y 4 = 1
  · obtain ⟨v, s', q', c', mc, ms, hA, h1, h2, F⟩ := og_set (q := q) G hm (lwV y 4) (50 + lwV (y >>> ((2 : Int32) &&& 31)) 150)
    refine ⟨v, s', q', c', mc, ms, hA, h1, h2, fun w C => kCtrG.of plLw nlL_act rfl (Nat.le_of_ble_eq_true rfl) (fun n => ?_)⟩
    refine kw_iload_n (pc := 0) dL_act_0 rfl ?_
    refine kw_iconst (v := 4) (pc := 1) dL_act_1 (by decide) ?_
    refine kw_ishr (pc := 2) dL_act_2 ?_
    refine kw_bipush (v := 6) (pc := 3) dL_act_3 (by decide) ?_
    refine kw_callSr (pc := 5) dL_act_5 lL_73 (hL_low (x >>> ((4 : Int32) &&& 31)) 6 (by decide)) rfl rfl ⟨by decide, by decide, Nat.le_of_ble_eq_true rfl⟩ ?_
    refine kw_istore_n (pc := 8) dL_act_8 (by decide) rfl ?_
    refine kW.locs (L' := [(0, _), (1, _), (2, _), (3, _)]) ?_ ⟨rfl, rfl, rfl, rfl, trivial⟩
    refine kw_iload_n (pc := 9) dL_act_9 rfl ?_
    refine kw_bipush (v := 14) (pc := 10) dL_act_10 (by decide) ?_
    refine kw_callSr (pc := 12) dL_act_12 lL_73 (hl w) rfl rfl ⟨by decide, by decide, Nat.le_of_ble_eq_true rfl⟩ ?_
    refine kw_tableOut (tgt := 236) (pc := 15) dL_act_15 (by decide) (by decide) ?_
    refine kw_iload_n (pc := 236) dL_act_236 rfl ?_
    refine kw_iconst (v := 4) (pc := 237) dL_act_237 (by decide) ?_
    refine kw_callSr (pc := 238) dL_act_238 lL_73 (hL_low y 4 (by decide)) rfl rfl ⟨by decide, by decide, Nat.le_of_ble_eq_true rfl⟩ ?_
    refine kw_istore (pc := 241) dL_act_241 (by decide) rfl ?_
    refine kW.locs (L' := [(0, _), (2, _), (4, _)]) ?_ ⟨rfl, rfl, rfl, trivial⟩
    refine kw_aload_n (pc := 243) dL_act_243 rfl ?_
    refine kw_iload (pc := 244) dL_act_244 rfl ?_
    refine kw_iload (pc := 246) dL_act_246 rfl ?_
    refine kw_iconst (v := 1) (pc := 248) dL_act_248 (by decide) ?_
    refine kw_icmp_ne (tgt := 267) (pc := 249) dL_act_249 (by decide) (fun h249 => ?_) (fun h249 => ?_)
    · exact absurd hi h249
    · refine kw_bipush (v := 50) (pc := 252) dL_act_252 (by decide) ?_
      refine kw_iload_n (pc := 254) dL_act_254 rfl ?_
      refine kw_iconst (v := 2) (pc := 255) dL_act_255 (by decide) ?_
      refine kw_ishr (pc := 256) dL_act_256 ?_
      refine kw_sipush (v := 150) (pc := 257) dL_act_257 (by decide) ?_
      refine kw_callSr (pc := 260) dL_act_260 lL_73 (hL_low (y >>> ((2 : Int32) &&& 31)) 150 (by decide)) rfl rfl ⟨by decide, by decide, Nat.le_of_ble_eq_true rfl⟩ ?_
      refine kw_iadd (pc := 263) dL_act_263 ?_
      refine kw_goto (tgt := 275) (pc := 264) dL_act_264 (by decide) ?_
      refine kw_callSg (pc := 275) dL_act_275 lL_96 (F w C) rfl rfl ⟨by decide, by decide, Nat.le_of_ble_eq_true rfl, Nat.le_refl _, Nat.le_refl _⟩ (fun w1 n1 C1 => ?_)
      exact kw_ireturn nlL_act (pc := 278) dL_act_278 rfl rfl ⟨rfl, C1⟩
  · obtain ⟨v, s', q', c', mc, ms, hA, h1, h2, F⟩ := og_set (q := q) G hm (lwV y 4) (lwV (y >>> ((2 : Int32) &&& 31)) 21)
    refine ⟨v, s', q', c', mc, ms, hA, h1, h2, fun w C => kCtrG.of plLw nlL_act rfl (Nat.le_of_ble_eq_true rfl) (fun n => ?_)⟩
    refine kw_iload_n (pc := 0) dL_act_0 rfl ?_
    refine kw_iconst (v := 4) (pc := 1) dL_act_1 (by decide) ?_
    refine kw_ishr (pc := 2) dL_act_2 ?_
    refine kw_bipush (v := 6) (pc := 3) dL_act_3 (by decide) ?_
    refine kw_callSr (pc := 5) dL_act_5 lL_73 (hL_low (x >>> ((4 : Int32) &&& 31)) 6 (by decide)) rfl rfl ⟨by decide, by decide, Nat.le_of_ble_eq_true rfl⟩ ?_
    refine kw_istore_n (pc := 8) dL_act_8 (by decide) rfl ?_
    refine kW.locs (L' := [(0, _), (1, _), (2, _), (3, _)]) ?_ ⟨rfl, rfl, rfl, rfl, trivial⟩
    refine kw_iload_n (pc := 9) dL_act_9 rfl ?_
    refine kw_bipush (v := 14) (pc := 10) dL_act_10 (by decide) ?_
    refine kw_callSr (pc := 12) dL_act_12 lL_73 (hl w) rfl rfl ⟨by decide, by decide, Nat.le_of_ble_eq_true rfl⟩ ?_
    refine kw_tableOut (tgt := 236) (pc := 15) dL_act_15 (by decide) (by decide) ?_
    refine kw_iload_n (pc := 236) dL_act_236 rfl ?_
    refine kw_iconst (v := 4) (pc := 237) dL_act_237 (by decide) ?_
    refine kw_callSr (pc := 238) dL_act_238 lL_73 (hL_low y 4 (by decide)) rfl rfl ⟨by decide, by decide, Nat.le_of_ble_eq_true rfl⟩ ?_
    refine kw_istore (pc := 241) dL_act_241 (by decide) rfl ?_
    refine kW.locs (L' := [(0, _), (2, _), (4, _)]) ?_ ⟨rfl, rfl, rfl, trivial⟩
    refine kw_aload_n (pc := 243) dL_act_243 rfl ?_
    refine kw_iload (pc := 244) dL_act_244 rfl ?_
    refine kw_iload (pc := 246) dL_act_246 rfl ?_
    refine kw_iconst (v := 1) (pc := 248) dL_act_248 (by decide) ?_
    refine kw_icmp_ne (tgt := 267) (pc := 249) dL_act_249 (by decide) (fun h249 => ?_) (fun h249 => ?_)
    · refine kw_iload_n (pc := 267) dL_act_267 rfl ?_
      refine kw_iconst (v := 2) (pc := 268) dL_act_268 (by decide) ?_
      refine kw_ishr (pc := 269) dL_act_269 ?_
      refine kw_bipush (v := 21) (pc := 270) dL_act_270 (by decide) ?_
      refine kw_callSr (pc := 272) dL_act_272 lL_73 (hL_low (y >>> ((2 : Int32) &&& 31)) 21 (by decide)) rfl rfl ⟨by decide, by decide, Nat.le_of_ble_eq_true rfl⟩ ?_
      refine kw_callSg (pc := 275) dL_act_275 lL_96 (F w C) rfl rfl ⟨by decide, by decide, Nat.le_of_ble_eq_true rfl, Nat.le_refl _, Nat.le_refl _⟩ (fun w1 n1 C1 => ?_)
      exact kw_ireturn nlL_act (pc := 278) dL_act_278 rfl rfl ⟨rfl, C1⟩
    · exact absurd h249 hi
set_option maxRecDepth 100000 in
set_option maxHeartbeats 40000000 in
theorem act_13 (G : okG m s c) (hm : m < 100000) (x y : Int32) (ek : lwV x 14 = 13) : opG mL_act 13 [.int x, .int y] m s q c := by
  have hl : ∀ w, kCtrR mL_low 0 [.int x, .int 14] w (.int 13) := fun w => by
    have t : kCtrR mL_low 0 [.int x, .int 14] w (.int (lwV x 14)) := hL_low (w := w) x 14 (by decide)
    rw [ek] at t
    exact t
  by_cases hi : lwV y 4 = 1
  · obtain ⟨v, s', q', c', mc, ms, hA, h1, h2, F⟩ := og_set (q := q) G hm (lwV y 4) (50 + lwV (y >>> ((2 : Int32) &&& 31)) 150)
    refine ⟨v, s', q', c', mc, ms, hA, h1, h2, fun w C => kCtrG.of plLw nlL_act rfl (Nat.le_of_ble_eq_true rfl) (fun n => ?_)⟩
    refine kw_iload_n (pc := 0) dL_act_0 rfl ?_
    refine kw_iconst (v := 4) (pc := 1) dL_act_1 (by decide) ?_
    refine kw_ishr (pc := 2) dL_act_2 ?_
    refine kw_bipush (v := 6) (pc := 3) dL_act_3 (by decide) ?_
    refine kw_callSr (pc := 5) dL_act_5 lL_73 (hL_low (x >>> ((4 : Int32) &&& 31)) 6 (by decide)) rfl rfl ⟨by decide, by decide, Nat.le_of_ble_eq_true rfl⟩ ?_
    refine kw_istore_n (pc := 8) dL_act_8 (by decide) rfl ?_
    refine kW.locs (L' := [(0, _), (1, _), (2, _), (3, _)]) ?_ ⟨rfl, rfl, rfl, rfl, trivial⟩
    refine kw_iload_n (pc := 9) dL_act_9 rfl ?_
    refine kw_bipush (v := 14) (pc := 10) dL_act_10 (by decide) ?_
    refine kw_callSr (pc := 12) dL_act_12 lL_73 (hl w) rfl rfl ⟨by decide, by decide, Nat.le_of_ble_eq_true rfl⟩ ?_
    refine kw_tableOut (tgt := 236) (pc := 15) dL_act_15 (by decide) (by decide) ?_
    refine kw_iload_n (pc := 236) dL_act_236 rfl ?_
    refine kw_iconst (v := 4) (pc := 237) dL_act_237 (by decide) ?_
    refine kw_callSr (pc := 238) dL_act_238 lL_73 (hL_low y 4 (by decide)) rfl rfl ⟨by decide, by decide, Nat.le_of_ble_eq_true rfl⟩ ?_
    refine kw_istore (pc := 241) dL_act_241 (by decide) rfl ?_
    refine kW.locs (L' := [(0, _), (2, _), (4, _)]) ?_ ⟨rfl, rfl, rfl, trivial⟩
    refine kw_aload_n (pc := 243) dL_act_243 rfl ?_
    refine kw_iload (pc := 244) dL_act_244 rfl ?_
    refine kw_iload (pc := 246) dL_act_246 rfl ?_
    refine kw_iconst (v := 1) (pc := 248) dL_act_248 (by decide) ?_
    refine kw_icmp_ne (tgt := 267) (pc := 249) dL_act_249 (by decide) (fun h249 => ?_) (fun h249 => ?_)
    · exact absurd hi h249
    · refine kw_bipush (v := 50) (pc := 252) dL_act_252 (by decide) ?_
      refine kw_iload_n (pc := 254) dL_act_254 rfl ?_
      refine kw_iconst (v := 2) (pc := 255) dL_act_255 (by decide) ?_
      refine kw_ishr (pc := 256) dL_act_256 ?_
      refine kw_sipush (v := 150) (pc := 257) dL_act_257 (by decide) ?_
      refine kw_callSr (pc := 260) dL_act_260 lL_73 (hL_low (y >>> ((2 : Int32) &&& 31)) 150 (by decide)) rfl rfl ⟨by decide, by decide, Nat.le_of_ble_eq_true rfl⟩ ?_
      refine kw_iadd (pc := 263) dL_act_263 ?_
      refine kw_goto (tgt := 275) (pc := 264) dL_act_264 (by decide) ?_
      refine kw_callSg (pc := 275) dL_act_275 lL_96 (F w C) rfl rfl ⟨by decide, by decide, Nat.le_of_ble_eq_true rfl, Nat.le_refl _, Nat.le_refl _⟩ (fun w1 n1 C1 => ?_)
      exact kw_ireturn nlL_act (pc := 278) dL_act_278 rfl rfl ⟨rfl, C1⟩
  · obtain ⟨v, s', q', c', mc, ms, hA, h1, h2, F⟩ := og_set (q := q) G hm (lwV y 4) (lwV (y >>> ((2 : Int32) &&& 31)) 21)
    refine ⟨v, s', q', c', mc, ms, hA, h1, h2, fun w C => kCtrG.of plLw nlL_act rfl (Nat.le_of_ble_eq_true rfl) (fun n => ?_)⟩
    refine kw_iload_n (pc := 0) dL_act_0 rfl ?_
    refine kw_iconst (v := 4) (pc := 1) dL_act_1 (by decide) ?_
    refine kw_ishr (pc := 2) dL_act_2 ?_
    refine kw_bipush (v := 6) (pc := 3) dL_act_3 (by decide) ?_
    refine kw_callSr (pc := 5) dL_act_5 lL_73 (hL_low (x >>> ((4 : Int32) &&& 31)) 6 (by decide)) rfl rfl ⟨by decide, by decide, Nat.le_of_ble_eq_true rfl⟩ ?_
    refine kw_istore_n (pc := 8) dL_act_8 (by decide) rfl ?_
    refine kW.locs (L' := [(0, _), (1, _), (2, _), (3, _)]) ?_ ⟨rfl, rfl, rfl, rfl, trivial⟩
    refine kw_iload_n (pc := 9) dL_act_9 rfl ?_
    refine kw_bipush (v := 14) (pc := 10) dL_act_10 (by decide) ?_
    refine kw_callSr (pc := 12) dL_act_12 lL_73 (hl w) rfl rfl ⟨by decide, by decide, Nat.le_of_ble_eq_true rfl⟩ ?_
    refine kw_tableOut (tgt := 236) (pc := 15) dL_act_15 (by decide) (by decide) ?_
    refine kw_iload_n (pc := 236) dL_act_236 rfl ?_
    refine kw_iconst (v := 4) (pc := 237) dL_act_237 (by decide) ?_
    refine kw_callSr (pc := 238) dL_act_238 lL_73 (hL_low y 4 (by decide)) rfl rfl ⟨by decide, by decide, Nat.le_of_ble_eq_true rfl⟩ ?_
    refine kw_istore (pc := 241) dL_act_241 (by decide) rfl ?_
    refine kW.locs (L' := [(0, _), (2, _), (4, _)]) ?_ ⟨rfl, rfl, rfl, trivial⟩
    refine kw_aload_n (pc := 243) dL_act_243 rfl ?_
    refine kw_iload (pc := 244) dL_act_244 rfl ?_
    refine kw_iload (pc := 246) dL_act_246 rfl ?_
    refine kw_iconst (v := 1) (pc := 248) dL_act_248 (by decide) ?_
    refine kw_icmp_ne (tgt := 267) (pc := 249) dL_act_249 (by decide) (fun h249 => ?_) (fun h249 => ?_)
    · refine kw_iload_n (pc := 267) dL_act_267 rfl ?_
      refine kw_iconst (v := 2) (pc := 268) dL_act_268 (by decide) ?_
      refine kw_ishr (pc := 269) dL_act_269 ?_
      refine kw_bipush (v := 21) (pc := 270) dL_act_270 (by decide) ?_
      refine kw_callSr (pc := 272) dL_act_272 lL_73 (hL_low (y >>> ((2 : Int32) &&& 31)) 21 (by decide)) rfl rfl ⟨by decide, by decide, Nat.le_of_ble_eq_true rfl⟩ ?_
      refine kw_callSg (pc := 275) dL_act_275 lL_96 (F w C) rfl rfl ⟨by decide, by decide, Nat.le_of_ble_eq_true rfl, Nat.le_refl _, Nat.le_refl _⟩ (fun w1 n1 C1 => ?_)
      exact kw_ireturn nlL_act (pc := 278) dL_act_278 rfl rfl ⟨rfl, C1⟩
    · exact absurd h249 hi
theorem act_ok (G : okG m s c) (hm : m < 100000) (x y : Int32) : opG mL_act 13 [.int x, .int y] m s q c := by
  obtain ⟨k, hk, ek⟩ := lwV_E x (x := 14) (n := 14) rfl (by decide) (by decide)
  match k, hk with
  | 0, _ => exact act_0 G hm x y ek
  | 1, _ => exact act_1 G hm x y ek
  | 2, _ => exact act_2 G hm x y ek
  | 3, _ => exact act_3 G hm x y ek
  | 4, _ => exact act_4 G hm x y ek
  | 5, _ => exact act_5 G hm x y ek
  | 6, _ => exact act_6 G hm x y ek
  | 7, _ => exact act_7 G hm x y ek
  | 8, _ => exact act_8 G hm x y ek
  | 9, _ => exact act_9 G hm x y ek
  | 10, _ => exact act_10 G hm x y ek
  | 11, _ => exact act_11 G hm x y ek
  | 12, _ => exact act_12 G hm x y ek
  | 13, _ => exact act_13 G hm x y ek
end AC
