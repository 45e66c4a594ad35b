set_option maxRecDepth 100000 in
set_option maxHeartbeats 4000000 in
theorem c_error {w0 : kM} {mo : Nat} {s : Nat → Int32} {sv : Int32} {kp bf : Nat → Int32} {ty th : Int32} {co ma : Nat → Int32} {sp : Int32}  {T : Nat} (hT : ty = nI T) (hT60 : T ≤ 60) (hB : ∀ j, j < T → 33 ≤ bf j ∧ bf j ≤ 126) : kCtrW mX6_error 4 [.ref mo] (mM w0 mo s sv kp bf ty th co ma sp) (some (.int (erV bf T))) (fun w' => ∃ s' sp', w' = (mM w0 mo s' sv kp bf ty th co ma sp') ∧ agr s s') := by
  refine kCtrW.of pl6 nlX6_error rfl (Nat.le_of_ble_eq_true rfl) (fun n => ?_)
  have loop : ∀ (m i : Nat) (v s1 : Nat → Int32) (sp1 : Int32), m = T - i → i ≤ T → sp1 = nI i → v 0 = 0 → agr s s1 → al bf T (0, z0) 0 = al bf T (0, v) i → kW (0, fun _ => 0) mX6_error 4 (fun o w' n' => o = .inl (some (.int (erV bf T))) ∧ (fun w' => ∃ s' sp', w' = (mM w0 mo s' sv kp bf ty th co ma sp') ∧ agr s s') w' ∧ n' = n) 0 0 n (mM w0 mo s1 sv kp bf ty th co ma sp1) 5 [(0, .ref mo)] [] := by
    intro m
    induction m using Nat.strongRecOn with
    | _ m ih =>
      intro i v s1 sp1 hm hiT hi1 hv ha1 hal
      refine kw_aload_n (pc := 5) dX6_error_5 rfl ?_
      have e1 := al_go (bf := bf) (T := T) _ (0, v) i rfl
      have e2 := go_le (bf := bf) (T := T) (st := (0, v)) hiT
      have e3 := go_ne (bf := bf) (T := T) (v := v) (i := i)
      refine kw_callVw1 (pc := 6) dX6_error_6 lX6_152 (c_readsParcel hT hT60 hi1 hiT hv hB) mM_0 rfl rfl rfl ⟨by decide, by decide, Nat.le_of_ble_eq_true rfl⟩ (fun w1 hw1 => ?_)
      obtain ⟨s2, rfl, ha2, h6⟩ := hw1
      generalize go bf T (0, v) i = r at h6 e1 e2 e3 ⊢
      obtain ⟨j, p, v2⟩ := r
      dsimp only at h6 e1 e2 e3 ⊢
      refine kw_if_eq (tgt := 39) (pc := 9) dX6_error_9 (by decide) (fun h9 => ?_) (fun h9 => ?_)
      · have hp : ¬ p = 6 := b2i_0.mp h9
        have e5 := e1.2.resolve_left hp
        rw [e5] at hal
        refine kw_aload_n (pc := 39) dX6_error_39 rfl ?_
        refine kw_getfield (pc := 40) kfw dX6_error_40 fX6_138 mM_0 rfl ?_
        exact kw_ireturn nlX6_error (pc := 43) dX6_error_43 rfl rfl ⟨kv_eq (by unfold erV; rw [if_neg (fun h => hp (by have h2 : (al bf T (0, z0) 0).2.1 = 6 := h.2; rw [hal] at h2; exact h2)), hal]), ⟨_, _, rfl, ha1.tr ha2⟩, rfl⟩
      · have hp : p = 6 := Decidable.not_not.mp (mt b2i_0.mpr h9)
        subst hp
        have e4 := e3 rfl hiT
        rw [e1.1] at hal
        refine kw_aload_n (pc := 12) dX6_error_12 rfl ?_
        refine kw_getfield (pc := 13) kfw dX6_error_13 fX6_138 mM_0 rfl ?_
        refine kw_aload_n (pc := 16) dX6_error_16 rfl ?_
        refine kw_getfield (pc := 17) kfw dX6_error_17 fX6_135 mM_0 rfl ?_
        refine kw_icmp_ne (tgt := 25) (pc := 20) dX6_error_20 (by decide) (fun h20 => ?_) (fun h20 => ?_)
        · have h20 := mt (kEqI (a := j) (b := T) (by omega) (by omega) rfl hT).mpr h20
          refine kw_aload_n (pc := 25) dX6_error_25 rfl ?_
          refine kw_bipush (v := 59) (pc := 26) dX6_error_26 (by decide) ?_
          by_cases hs28 : hereF bf T j 59 59
          · refine kw_callVw1 (pc := 28) dX6_error_28 lX6_145 (c_takesT (i := j) hT hT60 rfl (by omega) hs28) mM_0 rfl rfl rfl ⟨by decide, by decide, Nat.le_of_ble_eq_true rfl⟩ (fun w1 hw1 => ?_)
            have hw1 : w1 = _ := hw1
            subst hw1
            refine kw_if_ne (tgt := 5) (pc := 31) dX6_error_31 (by decide) (fun h31 => ?_) (fun h31 => ?_)
            · have hcc : bf j = 59 := Int32.le_antisymm hs28.2.2 hs28.2.1
              exact ih (T - (j + 1)) (by omega) (j + 1) _ s2 _ rfl hs28.1 rfl (kuf_eq v2 0 0) (ha1.tr ha2) (by rw [hal]; exact al_one hs28.1 (stp_6 hcc))
            · exact absurd h31 (by decide)
          · refine kw_callVw1 (pc := 28) dX6_error_28 lX6_145 (c_takesF (i := j) hT hT60 rfl (by omega) hs28) mM_0 rfl rfl rfl ⟨by decide, by decide, Nat.le_of_ble_eq_true rfl⟩ (fun w1 hw1 => ?_)
            have hw1 : w1 = _ := hw1
            subst hw1
            refine kw_if_ne (tgt := 5) (pc := 31) dX6_error_31 (by decide) (fun h31 => ?_) (fun h31 => ?_)
            · exact absurd (by decide) h31
            · refine kw_aload_n (pc := 34) dX6_error_34 rfl ?_
              refine kw_getfield (pc := 35) kfw dX6_error_35 fX6_138 mM_0 rfl ?_
              exact kw_ireturn nlX6_error (pc := 38) dX6_error_38 rfl rfl ⟨kv_eq (by rw [al_no (stp_6no (fun e => hs28 ⟨by omega, by rw [e]; exact ⟨Int32.le_refl _, Int32.le_refl _⟩⟩))] at hal; unfold erV; rw [if_neg (fun h => h20 (by have h2 : (al bf T (0, z0) 0).1 = T := h.1; rw [hal] at h2; exact h2)), hal]), ⟨_, _, rfl, ha1.tr ha2⟩, rfl⟩
        · have h20 := (kEqI (a := j) (b := T) (by omega) (by omega) rfl hT).mp h20
          refine kw_iconst (v := -1) (pc := 23) dX6_error_23 (by decide) ?_
          exact kw_ireturn nlX6_error (pc := 24) dX6_error_24 rfl rfl ⟨kv_eq (by rw [al_end (bf := bf) (T := T) (i := j) (st := (6, v2)) (by omega)] at hal; unfold erV; rw [if_pos (show (al bf T (0, z0) 0).1 = T ∧ (al bf T (0, z0) 0).2.1 = 6 by rw [hal]; exact ⟨h20, rfl⟩)]), ⟨_, _, rfl, ha1.tr ha2⟩, rfl⟩
  refine kw_aload_n (pc := 0) dX6_error_0 rfl ?_
  refine kw_iconst (v := 0) (pc := 1) dX6_error_1 (by decide) ?_
  refine kw_putfield (pc := 2) kfw dX6_error_2 fX6_138 mM_0 (fun _ _ => rfl) (fun _ _ => rfl) (kW.eq mMf_8 rfl ?_)
  exact loop (T - 0) 0 z0 s _ rfl (Nat.zero_le _) rfl rfl agr.rf rfl
theorem erV_ne {bf : Nat → Int32} {T : Nat} (hT60 : T ≤ 60) : erV bf T = -1 ↔ tells bf T := by
  unfold erV
  by_cases h : tells bf T
  · rw [if_pos h]; exact ⟨fun _ => h, fun _ => rfl⟩
  · rw [if_neg h]
    have := al_le (bf := bf) (st := (0, z0)) (Nat.zero_le T)
    exact ⟨fun e => absurd e (oI_ne (by omega)), fun e => absurd e h⟩
theorem erV_no {bf : Nat → Int32} {T : Nat} (h : ¬ tells bf T) : erV bf T = nI (al bf T (0, z0) 0).1 := if_neg h
set_option maxRecDepth 100000 in
set_option maxHeartbeats 4000000 in
theorem c_firstError {w0 : kM} {mo : Nat} {s : Nat → Int32} {sv : Int32} {kp bf : Nat → Int32} {ty th : Int32} {co ma : Nat → Int32} {sp : Int32}  {T : Nat} (hT : ty = nI T) (hT60 : T ≤ 60) (hB : ∀ j, j < T → 33 ≤ bf j ∧ bf j ≤ 126) : kCtrW mX6_firstError 5 [.ref mo] (mM w0 mo s sv kp bf ty th co ma sp) (some (.int (nI (al bf T (0, z0) 0).1))) (fun w' => mSt w0 mo s sv kp bf ty 0 w') := by
  refine kCtrW.of pl6 nlX6_firstError rfl (Nat.le_of_ble_eq_true rfl) (fun n => ?_)
  refine kw_aload_n (pc := 0) dX6_firstError_0 rfl ?_
  refine kw_iconst (v := 0) (pc := 1) dX6_firstError_1 (by decide) ?_
  refine kw_putfield (pc := 2) kfw dX6_firstError_2 fX6_27 mM_0 (fun _ _ => rfl) (fun _ _ => rfl) (kW.eq mMf_5 rfl ?_)
  refine kw_aload_n (pc := 5) dX6_firstError_5 rfl ?_
  refine kw_callVw1 (pc := 6) dX6_firstError_6 lX6_156 (c_error hT hT60 hB) mM_0 rfl rfl rfl ⟨by decide, by decide, Nat.le_of_ble_eq_true rfl⟩ (fun w1 hw1 => ?_)
  obtain ⟨s1, sp1, rfl, ha1⟩ := hw1
  refine kw_istore_n (pc := 9) dX6_firstError_9 (by decide) rfl ?_
  refine kw_iload_n (pc := 10) dX6_firstError_10 rfl ?_
  refine kw_iconst (v := -1) (pc := 11) dX6_firstError_11 (by decide) ?_
  refine kw_icmp_ne (tgt := 22) (pc := 12) dX6_firstError_12 (by decide) (fun h12 => ?_) (fun h12 => ?_)
  · refine kw_iload_n (pc := 22) dX6_firstError_22 rfl ?_
    exact kw_ireturn nlX6_firstError (pc := 23) dX6_firstError_23 rfl rfl ⟨kv_eq (by first | exact hT.trans (by rw [((erV_ne hT60).mp h12).1]) | exact erV_no (mt (erV_ne hT60).mpr h12)), ⟨_, _, _, _, rfl, ha1⟩, rfl⟩
  · refine kw_aload_n (pc := 15) dX6_firstError_15 rfl ?_
    refine kw_getfield (pc := 16) kfw dX6_firstError_16 fX6_135 mM_0 rfl ?_
    refine kw_goto (tgt := 23) (pc := 19) dX6_firstError_19 (by decide) ?_
    exact kw_ireturn nlX6_firstError (pc := 23) dX6_firstError_23 rfl rfl ⟨kv_eq (by first | exact hT.trans (by rw [((erV_ne hT60).mp h12).1]) | exact erV_no (mt (erV_ne hT60).mpr h12)), ⟨_, _, _, _, rfl, ha1⟩, rfl⟩
set_option maxRecDepth 100000 in
set_option maxHeartbeats 4000000 in
theorem c_runA {w0 : kM} {mo : Nat} {s : Nat → Int32} {sv : Int32} {kp bf : Nat → Int32} {ty th : Int32} {co ma : Nat → Int32} {sp : Int32}  {T : Nat} (hT : ty = nI T) (hT60 : T ≤ 60) (hB : ∀ j, j < T → 33 ≤ bf j ∧ bf j ≤ 126) (ht : ¬ tells bf T) : kCtrW mX6_run 5 [.ref mo] (mM w0 mo s sv kp bf ty th co ma sp) (some (.int 0)) (fun w' => mSt w0 mo s sv kp bf ty 1 w') := by
  refine kCtrW.of pl6 nlX6_run rfl (Nat.le_of_ble_eq_true rfl) (fun n => ?_)
  refine kw_aload_n (pc := 0) dX6_run_0 rfl ?_
  refine kw_aload_n (pc := 1) dX6_run_1 rfl ?_
  refine kw_callVw1 (pc := 2) dX6_run_2 lX6_156 (c_error hT hT60 hB) mM_0 rfl rfl rfl ⟨by decide, by decide, Nat.le_of_ble_eq_true rfl⟩ (fun w1 hw1 => ?_)
  obtain ⟨s1, sp1, rfl, ha1⟩ := hw1
  refine kw_iconst (v := -1) (pc := 5) dX6_run_5 (by decide) ?_
  refine kw_icmp_ne (tgt := 13) (pc := 6) dX6_run_6 (by decide) (fun h6 => ?_) (fun h6 => ?_)
  · refine kw_iconst (v := 0) (pc := 13) dX6_run_13 (by decide) ?_
    refine kw_iconst (v := 1) (pc := 14) dX6_run_14 (by decide) ?_
    refine kw_callVw1 (pc := 15) dX6_run_15 lX6_111 (c_goesA rfl) mM_0 rfl rfl rfl ⟨by decide, by decide, Nat.le_of_ble_eq_true rfl⟩ (fun w1 hw1 => ?_)
    have hw1 : w1 = _ := hw1
    subst hw1
    refine kw_if_ne (tgt := 23) (pc := 18) dX6_run_18 (by decide) (fun h18 => ?_) (fun h18 => ?_)
    · exact absurd (by decide) h18
    · refine kw_iconst (v := 0) (pc := 21) dX6_run_21 (by decide) ?_
      exact kw_ireturn nlX6_run (pc := 22) dX6_run_22 rfl rfl ⟨kv_eq rfl, ⟨_, _, _, _, rfl, ha1⟩, rfl⟩
  · exact absurd ((erV_ne hT60).mp h6) ht
theorem cpR_agr {s s1 : Nat → Int32} (h : agr s s1) {f t : Nat} (hf : f < 9) : agr (cpR s f t 75) (cpR s1 f t 75) := by
  intro i hi
  unfold cpR
  split
  · exact h _ (by omega)
  · exact h i hi
theorem shf_agr {s s1 : Nat → Int32} (h : agr s s1) : ∀ j, j ≤ 5 → agr (shf s j) (shf s1 j)
  | 0, _ => h
  | j + 1, hj => cpR_agr (shf_agr h j (by omega)) (by omega)
theorem svS_agr {s s1 : Nat → Int32} {q : Nat} (h : agr s s1) : agr (svS s q) (svS s1 q) := by
  unfold svS
  split
  · exact cpR_agr (shf_agr h 5 (by decide)) (by decide)
  · exact cpR_agr h (by decide)
set_option maxRecDepth 100000 in
set_option maxHeartbeats 4000000 in
theorem c_run {w0 : kM} {mo : Nat} {s : Nat → Int32} {sv : Int32} {kp bf : Nat → Int32} {ty th : Int32} {co ma : Nat → Int32} {sp : Int32}  {q : Nat} (hq : sv = nI q) (hq6 : q ≤ 6) {c : Nat} (hc : s 20 = nI c) (hc7 : c ≤ 7) {T : Nat} (hT : ty = nI T) (hT60 : T ≤ 60) (hB : ∀ j, j < T → 33 ≤ bf j ∧ bf j ≤ 126) (ht : tells bf T) {FIN : (Nat → Int32) × Nat} (hF : rnF bf T (T + 1) z0 0 (svS s q) c 0 = FIN) : kCtrW mX6_run 5 [.ref mo] (mM w0 mo s sv kp bf ty th co ma sp) (some (.int (nI FIN.2))) (fun w' => mSt w0 mo FIN.1 (nI (svN q)) kp bf 0 0 w') := by
  refine kCtrW.of pl6 nlX6_run rfl (Nat.le_of_ble_eq_true rfl) (fun n => ?_)
  have hcv : ∀ {c : Nat}, c ≤ 7 → (comeV c = -1 ↔ c = 7) := by
    intro c h
    unfold comeV
    by_cases e : c = 7
    · rw [if_pos e]; exact ⟨fun _ => e, fun _ => rfl⟩
    · rw [if_neg e]; exact ⟨fun z => absurd z (oI_ne (by omega)), fun z => absurd z e⟩
  have loop : ∀ (f i : Nat) (v s1 : Nat → Int32) (sp1 : Int32) (S : Nat → Int32) (c nn : Nat), T + 1 - i ≤ f → i ≤ T → sp1 = nI i → v 0 = 0 → agr S s1 → S 20 = nI c → c ≤ 7 → al bf T (0, z0) 0 = al bf T (0, v) i → rnF bf T f v i S c nn = FIN → kW (0, fun _ => 0) mX6_run 5 (fun o w' n' => o = .inl (some (.int (nI FIN.2))) ∧ (fun w' => mSt w0 mo FIN.1 (nI (svN q)) kp bf 0 0 w') w' ∧ n' = n) 0 0 n (mM w0 mo s1 (nI (svN q)) kp bf ty 0 co ma sp1) 36 [(0, .ref mo), (1, .int (nI nn)), (2, .int 1)] [] := by
    intro f
    induction f with
    | zero => intro i v s1 sp1 S c nn hf hiT; omega
    | succ f ih =>
    intro i v s1 sp1 S c nn hf hiT hi1 hv ha1 hc hc7 hal hF
    have hcv := hcv hc7
    refine kw_iload_n (pc := 36) dX6_run_36 rfl ?_
    refine kw_if_eq (tgt := 144) (pc := 37) dX6_run_37 (by decide) (fun h37 => ?_) (fun h37 => ?_)
    · exact absurd h37 (by decide)
    · refine kw_aload_n (pc := 40) dX6_run_40 rfl ?_
      have e1 := al_go (bf := bf) (T := T) _ (0, v) i rfl
      have e2 := go_le (bf := bf) (T := T) (st := (0, v)) hiT
      have e3 := go_ne (bf := bf) (T := T) (v := v) (i := i)
      refine kw_callVw1 (pc := 41) dX6_run_41 lX6_152 (c_readsParcel hT hT60 hi1 hiT hv hB) mM_0 rfl rfl rfl ⟨by decide, by decide, Nat.le_of_ble_eq_true rfl⟩ (fun w1 hw1 => ?_)
      obtain ⟨s2, rfl, ha2, h6⟩ := hw1
      unfold rnF at hF
      generalize go bf T (0, v) i = r at h6 e1 e2 e3 hF ⊢
      obtain ⟨j, p, v2⟩ := r
      dsimp only at h6 e1 e2 e3 hF ⊢
      have hp : p = 6 := by
        rcases e1.2 with h | h
        · exact h
        · have e9 := ht.2
          rw [hal, h] at e9
          exact e9
      subst hp
      have e4 := e3 rfl hiT
      rw [e1.1] at hal
      refine kw_istore_n (pc := 44) dX6_run_44 (by decide) rfl ?_
      refine kw_aload_n (pc := 45) dX6_run_45 rfl ?_
      refine kw_aload_n (pc := 46) dX6_run_46 rfl ?_
      refine kw_getfield (pc := 47) kfw dX6_run_47 fX6_7 mM_0 rfl ?_
      refine kw_sipush (v := 675) (pc := 50) dX6_run_50 (by decide) ?_
      refine kw_ialoadN (pc := 53) (i := 675) dX6_run_53 mM_1 (rfl : (675 : Int32) = nI 675) (by omega) (by decide) ?_
      refine kw_aload_n (pc := 54) dX6_run_54 rfl ?_
      refine kw_getfield (pc := 55) kfw dX6_run_55 fX6_7 mM_0 rfl ?_
      refine kw_sipush (v := 676) (pc := 58) dX6_run_58 (by decide) ?_
      refine kw_ialoadN (pc := 61) (i := 676) dX6_run_61 mM_1 (rfl : (676 : Int32) = nI 676) (by omega) (by decide) ?_
      refine kw_aload_n (pc := 62) dX6_run_62 rfl ?_
      refine kw_getfield (pc := 63) kfw dX6_run_63 fX6_7 mM_0 rfl ?_
      refine kw_sipush (v := 677) (pc := 66) dX6_run_66 (by decide) ?_
      refine kw_ialoadN (pc := 69) (i := 677) dX6_run_69 mM_1 (rfl : (677 : Int32) = nI 677) (by omega) (by decide) ?_
      refine kw_aload_n (pc := 70) dX6_run_70 rfl ?_
      refine kw_getfield (pc := 71) kfw dX6_run_71 fX6_7 mM_0 rfl ?_
      refine kw_sipush (v := 678) (pc := 74) dX6_run_74 (by decide) ?_
      refine kw_ialoadN (pc := 77) (i := 678) dX6_run_77 mM_1 (rfl : (678 : Int32) = nI 678) (by omega) (by decide) ?_
      refine kw_aload_n (pc := 78) dX6_run_78 rfl ?_
      refine kw_getfield (pc := 79) kfw dX6_run_79 fX6_7 mM_0 rfl ?_
      refine kw_sipush (v := 679) (pc := 82) dX6_run_82 (by decide) ?_
      refine kw_ialoadN (pc := 85) (i := 679) dX6_run_85 mM_1 (rfl : (679 : Int32) = nI 679) (by omega) (by decide) ?_
      refine kw_aload_n (pc := 86) dX6_run_86 rfl ?_
      refine kw_getfield (pc := 87) kfw dX6_run_87 fX6_7 mM_0 rfl ?_
      refine kw_sipush (v := 681) (pc := 90) dX6_run_90 (by decide) ?_
      refine kw_ialoadN (pc := 93) (i := 681) dX6_run_93 mM_1 (rfl : (681 : Int32) = nI 681) (by omega) (by decide) ?_
      have hc2 : s2 20 = nI c := ((ha1.tr ha2) 20 (by decide)).trans hc
      refine kw_callVw1 (pc := 94) dX6_run_94 lX6_115 (c_comes hc2 hc7 _ _ _ _ _ _) mM_0 rfl rfl rfl ⟨by decide, by decide, Nat.le_of_ble_eq_true rfl⟩ (fun w1 hw1 => ?_)
      have hw1 : w1 = _ := hw1
      subst hw1
      have e8 : agr (comeS S c (v2 0) (v2 1) (v2 2) (v2 3) (v2 4) (v2 5)) (comeS s2 c (s2 675) (s2 676) (s2 677) (s2 678) (s2 679) (s2 681)) := by
        obtain ⟨h6a, h6b, h6c⟩ := h6 rfl
        rw [show s2 675 = v2 0 from h6a 0 (by decide), show s2 676 = v2 1 from h6a 1 (by decide), show s2 677 = v2 2 from h6a 2 (by decide), show s2 678 = v2 3 from h6a 3 (by decide), h6b, h6c]
        exact comeS_agr (ha1.tr ha2)
      generalize comeS s2 c (s2 675) (s2 676) (s2 677) (s2 678) (s2 679) (s2 681) = s3 at e8 ⊢
      refine kw_iconst (v := -1) (pc := 97) dX6_run_97 (by decide) ?_
      refine kw_icmp_eq (tgt := 105) (pc := 98) dX6_run_98 (by decide) (fun h98 => ?_) (fun h98 => ?_)
      · rw [if_pos (hcv.mp h98)] at hF
        refine kw_iconst (v := 0) (pc := 105) dX6_run_105 (by decide) ?_
        refine kw_istore (pc := 106) dX6_run_106 (by decide) rfl ?_
        refine kw_iload_n (pc := 108) dX6_run_108 rfl ?_
        refine kw_iload (pc := 109) dX6_run_109 rfl ?_
        refine kw_if_eq (tgt := 118) (pc := 111) dX6_run_111 (by decide) (fun h111 => ?_) (fun h111 => ?_)
        · refine kw_iconst (v := 0) (pc := 118) dX6_run_118 (by decide) ?_
          refine kw_iadd (pc := 119) dX6_run_119 ?_
          refine kw_istore_n (pc := 120) dX6_run_120 (by decide) rfl ?_
          refine kw_iload (pc := 121) dX6_run_121 rfl ?_
          refine kw_if_eq (tgt := 139) (pc := 123) dX6_run_123 (by decide) (fun h123 => ?_) (fun h123 => ?_)
          · refine kw_iconst (v := 0) (pc := 139) dX6_run_139 (by decide) ?_
            refine kw_istore_n (pc := 140) dX6_run_140 (by decide) rfl ?_
            refine kw_goto (tgt := 36) (pc := 141) dX6_run_141 (by decide) ?_
            refine kw_iload_n (pc := 36) dX6_run_36 rfl ?_
            refine kw_if_eq (tgt := 144) (pc := 37) dX6_run_37 (by decide) (fun h37 => ?_) (fun h37 => ?_)
            · refine kw_aload_n (pc := 144) dX6_run_144 rfl ?_
              refine kw_iconst (v := 0) (pc := 145) dX6_run_145 (by decide) ?_
              refine kw_putfield (pc := 146) kfw dX6_run_146 fX6_135 mM_0 (fun _ _ => rfl) (fun _ _ => rfl) (kW.eq mMf_4 rfl ?_)
              refine kw_iload_n (pc := 149) dX6_run_149 rfl ?_
              exact kw_ireturn nlX6_run (pc := 150) dX6_run_150 rfl rfl ⟨kv_eq (by rw [(kA (a := nn) (b := 0) rfl (rfl : (0 : Int32) = nI 0)), ← hF]; rfl), ⟨s3, _, _, _, rfl, by rw [← hF]; exact e8⟩, rfl⟩
            · exact absurd (by decide) h37
          · exact absurd (by decide) h123
        · exact absurd (by decide) h111
      · refine kw_iconst (v := 1) (pc := 101) dX6_run_101 (by decide) ?_
        refine kw_goto (tgt := 106) (pc := 102) dX6_run_102 (by decide) ?_
        refine kw_istore (pc := 106) dX6_run_106 (by decide) rfl ?_
        refine kw_iload_n (pc := 108) dX6_run_108 rfl ?_
        refine kw_iload (pc := 109) dX6_run_109 rfl ?_
        refine kw_if_eq (tgt := 118) (pc := 111) dX6_run_111 (by decide) (fun h111 => ?_) (fun h111 => ?_)
        · exact absurd h111 (by decide)
        · refine kw_iconst (v := 1) (pc := 114) dX6_run_114 (by decide) ?_
          refine kw_goto (tgt := 119) (pc := 115) dX6_run_115 (by decide) ?_
          refine kw_iadd (pc := 119) dX6_run_119 ?_
          refine kw_istore_n (pc := 120) dX6_run_120 (by decide) rfl ?_
          refine kw_iload (pc := 121) dX6_run_121 rfl ?_
          refine kw_if_eq (tgt := 139) (pc := 123) dX6_run_123 (by decide) (fun h123 => ?_) (fun h123 => ?_)
          · exact absurd h123 (by decide)
          · refine kw_aload_n (pc := 126) dX6_run_126 rfl ?_
            refine kw_bipush (v := 59) (pc := 127) dX6_run_127 (by decide) ?_
            by_cases hs129 : hereF bf T j 59 59
            · refine kw_callVw1 (pc := 129) dX6_run_129 lX6_145 (c_takesT (i := j) hT hT60 rfl (by omega) hs129) mM_0 rfl rfl rfl ⟨by decide, by decide, Nat.le_of_ble_eq_true rfl⟩ (fun w1 hw1 => ?_)
              have hw1 : w1 = _ := hw1
              subst hw1
              refine kw_if_eq (tgt := 139) (pc := 132) dX6_run_132 (by decide) (fun h132 => ?_) (fun h132 => ?_)
              · exact absurd h132 (by decide)
              · refine kw_iconst (v := 1) (pc := 135) dX6_run_135 (by decide) ?_
                refine kw_goto (tgt := 140) (pc := 136) dX6_run_136 (by decide) ?_
                refine kw_istore_n (pc := 140) dX6_run_140 (by decide) rfl ?_
                refine kw_goto (tgt := 36) (pc := 141) dX6_run_141 (by decide) ?_
                have hcc : bf j = 59 := Int32.le_antisymm hs129.2.2 hs129.2.1
                rw [if_neg (mt hcv.mpr h98), if_pos hs129.1] at hF
                have hc8 : ¬ c = 7 := mt hcv.mpr h98
                exact kW.locs (ih (j + 1) _ s3 _ _ (c + 1) (nn + 1) (by omega) hs129.1 rfl (kuf_eq v2 0 0) e8 (comeS_20 hc8) (by omega) (by rw [hal]; exact al_one hs129.1 (stp_6 hcc)) hF) ⟨rfl, kgE rfl (kA (a := nn) (b := 1) rfl (rfl : (1 : Int32) = nI 1)), rfl, trivial⟩
            · refine kw_callVw1 (pc := 129) dX6_run_129 lX6_145 (c_takesF (i := j) hT hT60 rfl (by omega) hs129) mM_0 rfl rfl rfl ⟨by decide, by decide, Nat.le_of_ble_eq_true rfl⟩ (fun w1 hw1 => ?_)
              have hw1 : w1 = _ := hw1
              subst hw1
              have hjT : ¬ j < T := by
                intro q1
                rw [al_no (stp_6no (fun e => hs129 ⟨q1, by rw [e]; exact ⟨Int32.le_refl _, Int32.le_refl _⟩⟩))] at hal
                have := ht.1
                rw [hal] at this
                exact absurd this (Nat.ne_of_lt q1)
              rw [if_neg (mt hcv.mpr h98), if_neg hjT] at hF
              refine kw_if_eq (tgt := 139) (pc := 132) dX6_run_132 (by decide) (fun h132 => ?_) (fun h132 => ?_)
              · refine kw_iconst (v := 0) (pc := 139) dX6_run_139 (by decide) ?_
                refine kw_istore_n (pc := 140) dX6_run_140 (by decide) rfl ?_
                refine kw_goto (tgt := 36) (pc := 141) dX6_run_141 (by decide) ?_
                refine kw_iload_n (pc := 36) dX6_run_36 rfl ?_
                refine kw_if_eq (tgt := 144) (pc := 37) dX6_run_37 (by decide) (fun h37 => ?_) (fun h37 => ?_)
                · refine kw_aload_n (pc := 144) dX6_run_144 rfl ?_
                  refine kw_iconst (v := 0) (pc := 145) dX6_run_145 (by decide) ?_
                  refine kw_putfield (pc := 146) kfw dX6_run_146 fX6_135 mM_0 (fun _ _ => rfl) (fun _ _ => rfl) (kW.eq mMf_4 rfl ?_)
                  refine kw_iload_n (pc := 149) dX6_run_149 rfl ?_
                  exact kw_ireturn nlX6_run (pc := 150) dX6_run_150 rfl rfl ⟨kv_eq (by rw [(kA (a := nn) (b := 1) rfl (rfl : (1 : Int32) = nI 1)), ← hF]), ⟨s3, _, _, _, rfl, by rw [← hF]; exact e8⟩, rfl⟩
                · exact absurd (by decide) h37
              · exact absurd (by decide) h132
  refine kw_aload_n (pc := 0) dX6_run_0 rfl ?_
  refine kw_aload_n (pc := 1) dX6_run_1 rfl ?_
  refine kw_callVw1 (pc := 2) dX6_run_2 lX6_156 (c_error hT hT60 hB) mM_0 rfl rfl rfl ⟨by decide, by decide, Nat.le_of_ble_eq_true rfl⟩ (fun w1 hw1 => ?_)
  obtain ⟨s1, sp1, rfl, ha1⟩ := hw1
  refine kw_iconst (v := -1) (pc := 5) dX6_run_5 (by decide) ?_
  refine kw_icmp_ne (tgt := 13) (pc := 6) dX6_run_6 (by decide) (fun h6 => ?_) (fun h6 => ?_)
  · exact absurd ((erV_ne hT60).mpr ht) h6
  · refine kw_iconst (v := 1) (pc := 9) dX6_run_9 (by decide) ?_
    refine kw_goto (tgt := 14) (pc := 10) dX6_run_10 (by decide) ?_
    refine kw_iconst (v := 1) (pc := 14) dX6_run_14 (by decide) ?_
    refine kw_callVw1 (pc := 15) dX6_run_15 lX6_111 (c_goes1 (by decide) (by decide)) mM_0 rfl rfl rfl ⟨by decide, by decide, Nat.le_of_ble_eq_true rfl⟩ (fun w1 hw1 => ?_)
    have hw1 : w1 = _ := hw1
    subst hw1
    refine kw_if_ne (tgt := 23) (pc := 18) dX6_run_18 (by decide) (fun h18 => ?_) (fun h18 => ?_)
    · refine kw_aload_n (pc := 23) dX6_run_23 rfl ?_
      refine kw_callVw0 (pc := 24) dX6_run_24 lX6_38 (c_saves hq hq6) mM_0 rfl rfl rfl ⟨by decide, by decide, Nat.le_of_ble_eq_true rfl⟩ (fun w1 hw1 => ?_)
      have hw1 : w1 = _ := hw1
      subst hw1
      refine kw_aload_n (pc := 27) dX6_run_27 rfl ?_
      refine kw_iconst (v := 0) (pc := 28) dX6_run_28 (by decide) ?_
      refine kw_putfield (pc := 29) kfw dX6_run_29 fX6_138 mM_0 (fun _ _ => rfl) (fun _ _ => rfl) (kW.eq mMf_8 rfl ?_)
      refine kw_iconst (v := 0) (pc := 32) dX6_run_32 (by decide) ?_
      refine kw_istore_n (pc := 33) dX6_run_33 (by decide) rfl ?_
      refine kw_iconst (v := 1) (pc := 34) dX6_run_34 (by decide) ?_
      refine kw_istore_n (pc := 35) dX6_run_35 (by decide) rfl ?_
      exact kW.locs (loop (T + 1) 0 z0 _ _ _ c 0 (Nat.le_refl _) (Nat.zero_le _) rfl rfl (svS_agr ha1) ((svS_low (by decide)).trans hc) hc7 rfl hF) ⟨rfl, rfl, rfl, trivial⟩
    · exact absurd h18 (by decide)
