theorem oF_s {o f i : Nat} {s : Nat → Int32} {v : Int32} (hi : f + 65 = i) (h5 : 5 ≤ f) (h9 : f ≤ 9) : kuF (oF o s) f (.int v) = oF o (kuf s i v) := by
  subst hi
  funext j
  have e : f = 5 ∨ f = 6 ∨ f = 7 ∨ f = 8 ∨ f = 9 := by omega
  match j with
  | 0 => rcases e with rfl | rfl | rfl | rfl | rfl <;> rfl
  | 1 => rcases e with rfl | rfl | rfl | rfl | rfl <;> rfl
  | 2 => rcases e with rfl | rfl | rfl | rfl | rfl <;> rfl
  | 3 => rcases e with rfl | rfl | rfl | rfl | rfl <;> rfl
  | 4 => rcases e with rfl | rfl | rfl | rfl | rfl <;> rfl
  | 5 => rcases e with rfl | rfl | rfl | rfl | rfl <;> rfl
  | 6 => rcases e with rfl | rfl | rfl | rfl | rfl <;> rfl
  | 7 => rcases e with rfl | rfl | rfl | rfl | rfl <;> rfl
  | 8 => rcases e with rfl | rfl | rfl | rfl | rfl <;> rfl
  | 9 => rcases e with rfl | rfl | rfl | rfl | rfl <;> rfl
  | z + 10 =>
    show (if z + 10 = f then _ else oF o s (z + 10)) = _
    rw [if_neg (by omega)]
    rfl
/-- a count written -/
theorem off_w {w w1 : kM} {o : Nat} {s : Nat → Int32} {c : Nat} {σ : Nat → Nat} {f i : Nat} {v : Int32} (hw : w1 = kup w o (kO 1 (kuF (oF o s) f (.int v)))) (H : offP w o s c σ) (hi : f + 65 = i) (h5 : 5 ≤ f) (h9 : f ≤ 9) : offP w1 o (kuf s i v) c σ ∧ ∀ a, a ≠ o → w1 a = w a := by
  have h7 := H.c7
  have fr : ∀ a, a ≠ o → w1 a = w a := fun a h => by rw [hw]; exact kup_ne h
  refine ⟨⟨?_, (fr _ (by omega)).trans H.ps, (fr _ (by omega)).trans (H.pr.trans ?_), (fr _ (by omega)).trans (H.fa.trans ?_), (fr _ (by omega)).trans (H.se.trans ?_), H.lt, H.inj, fun k hk => ?_, fun k hk => ?_, ?_, h7⟩, fr⟩
  · rw [hw, kup_self, oF_s hi h5 h9]
  · exact congrArg (kI 0 12) (tr_eq fun j hj => (kuf_ne (by omega)).symm)
  · exact congrArg (kI 0 4) (tr_eq fun j hj => (kuf_ne (by omega)).symm)
  · exact congrArg (kI 0 4) (tr_eq fun j hj => (kuf_ne (by omega)).symm)
  · rw [fr _ (by omega), H.par k hk]
    exact congrArg (kO 2) (pF_eq fun j hj => (kuf_ne (j := 21 + 7 * k + j) (by omega)).symm)
  · obtain ⟨P, hP⟩ := H.any k hk
    exact ⟨P, (fr _ (by omega)).trans hP⟩
  · rw [kuf_ne (by omega)]
    exact H.sz
set_option maxRecDepth 100000 in
set_option maxHeartbeats 4000000 in
theorem c1_dispatch {w : kM} {o : Nat} {s : Nat → Int32} {c : Nat} {σ : Nat → Nat} (H : offP w o s c σ) {k : Nat} (hk : k < c) {z : Int32} (h4 : fineZ (pa s (21 + 7 * k))) (h5 : fineB z) : kCtrW mX1_dispatch 3 [.ref o, .int (nI k), .int z] w (some (.int (10 + pW s (pa s (21 + 7 * k)) z))) (fun w' => ∃ σ', offP w' o (sentS s k c (pW s (pa s (21 + 7 * k)) z)) (c - 1) σ' ∧ ∀ a, a ≠ o → a ≠ o + 1 → w' a = w a) := by
  refine kCtrW.of pl1 nlX1_dispatch rfl (Nat.le_of_ble_eq_true rfl) (fun n => ?_)
  have h7 := H.c7
  refine kw_aload_n (pc := 0) dX1_dispatch_0 rfl ?_
  refine kw_aload_n (pc := 1) dX1_dispatch_1 rfl ?_
  refine kw_getfield (pc := 2) kfw dX1_dispatch_2 fX1_11 H.ob rfl ?_
  refine kw_iload_n (pc := 5) dX1_dispatch_5 rfl ?_
  refine kw_aaloadT (pc := 6) (i := k) dX1_dispatch_6 H.ps rfl rfl (by omega) (by decide) rfl ?_
  refine kw_iload_n (pc := 7) dX1_dispatch_7 rfl ?_
  refine kw_callVr (pc := 8) dX1_dispatch_8 lX1_84 (c1_postage H (H.par k (by omega)) h4 h5) H.ob rfl rfl rfl ⟨by decide, by decide, Nat.le_of_ble_eq_true rfl⟩ ?_
  refine kw_istore_n (pc := 11) dX1_dispatch_11 (by decide) rfl ?_
  refine kw_aload_n (pc := 12) dX1_dispatch_12 rfl ?_
  refine kw_dup (pc := 13) dX1_dispatch_13 rfl ?_
  refine kw_getfield (pc := 14) kfw dX1_dispatch_14 fX1_45 H.ob rfl ?_
  refine kw_iload_n (pc := 17) dX1_dispatch_17 rfl ?_
  refine kw_iadd (pc := 18) dX1_dispatch_18 ?_
  refine kw_putfield (pc := 19) kfw dX1_dispatch_19 fX1_45 H.ob (fun _ _ => rfl) (fun _ _ => rfl) (kgen (fun w1 hw1 => ?_))
  obtain ⟨H1, F1⟩ := off_w (i := 70) hw1 H rfl (by decide) (by decide)
  clear hw1
  refine kw_aload_n (pc := 22) dX1_dispatch_22 rfl ?_
  refine kw_dup (pc := 23) dX1_dispatch_23 rfl ?_
  refine kw_getfield (pc := 24) kfw dX1_dispatch_24 fX1_48 H1.ob rfl ?_
  refine kw_iconst (v := 1) (pc := 27) dX1_dispatch_27 (by decide) ?_
  refine kw_iadd (pc := 28) dX1_dispatch_28 ?_
  refine kw_putfield (pc := 29) kfw dX1_dispatch_29 fX1_48 H1.ob (fun _ _ => rfl) (fun _ _ => rfl) (kgen (fun w2 hw2 => ?_))
  obtain ⟨H2, F2⟩ := off_w (i := 71) hw2 H1 rfl (by decide) (by decide)
  clear hw2
  refine kw_aload_n (pc := 32) dX1_dispatch_32 rfl ?_
  refine kw_iload_n (pc := 33) dX1_dispatch_33 rfl ?_
  refine kw_callVw0 (pc := 34) dX1_dispatch_34 lX1_87 (c1_remove H2 hk) H2.ob rfl rfl rfl ⟨by decide, by decide, Nat.le_of_ble_eq_true rfl⟩ (fun wz hz => ?_)
  obtain ⟨σ1, Hz, Fz⟩ := hz
  refine kw_bipush (v := 10) (pc := 37) dX1_dispatch_37 (by decide) ?_
  refine kw_iload_n (pc := 39) dX1_dispatch_39 rfl ?_
  refine kw_iadd (pc := 40) dX1_dispatch_40 ?_
  exact kw_ireturn nlX1_dispatch (pc := 41) dX1_dispatch_41 rfl rfl ⟨rfl, ⟨σ1, Hz, fun a q1 q2 => (Fz a q1 q2).trans ((F2 a q1).trans (F1 a q1))⟩, rfl⟩
theorem c1_reasonV {w : kM} {o : Nat} {s : Nat → Int32} {c : Nat} {σ : Nat → Nat} (H : offP w o s c σ) {p : Nat} {P : Nat → Int32} (hp : w p = kO 2 (pF P)) {v u : Int32} (e : v = P 6) (ht : pR s P = u) : kCtrR mX1_reasonAgainst 1 [.ref o, .ref p, .int v] w (.int u) := by
  subst ht
  exact c1_reasonO H hp e
theorem c1_dispatchE {w : kM} {o : Nat} {s : Nat → Int32} {c : Nat} {σ : Nat → Nat} (H : offP w o s c σ) {k : Nat} (hk : k < c) {z y : Int32} (e : z = y) (h4 : fineZ (pa s (21 + 7 * k))) (h5 : fineB y) : kCtrW mX1_dispatch 3 [.ref o, .int (nI k), .int z] w (some (.int (10 + pW s (pa s (21 + 7 * k)) y))) (fun w' => ∃ σ', offP w' o (sentS s k c (pW s (pa s (21 + 7 * k)) y)) (c - 1) σ' ∧ ∀ a, a ≠ o → a ≠ o + 1 → w' a = w a) := by
  subst e
  exact c1_dispatch H hk h4 h5
set_option maxRecDepth 100000 in
set_option maxHeartbeats 4000000 in
theorem c1_sendT {w : kM} {o : Nat} {s : Nat → Int32} {c : Nat} {σ : Nat → Nat} (H : offP w o s c σ) {k : Nat} (hk : k < c) (hf : fineP s (pa s (21 + 7 * k))) (ht : pR s (pa s (21 + 7 * k)) = 0) : kCtrW mX1_sendOff 4 [.ref o, .int (nI k)] w (some (.int (10 + pP s (pa s (21 + 7 * k))))) (fun w' => ∃ σ', offP w' o (sentS s k c (pP s (pa s (21 + 7 * k)))) (c - 1) σ' ∧ ∀ a, a ≠ o → a ≠ o + 1 → w' a = w a) := by
  refine kCtrW.of pl1 nlX1_sendOff rfl (Nat.le_of_ble_eq_true rfl) (fun n => ?_)
  have h7 := H.c7
  refine kw_aload_n (pc := 0) dX1_sendOff_0 rfl ?_
  refine kw_getfield (pc := 1) kfw dX1_sendOff_1 fX1_11 H.ob rfl ?_
  refine kw_iload_n (pc := 4) dX1_sendOff_4 rfl ?_
  refine kw_aaloadT (pc := 5) (i := k) dX1_sendOff_5 H.ps rfl rfl (by omega) (by decide) rfl ?_
  refine kw_astore_n (pc := 6) dX1_sendOff_6 (by decide) rfl ?_
  refine kw_aload_n (pc := 7) dX1_sendOff_7 rfl ?_
  refine kw_aload_n (pc := 8) dX1_sendOff_8 rfl ?_
  refine kw_aload_n (pc := 9) dX1_sendOff_9 rfl ?_
  refine kw_getfield (pc := 10) kfw dX1_sendOff_10 fX1_64 (H.par k (by omega)) rfl ?_
  refine kw_callVr (pc := 13) dX1_sendOff_13 lX1_67 (c1_reasonV H (H.par k (by omega)) rfl ht) H.ob rfl rfl rfl ⟨by decide, by decide, Nat.le_of_ble_eq_true rfl⟩ ?_
  refine kw_istore_n (pc := 16) dX1_sendOff_16 (by decide) rfl ?_
  refine kw_iload_n (pc := 17) dX1_sendOff_17 rfl ?_
  refine kw_if_eq (tgt := 33) (pc := 18) dX1_sendOff_18 (by decide) (fun h18 => ?_) (fun h18 => ?_)
  · refine kw_aload_n (pc := 33) dX1_sendOff_33 rfl ?_
    refine kw_iload_n (pc := 34) dX1_sendOff_34 rfl ?_
    refine kw_aload_n (pc := 35) dX1_sendOff_35 rfl ?_
    refine kw_aload_n (pc := 36) dX1_sendOff_36 rfl ?_
    refine kw_aload_n (pc := 37) dX1_sendOff_37 rfl ?_
    refine kw_getfield (pc := 38) kfw dX1_sendOff_38 fX1_64 (H.par k (by omega)) rfl ?_
    refine kw_callVr (pc := 41) dX1_sendOff_41 lX1_71 (c1_stringO H (H.par k (by omega)) rfl) H.ob rfl rfl rfl ⟨by decide, by decide, Nat.le_of_ble_eq_true rfl⟩ ?_
    refine kw_callVw1 (pc := 44) dX1_sendOff_44 lX1_74 (c1_dispatchE H hk rfl hf.1 hf.2) H.ob rfl rfl rfl ⟨by decide, by decide, Nat.le_of_ble_eq_true rfl⟩ (fun wz hz => ?_)
    obtain ⟨σ1, Hz, Fz⟩ := hz
    exact kw_ireturn nlX1_sendOff (pc := 47) dX1_sendOff_47 rfl rfl ⟨rfl, ⟨σ1, Hz, Fz⟩, rfl⟩
  · exact absurd (by decide) h18
set_option maxRecDepth 100000 in
set_option maxHeartbeats 4000000 in
theorem c1_sendR {w : kM} {o : Nat} {s : Nat → Int32} {c : Nat} {σ : Nat → Nat} (H : offP w o s c σ) {k : Nat} (hk : k < c) {v : Int32} (ht : pR s (pa s (21 + 7 * k)) = v) (hv : ¬ v = 0) : kCtrW mX1_sendOff 4 [.ref o, .int (nI k)] w (some (.int v)) (fun w' => ∃ σ', offP w' o (kuf s 74 (s 74 + 1)) c σ' ∧ ∀ a, a ≠ o → a ≠ o + 1 → w' a = w a) := by
  refine kCtrW.of pl1 nlX1_sendOff rfl (Nat.le_of_ble_eq_true rfl) (fun n => ?_)
  have h7 := H.c7
  refine kw_aload_n (pc := 0) dX1_sendOff_0 rfl ?_
  refine kw_getfield (pc := 1) kfw dX1_sendOff_1 fX1_11 H.ob rfl ?_
  refine kw_iload_n (pc := 4) dX1_sendOff_4 rfl ?_
  refine kw_aaloadT (pc := 5) (i := k) dX1_sendOff_5 H.ps rfl rfl (by omega) (by decide) rfl ?_
  refine kw_astore_n (pc := 6) dX1_sendOff_6 (by decide) rfl ?_
  refine kw_aload_n (pc := 7) dX1_sendOff_7 rfl ?_
  refine kw_aload_n (pc := 8) dX1_sendOff_8 rfl ?_
  refine kw_aload_n (pc := 9) dX1_sendOff_9 rfl ?_
  refine kw_getfield (pc := 10) kfw dX1_sendOff_10 fX1_64 (H.par k (by omega)) rfl ?_
  refine kw_callVr (pc := 13) dX1_sendOff_13 lX1_67 (c1_reasonV H (H.par k (by omega)) rfl ht) H.ob rfl rfl rfl ⟨by decide, by decide, Nat.le_of_ble_eq_true rfl⟩ ?_
  refine kw_istore_n (pc := 16) dX1_sendOff_16 (by decide) rfl ?_
  refine kw_iload_n (pc := 17) dX1_sendOff_17 rfl ?_
  refine kw_if_eq (tgt := 33) (pc := 18) dX1_sendOff_18 (by decide) (fun h18 => ?_) (fun h18 => ?_)
  · exact absurd h18 hv
  · refine kw_aload_n (pc := 21) dX1_sendOff_21 rfl ?_
    refine kw_dup (pc := 22) dX1_sendOff_22 rfl ?_
    refine kw_getfield (pc := 23) kfw dX1_sendOff_23 fX1_57 H.ob rfl ?_
    refine kw_iconst (v := 1) (pc := 26) dX1_sendOff_26 (by decide) ?_
    refine kw_iadd (pc := 27) dX1_sendOff_27 ?_
    refine kw_putfield (pc := 28) kfw dX1_sendOff_28 fX1_57 H.ob (fun _ _ => rfl) (fun _ _ => rfl) (kgen (fun w1 hw1 => ?_))
    obtain ⟨H1, F1⟩ := off_w (i := 74) hw1 H rfl (by decide) (by decide)
    clear hw1
    refine kw_iload_n (pc := 31) dX1_sendOff_31 rfl ?_
    exact kw_ireturn nlX1_sendOff (pc := 32) dX1_sendOff_32 rfl rfl ⟨rfl, ⟨σ, H1, fun a q1 _ => F1 a q1⟩, rfl⟩
theorem pW_k72 {s : Nat → Int32} {k c : Nat} {z x : Int32} (h4 : fineZ (pa s (21 + 7 * k))) (h5 : fineB z) (hk : k < c) (h7 : c ≤ 7) : pW (kuf s 72 x) (pa (kuf s 72 x) (21 + 7 * k)) z = pW s (pa s (21 + 7 * k)) z :=
  pW_congr72 (fun i hi => kuf_ne (by omega)) (fun i hi => kuf_ne (by omega)) h4 h5
set_option maxRecDepth 100000 in
set_option maxHeartbeats 4000000 in
theorem c1_dispT {w : kM} {o : Nat} {s : Nat → Int32} {c : Nat} {σ : Nat → Nat} (H : offP w o s c σ) {k : Nat} (hk : k < c) {z : Int32} (h4 : fineZ (pa s (21 + 7 * k))) (h5 : fineB z) (ht : pR s (pa s (21 + 7 * k)) = 0) (hA : (if 0 ≤ (z - pS s (pa s (21 + 7 * k))) then (z - pS s (pa s (21 + 7 * k))) else 0 - (z - pS s (pa s (21 + 7 * k)))) ≤ s 3) : kCtrW mX1_decideDispute 4 [.ref o, .int (nI k), .int z] w (some (.int (10 + pW s (pa s (21 + 7 * k)) z))) (fun w' => ∃ σ', offP w' o (sentS (kuf s 72 (s 72 + 1)) k c (pW s (pa s (21 + 7 * k)) z)) (c - 1) σ' ∧ ∀ a, a ≠ o → a ≠ o + 1 → w' a = w a) := by
  refine kCtrW.of pl1 nlX1_decideDispute rfl (Nat.le_of_ble_eq_true rfl) (fun n => ?_)
  have h7 := H.c7
  refine kw_aload_n (pc := 0) dX1_decideDispute_0 rfl ?_
  refine kw_getfield (pc := 1) kfw dX1_decideDispute_1 fX1_11 H.ob rfl ?_
  refine kw_iload_n (pc := 4) dX1_decideDispute_4 rfl ?_
  refine kw_aaloadT (pc := 5) (i := k) dX1_decideDispute_5 H.ps rfl rfl (by omega) (by decide) rfl ?_
  refine kw_astore_n (pc := 6) dX1_decideDispute_6 (by decide) rfl ?_
  refine kw_aload_n (pc := 7) dX1_decideDispute_7 rfl ?_
  refine kw_aload_n (pc := 8) dX1_decideDispute_8 rfl ?_
  refine kw_aload_n (pc := 9) dX1_decideDispute_9 rfl ?_
  refine kw_getfield (pc := 10) kfw dX1_decideDispute_10 fX1_64 (H.par k (by omega)) rfl ?_
  refine kw_callVr (pc := 13) dX1_decideDispute_13 lX1_67 (c1_reasonV H (H.par k (by omega)) rfl ht) H.ob rfl rfl rfl ⟨by decide, by decide, Nat.le_of_ble_eq_true rfl⟩ ?_
  refine kw_istore (pc := 16) dX1_decideDispute_16 (by decide) rfl ?_
  refine kw_iload (pc := 18) dX1_decideDispute_18 rfl ?_
  refine kw_if_eq (tgt := 36) (pc := 20) dX1_decideDispute_20 (by decide) (fun h20 => ?_) (fun h20 => ?_)
  · refine kw_iload_n (pc := 36) dX1_decideDispute_36 rfl ?_
    refine kw_aload_n (pc := 37) dX1_decideDispute_37 rfl ?_
    refine kw_aload_n (pc := 38) dX1_decideDispute_38 rfl ?_
    refine kw_aload_n (pc := 39) dX1_decideDispute_39 rfl ?_
    refine kw_getfield (pc := 40) kfw dX1_decideDispute_40 fX1_64 (H.par k (by omega)) rfl ?_
    refine kw_callVr (pc := 43) dX1_decideDispute_43 lX1_71 (c1_stringO H (H.par k (by omega)) rfl) H.ob rfl rfl rfl ⟨by decide, by decide, Nat.le_of_ble_eq_true rfl⟩ ?_
    refine kw_isub (pc := 46) dX1_decideDispute_46 ?_
    refine kw_mabs (pc := 47) dX1_decideDispute_47 lX1_78 (by decide) (Nat.le_of_ble_eq_true rfl) ?_
    refine kw_aload_n (pc := 50) dX1_decideDispute_50 rfl ?_
    refine kw_getfield (pc := 51) kfw dX1_decideDispute_51 fX1_24 H.ob rfl ?_
    refine kw_iconst (v := 3) (pc := 54) dX1_decideDispute_54 (by decide) ?_
    refine kw_ialoadT (pc := 55) (i := 3) dX1_decideDispute_55 H.se (rfl : (3 : Int32) = nI 3) (by omega) (by decide) ?_
    refine kw_icmp_le (tgt := 71) (pc := 56) dX1_decideDispute_56 (by decide) (fun h56 => ?_) (fun h56 => ?_)
    · refine kw_aload_n (pc := 71) dX1_decideDispute_71 rfl ?_
      refine kw_dup (pc := 72) dX1_decideDispute_72 rfl ?_
      refine kw_getfield (pc := 73) kfw dX1_decideDispute_73 fX1_51 H.ob rfl ?_
      refine kw_iconst (v := 1) (pc := 76) dX1_decideDispute_76 (by decide) ?_
      refine kw_iadd (pc := 77) dX1_decideDispute_77 ?_
      refine kw_putfield (pc := 78) kfw dX1_decideDispute_78 fX1_51 H.ob (fun _ _ => rfl) (fun _ _ => rfl) (kgen (fun w1 hw1 => ?_))
      obtain ⟨H1, F1⟩ := off_w (i := 72) hw1 H rfl (by decide) (by decide)
      clear hw1
      refine kw_aload_n (pc := 81) dX1_decideDispute_81 rfl ?_
      refine kw_iload_n (pc := 82) dX1_decideDispute_82 rfl ?_
      refine kw_iload_n (pc := 83) dX1_decideDispute_83 rfl ?_
      refine kw_callVw1 (pc := 84) dX1_decideDispute_84 lX1_74 (c1_dispatch H1 hk (fineZ_congr (P := (pa s (21 + 7 * k))) (fun j hj => kuf_ne (by omega)) h4) h5) H1.ob rfl rfl rfl ⟨by decide, by decide, Nat.le_of_ble_eq_true rfl⟩ (fun wz hz => ?_)
      obtain ⟨σ1, Hz, Fz⟩ := hz
      exact kw_ireturn nlX1_decideDispute (pc := 87) dX1_decideDispute_87 rfl rfl ⟨kv_eq (by rw [pW_k72 h4 h5 hk h7]), ⟨σ1, by rw [← pW_k72 h4 h5 hk h7]; exact Hz, fun a q1 q2 => (Fz a q1 q2).trans (F1 a q1)⟩, rfl⟩
    · exact absurd hA h56
  · exact absurd (by decide) h20
set_option maxRecDepth 100000 in
set_option maxHeartbeats 4000000 in
theorem c1_dispL {w : kM} {o : Nat} {s : Nat → Int32} {c : Nat} {σ : Nat → Nat} (H : offP w o s c σ) {k : Nat} (hk : k < c) {z : Int32} (ht : pR s (pa s (21 + 7 * k)) = 0) (hA : ¬ (if 0 ≤ (z - pS s (pa s (21 + 7 * k))) then (z - pS s (pa s (21 + 7 * k))) else 0 - (z - pS s (pa s (21 + 7 * k)))) ≤ s 3) : kCtrW mX1_decideDispute 4 [.ref o, .int (nI k), .int z] w (some (.int 4)) (fun w' => ∃ σ', offP w' o (kuf s 73 (s 73 + 1)) c σ' ∧ ∀ a, a ≠ o → a ≠ o + 1 → w' a = w a) := by
  refine kCtrW.of pl1 nlX1_decideDispute rfl (Nat.le_of_ble_eq_true rfl) (fun n => ?_)
  have h7 := H.c7
  refine kw_aload_n (pc := 0) dX1_decideDispute_0 rfl ?_
  refine kw_getfield (pc := 1) kfw dX1_decideDispute_1 fX1_11 H.ob rfl ?_
  refine kw_iload_n (pc := 4) dX1_decideDispute_4 rfl ?_
  refine kw_aaloadT (pc := 5) (i := k) dX1_decideDispute_5 H.ps rfl rfl (by omega) (by decide) rfl ?_
  refine kw_astore_n (pc := 6) dX1_decideDispute_6 (by decide) rfl ?_
  refine kw_aload_n (pc := 7) dX1_decideDispute_7 rfl ?_
  refine kw_aload_n (pc := 8) dX1_decideDispute_8 rfl ?_
  refine kw_aload_n (pc := 9) dX1_decideDispute_9 rfl ?_
  refine kw_getfield (pc := 10) kfw dX1_decideDispute_10 fX1_64 (H.par k (by omega)) rfl ?_
  refine kw_callVr (pc := 13) dX1_decideDispute_13 lX1_67 (c1_reasonV H (H.par k (by omega)) rfl ht) H.ob rfl rfl rfl ⟨by decide, by decide, Nat.le_of_ble_eq_true rfl⟩ ?_
  refine kw_istore (pc := 16) dX1_decideDispute_16 (by decide) rfl ?_
  refine kw_iload (pc := 18) dX1_decideDispute_18 rfl ?_
  refine kw_if_eq (tgt := 36) (pc := 20) dX1_decideDispute_20 (by decide) (fun h20 => ?_) (fun h20 => ?_)
  · refine kw_iload_n (pc := 36) dX1_decideDispute_36 rfl ?_
    refine kw_aload_n (pc := 37) dX1_decideDispute_37 rfl ?_
    refine kw_aload_n (pc := 38) dX1_decideDispute_38 rfl ?_
    refine kw_aload_n (pc := 39) dX1_decideDispute_39 rfl ?_
    refine kw_getfield (pc := 40) kfw dX1_decideDispute_40 fX1_64 (H.par k (by omega)) rfl ?_
    refine kw_callVr (pc := 43) dX1_decideDispute_43 lX1_71 (c1_stringO H (H.par k (by omega)) rfl) H.ob rfl rfl rfl ⟨by decide, by decide, Nat.le_of_ble_eq_true rfl⟩ ?_
    refine kw_isub (pc := 46) dX1_decideDispute_46 ?_
    refine kw_mabs (pc := 47) dX1_decideDispute_47 lX1_78 (by decide) (Nat.le_of_ble_eq_true rfl) ?_
    refine kw_aload_n (pc := 50) dX1_decideDispute_50 rfl ?_
    refine kw_getfield (pc := 51) kfw dX1_decideDispute_51 fX1_24 H.ob rfl ?_
    refine kw_iconst (v := 3) (pc := 54) dX1_decideDispute_54 (by decide) ?_
    refine kw_ialoadT (pc := 55) (i := 3) dX1_decideDispute_55 H.se (rfl : (3 : Int32) = nI 3) (by omega) (by decide) ?_
    refine kw_icmp_le (tgt := 71) (pc := 56) dX1_decideDispute_56 (by decide) (fun h56 => ?_) (fun h56 => ?_)
    · exact absurd h56 hA
    · refine kw_aload_n (pc := 59) dX1_decideDispute_59 rfl ?_
      refine kw_dup (pc := 60) dX1_decideDispute_60 rfl ?_
      refine kw_getfield (pc := 61) kfw dX1_decideDispute_61 fX1_54 H.ob rfl ?_
      refine kw_iconst (v := 1) (pc := 64) dX1_decideDispute_64 (by decide) ?_
      refine kw_iadd (pc := 65) dX1_decideDispute_65 ?_
      refine kw_putfield (pc := 66) kfw dX1_decideDispute_66 fX1_54 H.ob (fun _ _ => rfl) (fun _ _ => rfl) (kgen (fun w1 hw1 => ?_))
      obtain ⟨H1, F1⟩ := off_w (i := 73) hw1 H rfl (by decide) (by decide)
      clear hw1
      refine kw_iconst (v := 4) (pc := 69) dX1_decideDispute_69 (by decide) ?_
      exact kw_ireturn nlX1_decideDispute (pc := 70) dX1_decideDispute_70 rfl rfl ⟨rfl, ⟨σ, H1, fun a q1 _ => F1 a q1⟩, rfl⟩
  · exact absurd (by decide) h20
set_option maxRecDepth 100000 in
set_option maxHeartbeats 4000000 in
theorem c1_dispR {w : kM} {o : Nat} {s : Nat → Int32} {c : Nat} {σ : Nat → Nat} (H : offP w o s c σ) {k : Nat} (hk : k < c) {v z : Int32} (ht : pR s (pa s (21 + 7 * k)) = v) (hv : ¬ v = 0) : kCtrW mX1_decideDispute 4 [.ref o, .int (nI k), .int z] w (some (.int v)) (fun w' => ∃ σ', offP w' o (kuf s 74 (s 74 + 1)) c σ' ∧ ∀ a, a ≠ o → a ≠ o + 1 → w' a = w a) := by
  refine kCtrW.of pl1 nlX1_decideDispute rfl (Nat.le_of_ble_eq_true rfl) (fun n => ?_)
  have h7 := H.c7
  refine kw_aload_n (pc := 0) dX1_decideDispute_0 rfl ?_
  refine kw_getfield (pc := 1) kfw dX1_decideDispute_1 fX1_11 H.ob rfl ?_
  refine kw_iload_n (pc := 4) dX1_decideDispute_4 rfl ?_
  refine kw_aaloadT (pc := 5) (i := k) dX1_decideDispute_5 H.ps rfl rfl (by omega) (by decide) rfl ?_
  refine kw_astore_n (pc := 6) dX1_decideDispute_6 (by decide) rfl ?_
  refine kw_aload_n (pc := 7) dX1_decideDispute_7 rfl ?_
  refine kw_aload_n (pc := 8) dX1_decideDispute_8 rfl ?_
  refine kw_aload_n (pc := 9) dX1_decideDispute_9 rfl ?_
  refine kw_getfield (pc := 10) kfw dX1_decideDispute_10 fX1_64 (H.par k (by omega)) rfl ?_
  refine kw_callVr (pc := 13) dX1_decideDispute_13 lX1_67 (c1_reasonV H (H.par k (by omega)) rfl ht) H.ob rfl rfl rfl ⟨by decide, by decide, Nat.le_of_ble_eq_true rfl⟩ ?_
  refine kw_istore (pc := 16) dX1_decideDispute_16 (by decide) rfl ?_
  refine kw_iload (pc := 18) dX1_decideDispute_18 rfl ?_
  refine kw_if_eq (tgt := 36) (pc := 20) dX1_decideDispute_20 (by decide) (fun h20 => ?_) (fun h20 => ?_)
  · exact absurd h20 hv
  · refine kw_aload_n (pc := 23) dX1_decideDispute_23 rfl ?_
    refine kw_dup (pc := 24) dX1_decideDispute_24 rfl ?_
    refine kw_getfield (pc := 25) kfw dX1_decideDispute_25 fX1_57 H.ob rfl ?_
    refine kw_iconst (v := 1) (pc := 28) dX1_decideDispute_28 (by decide) ?_
    refine kw_iadd (pc := 29) dX1_decideDispute_29 ?_
    refine kw_putfield (pc := 30) kfw dX1_decideDispute_30 fX1_57 H.ob (fun _ _ => rfl) (fun _ _ => rfl) (kgen (fun w1 hw1 => ?_))
    obtain ⟨H1, F1⟩ := off_w (i := 74) hw1 H rfl (by decide) (by decide)
    clear hw1
    refine kw_iload (pc := 33) dX1_decideDispute_33 rfl ?_
    exact kw_ireturn nlX1_decideDispute (pc := 35) dX1_decideDispute_35 rfl rfl ⟨rfl, ⟨σ, H1, fun a q1 _ => F1 a q1⟩, rfl⟩
