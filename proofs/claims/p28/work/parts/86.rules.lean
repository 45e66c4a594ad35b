/-! ===== more rows; the law's look at its script ===== -/
section K28
variable {X : Nat × (Nat → Int32)} {M : kMi} {dd : Nat} {Q : kQ} {rc rs n : Nat} {w : kM} {L : List (Nat × Value)} {st : List Value}
theorem kw_ldc {pc idx : Nat} {v : Int32} (d : decode M.2.1 pc = .ok (.ldc idx, 2)) (hw : Cond.constant M.1.cls idx v ∈ kTb) (k : kW X M dd Q rc rs n w (pc + 2) L (.int v :: st)) : kW X M dd Q rc rs n w pc L st := by
  intro G b p l e R s m args below meth c H locs cells slots ls Z hO hE hR hS hc hs hl
  obtain ⟨hx, hb, hml, hown, hts, -⟩ := id hO
  exact lv_ldc hx hb hown (hts _ (List.mem_cons_of_mem _ hw)) d (k G b p l e R s m args below meth c H locs cells slots ls Z hO hE hR hS hc hs hl)
theorem kw_irem {pc : Nat} {x y : Int32} (d : decode M.2.1 pc = .ok (.irem, 1)) (hne : ¬ y = 0) (k : kW X M dd Q rc rs n w (pc + 1) L (.int (x - x / y * y) :: st)) : kW X M dd Q rc rs n w pc L (.int y :: .int x :: st) := by
  intro G b p l e R s m args below meth c H locs cells slots ls Z hO hE hR hS hc hs hl
  exact lv_irem hO.1 hO.2.1 d hne (k G b p l e R s m args below meth c H locs cells slots ls Z hO hE hR hS hc hs hl)
/-- a static method that makes nothing -/
theorem kw_callSw1 {My : kMi} {dy pc idx k : Nat} {As rest st0 : List Value} {v : Value} {P : kM → Prop} (d : decode M.2.1 pc = .ok (.invokestatic idx, 3)) (hl0 : kLS M.1.cls idx My k) (hC : kCtrW My dy As w (some v) P) (hst : st0 = As.reverse ++ rest) (hk : As.length = k)
    (hroom : dy + 1 ≤ dd ∧ My.2.2.1 ≤ 40 ∧ (rest.map fun v => v.category).sum ≤ 8)
    (kk : ∀ w', P w' → kW X M dd Q rc rs n w' (pc + 3) L (v :: rest)) : kW X M dd Q rc rs n w pc L st0 := by
  refine kw_callS d hl0 (hC n) hst hk ⟨hroom.1, hroom.2.1, hroom.2.2, Nat.zero_le _, Nat.zero_le _⟩ (fun E w' n' h => by cases h.1) (fun v' w' n' h => ?_)
  obtain ⟨h1, h2, rfl⟩ := h
  cases h1
  exact kk w' h2
/-- .. that may make mc cells of ms slots -/
def kCtrG (M : kMi) (d mc ms : Nat) (As : List Value) (w : kM) (v : Value) (P : kM → Prop) : Prop := ∀ n : Nat, kCtr M d mc ms As w n (fun o w' _ => o = .inl (some v) ∧ P w')
theorem kCtrG.of {M : kMi} {d mc ms : Nat} {As : List Value} {w : kM} {v : Value} {P : kM → Prop} (hy : plainName M.1.cls = true) (hn : M.1.name ≠ "law") (hh : M.2.2.2.2 = []) (hl : (lg_sl As).length ≤ M.2.2.1) (h : ∀ n, kW (0, fun _ => 0) M d (fun o w' _ => o = .inl (some v) ∧ P w') mc ms n w 0 (lv_args 0 As) []) : kCtrG M d mc ms As w v P := fun n => kCtr.of hy hn hh hl (h n)
theorem kCtrG.ofH {M : kMi} {d mc ms : Nat} {As : List Value} {w : kM} {v : Value} {P : kM → Prop} (hy : plainName M.1.cls = true) (hn : M.1.name ≠ "law") (hh : M.2.2.2.2 ≠ []) (hl : (lg_sl As).length ≤ M.2.2.1) (h : ∀ n, kW (0, fun _ => 0) M d (fun o w' _ => o = .inl (some v) ∧ P w') mc ms n w 0 (lv_args 0 As) []) : kCtrG M d mc ms As w v P := fun n => kCtr.ofH hy hn hh hl (h n)
theorem kCtrW.ofH {M : kMi} {d : Nat} {As : List Value} {w : kM} {v : Option Value} {P : kM → Prop} (hy : plainName M.1.cls = true) (hn : M.1.name ≠ "law") (hh : M.2.2.2.2 ≠ []) (hl : (lg_sl As).length ≤ M.2.2.1) (h : ∀ n, kW (0, fun _ => 0) M d (fun o w' n' => o = .inl v ∧ P w' ∧ n' = n) 0 0 n w 0 (lv_args 0 As) []) : kCtrW M d As w v P := fun n => kCtr.ofH hy hn hh hl (h n)
theorem kw_callSg {My : kMi} {dy mc ms pc idx k : Nat} {As rest st0 : List Value} {v : Value} {P : kM → Prop} (d : decode M.2.1 pc = .ok (.invokestatic idx, 3)) (hl0 : kLS M.1.cls idx My k) (hC : kCtrG My dy mc ms As w v P) (hst : st0 = As.reverse ++ rest) (hk : As.length = k)
    (hroom : dy + 1 ≤ dd ∧ My.2.2.1 ≤ 40 ∧ (rest.map fun v => v.category).sum ≤ 8 ∧ mc ≤ rc ∧ ms ≤ rs)
    (kk : ∀ w' n', P w' → kW X M dd Q (rc - mc) (rs - ms) n' w' (pc + 3) L (v :: rest)) : kW X M dd Q rc rs n w pc L st0 := by
  refine kw_callS d hl0 (hC n) hst hk hroom (fun E w' n' h => by cases h.1) (fun v' w' n' h => ?_)
  obtain ⟨h1, h2⟩ := h
  cases h1
  exact kk w' n' h2
theorem kCtrW.toG {My : kMi} {d mc ms : Nat} {As : List Value} {v : Value} {P : kM → Prop} (h : kCtrW My d As w (some v) P) : kCtrG My d 0 0 As w v P := by
  intro n l hl G b p e h1 h2 h3 s m args below hf ha hPc hK
  obtain ⟨k, o, a1, a2, a3, hq⟩ := h n l hl G b p e h1 h2 h3 s m args below hf ha hPc hK
  refine ⟨k, o, a1, a2, a3, ?_⟩
  rcases hq with ⟨⟨⟨v', w', n', q1, ⟨q2, q3, q4⟩, q5⟩, q6⟩, q7⟩ | ⟨q, q1, E, ce, L', ⟨⟨w', n', ⟨q2, _⟩, _⟩, _⟩, _⟩
  · exact Or.inl ⟨⟨⟨v', w', n', q1, ⟨q2, q3⟩, q5⟩, q6⟩, q7⟩
  · cases q2
end K28
/-! the law's 'at' reads the script -/
def kPcA (X : Nat × (Nat → Int32)) (G : kG) (b : Nat) (As : List Value) (w : kM) (n : Nat) : Array Value → State → Prop := va_Pc (As.map (kcv G b)) (fun U => (kRp G b n w U.heap ∧ kK G U ∧ kSt G b U U.heap) ∧ va_X (G.2.2.1 9) X.1 X.2 U U.heap ∧ G.2.2.1 9 < U.heap.size ∧ ¬ b ≤ G.2.2.1 9)
theorem kPcA_blind (X : Nat × (Nat → Int32)) (G : kG) (b : Nat) (As : List Value) (w : kM) (n : Nat) : FrameBlind (kPcA X G b As w n) := by
  intro a U g mk h
  obtain ⟨h1, ⟨h2, h3, h4⟩, h5, h6, h7⟩ := h
  exact ⟨h1, ⟨h2, kK.warm (s := U) (U := U.calling g mk a) (State.WarmedH.refl U) h3, kSt.moved (u := U) (U := U.calling g mk a) (Vm.Alike.refl U.vm) h4⟩, va_X.moved (u := U) (U := U.calling g mk a) (Vm.Alike.refl U.vm) h5, h6, h7⟩
def kCtrA (X : Nat × (Nat → Int32)) (M : kMi) (d : Nat) (As : List Value) (w : kM) (v : Int32) : Prop := ∀ (n : Nat) (l : Launch), l.stackTraces = false → ∀ (G : kG) (b : Nat), vx_Met l M.1 (kws M) (kRm d 0 0) (kPcA X G b As w n) (kQc G b (fun o w' n' => o = .inl (some (.int v)) ∧ w' = w ∧ n' = n)) (kXC G b (fun o w' n' => o = .inl (some (.int v)) ∧ w' = w ∧ n' = n)) 0 0 (fun q => b ≤ q)
theorem kCtrA.of {X : Nat × (Nat → Int32)} {M : kMi} {d : Nat} {As : List Value} {w : kM} {v : Int32} (hy : plainName M.1.cls = true) (hn : M.1.name ≠ "law") (hh : M.2.2.2.2 = []) (hl : (lg_sl As).length ≤ M.2.2.1)
    (h : ∀ n, kW (X.1 + 1, X.2) M d (fun o w' n' => o = .inl (some (.int v)) ∧ w' = w ∧ n' = n) 0 0 n w 0 (lv_args 0 As) []) : kCtrA X M d As w v := by
  intro n l hst G b
  have hcw : kcw M = .code M.1 M.2.1 M.2.2.1 M.2.2.2.1 := by unfold kcw; rw [hh]
  refine vx_ofW (cc := M.2.1) (maxL := M.2.2.1) (ret := M.2.2.2.1) (ws' := kTb) hy (by unfold kws; rw [hcw]) ?_
  intro p e s m args below meth c s₁ B hml ht hv
  obtain ⟨rfl, ⟨hR, hK, hS⟩, hX⟩ := hv
  have hts := atoms_spec (ws := kws M) B.pre
  have htab : c.exceptionTable.toList = tableOf M.2.2.2.2 := by
    rw [hh]
    cases hc : c.exceptionTable.toList with
    | nil => rfl
    | cons x t => exact (ht x (by rw [hc]; exact List.mem_cons_self)).elim
  have hl1 := lv_entry (As.map (kcv G b)) (n := M.2.2.1) (by rw [k_sl]; exact hl)
  rw [k_args] at hl1
  rw [lg_entry_eq]
  exact h n G b p l e (kRm d 0 0) s m _ below meth c s.heap [] 0 0 _ _
    ⟨B.exec, B.bytes, hml, findClass_of_methodNamed B.named, hts, B.returns, B.notSynchronized, (name_of_methodNamed B.named B.method).1, hst, hK, hS, Nat.le_refl _, Nat.le_refl _, by rw [hR.1]; exact Nat.le_add_right _ _, fun _ => htab⟩
    (Or.inl ⟨hn, fun _ => hX, rfl⟩) hR va_S.rf (by rw [Nat.zero_add]; exact Nat.le_refl 0) (by rw [Nat.zero_add]; exact Nat.le_refl 0) hl1
section K29
variable {X : Nat × (Nat → Int32)} {M : kMi} {dd : Nat} {Q : kQ} {rc rs n : Nat} {w : kM} {L : List (Nat × Value)} {st : List Value}
theorem kw_sldA {pc i : Nat} {j : Int32} {N : Nat} {f : Nat → Int32} (hM : M.1.name ≠ "law") (d : decode M.2.1 pc = .ok (.iaload, 1)) (hj : j = nI i) (hi : i < N) (hN : N ≤ 3072) (kk : kW (N + 1, f) M dd Q rc rs n w (pc + 1) L (.int (f i) :: st)) : kW (N + 1, f) M dd Q rc rs n w pc L (.int j :: .retAddr 9 :: st) := by
  intro G b p l e R s m args below meth c H locs cells slots ls Z hO hE hR hS hc hs hl
  rcases id hE with ⟨-, h, -⟩ | ⟨h, -⟩
  · obtain ⟨h1, h2, h3⟩ := h (Nat.succ_ne_zero _)
    have hin : vp_in j N := by rw [hj]; exact vp_in_nI hi (by omega)
    refine va_sld (i := j) (L := N) (xs := f) hO.1 hO.2.1 h1 h2 h3 hS hin d ?_
    rw [kcl0 hj (by omega)]
    exact kk G b p l e R s m args below meth c H locs cells slots ls Z hO hE hR hS hc hs hl
  · exact absurd h hM
theorem kw_slenA {pc : Nat} {v : Int32} {N : Nat} {f : Nat → Int32} (hM : M.1.name ≠ "law") (d : decode M.2.1 pc = .ok (.arraylength, 1)) (hv : Int32.ofNat N = v) (kk : kW (N + 1, f) M dd Q rc rs n w (pc + 1) L (.int v :: st)) : kW (N + 1, f) M dd Q rc rs n w pc L (.retAddr 9 :: st) := by
  intro G b p l e R s m args below meth c H locs cells slots ls Z hO hE hR hS hc hs hl
  subst hv
  rcases id hE with ⟨-, h, -⟩ | ⟨h, -⟩
  · obtain ⟨h1, h2, h3⟩ := h (Nat.succ_ne_zero _)
    exact va_slen (L := N) (xs := f) hO.1 hO.2.1 h1 h2 h3 hS d (kk G b p l e R s m args below meth c H locs cells slots ls Z hO hE hR hS hc hs hl)
  · exact absurd h hM
theorem kw_callA {My : kMi} {dy pc idx k : Nat} {As rest st0 : List Value} {v : Int32} (hM : M.1.name = "law") (w6 : My.2.2.2.2 = []) (d : decode M.2.1 pc = .ok (.invokestatic idx, 3)) (hl0 : kLS M.1.cls idx My k) (hC : kCtrA X My dy As w v) (hst : st0 = As.reverse ++ rest) (hk : As.length = k)
    (hroom : dy + 1 ≤ dd ∧ My.2.2.1 ≤ 40 ∧ (rest.map fun v => v.category).sum ≤ 8)
    (kk : kW X M dd Q rc rs n w (pc + 3) L (.int v :: rest)) : kW X M dd Q rc rs n w pc L st0 := by
  subst hst
  intro G b p l e R s m args below meth c H locs cells slots ls Z hO hE hR hS hc hs hl
  obtain ⟨w1, w2, w4, w5, w7⟩ := hl0
  obtain ⟨r1, r2, r3⟩ := hroom
  obtain ⟨hx, hb, hml, hown, hts, -, -, -, hstt, hK, hSt, hdR, hlR, -, -⟩ := id hO
  rcases id hE with ⟨h, -⟩ | ⟨-, ⟨x1, x2, x3⟩, -⟩
  · exact absurd hM h
  have hG : GoodIn (kws M) (va_wsS M.1.cls idx My.1 (kws My)) := by
    intro z hz
    unfold va_wsS at hz
    rcases List.mem_append.mp hz with h | h
    · simp only [List.mem_cons, List.not_mem_nil, or_false] at h
      rcases h with rfl | rfl | rfl
      · exact kgood w1
      · exact kgood w2
      · exact kgood w4
    · exact kws_good w5 z h
  have hstk : List.map (kcv G b) (As.reverse ++ rest) = (As.map (kcv G b)).reverse ++ rest.map (kcv G b) := by rw [List.map_append, List.map_reverse]
  have hpre : ∀ (U : State), U.heap = H → s.WarmedH U.vm → va_X (G.2.2.1 9) X.1 X.2 U U.heap ∧ G.2.2.1 9 < U.heap.size ∧ ¬ b ≤ G.2.2.1 9 := fun U hU hW => by
    rw [hU]
    exact ⟨(x1.kept (hS.2.1 _ x2 x3)).moved hW.alike, Nat.lt_of_lt_of_le x2 hS.1, x3⟩
  exact kw_ofRun (Q' := fun o w' n' => o = .inl (some (.int v)) ∧ w' = w ∧ n' = n) (vx_runS (As := As.map (kcv G b)) (rest := rest.map (kcv G b)) ⟨hx, hb, hml, hown, hts⟩ (hC n l hstt G b) (va_cwS k hts hG (by unfold kws; rw [kcw_nil w6]) rfl rfl w7 ⟨by show dy + 1 ≤ R.frames; omega, by show 8 + (My.2.2.1 + 11) + 60 * dy ≤ R.locals; omega⟩) ⟨kPcA_blind X G b _ w n, fun U hU hW => ⟨rfl, kpre hO hR hS hU hW, hpre U hU hW⟩⟩ rfl (by rw [List.length_map]; exact hk) hl.1 hstk (lv_room (by rw [kcats]; exact r3)) d ⟨by omega, by omega⟩) hO hE hS hc hs hl (Nat.zero_le _) (Nat.zero_le _) (fun E w' n' h => by cases h.1) (fun v' w' n' h => by
    obtain ⟨h1, rfl, rfl⟩ := h
    cases h1
    exact kk)
end K29
