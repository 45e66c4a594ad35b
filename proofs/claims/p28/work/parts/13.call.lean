section KCALL
variable {X : Nat × (Nat → Int32)} {M : kMi} {dd : Nat} {Q : kQ} {rc rs n : Nat} {w : kM} {L : List (Nat × Value)} {st : List Value}
/-- the method's class and its parameters, as a call's row asks of them -/
def kPl (y : MethodName) (k : Nat) : Prop := y.cls ≠ "java/lang/invoke/MethodHandle" ∧ y.cls ≠ "java/lang/invoke/VarHandle" ∧ (parseMethodDescriptor y.desc).map (fun d => d.parameters.length) = some k
/-- the words of a virtual call -/
def kLV (own : String) (idx : Nat) (My : kMi) (k : Nat) : Prop := Cond.methodLink own idx My.1 ∈ kTb ∧ Cond.instanceMethod My.1 ∈ kTb ∧ Cond.selects My.1.cls My.1 My.1 ∈ kTb ∧ Cond.initialized My.1.cls ∈ kTb ∧ kcw My ∈ kTb ∧ My.2.2.2.2 = [] ∧ kPl My.1 k
/-- .. of a static one, without and with a table -/
def kLS (own : String) (idx : Nat) (My : kMi) (k : Nat) : Prop := Cond.methodLink own idx My.1 ∈ kTb ∧ Cond.static My.1 ∈ kTb ∧ Cond.initialized My.1.cls ∈ kTb ∧ kcw My ∈ kTb ∧ kPl My.1 k
/-- .. of a constructor's, its link a word of the tables or a nest mate's -/
def kLI (own : String) (idx : Nat) (My : kMi) (k : Nat) : Prop := Cond.methodLink own idx My.1 ∈ kTb ∧ Cond.instanceMethod My.1 ∈ kTb ∧ Cond.initialized My.1.cls ∈ kTb ∧ kcw My ∈ kTb ∧ My.2.2.2.2 = [] ∧ My.2.2.2.1 = none ∧ My.1.name = "<init>" ∧ kPl My.1 k
def kLN (own : String) (idx : Nat) (My : kMi) (host : String) (k : Nat) : Prop := Cond.methodLinkNest own idx My.1 host ∈ kNest ∧ Cond.instanceMethod My.1 ∈ kTb ∧ Cond.initialized My.1.cls ∈ kTb ∧ kcw My ∈ kTb ∧ My.2.2.2.2 = [] ∧ My.2.2.2.1 = none ∧ My.1.name = "<init>" ∧ kPl My.1 k
theorem kgood {z : Cond} (h : z ∈ kTb) : z ∈ kws M ∧ ((z.onTables && z.keeps) = true ∨ ∃ ty, z = .arrayClass ty) := ⟨List.mem_cons_of_mem _ h, good_of_word (List.mem_filter.mp h).2⟩
theorem kcw_nil {My : kMi} (h : My.2.2.2.2 = []) : kcw My = .code My.1 My.2.1 My.2.2.1 My.2.2.2.1 := by unfold kcw; rw [h]
theorem kcw_cons {My : kMi} (h : My.2.2.2.2 ≠ []) : kcw My = .codeWith My.1 My.2.1 My.2.2.1 My.2.2.2.1 My.2.2.2.2 := by
  unfold kcw
  cases h2 : My.2.2.2.2 with
  | nil => exact absurd h2 h
  | cons x t => rfl
/-- what holds at a call's start in any state with this heap and warmer tables -/
theorem kpre {G : kG} {b : Nat} {p : Program} {l : Launch} {R : Room} {s : State} {m : MethodId} {args : Array Value} {meth : Method} {c : Code} {H : Heap} {locs : List Loc} (hO : kOK M G b dd p l R s m args meth c) (hR : kRp G b n w H) (hS : va_S (fun q => b ≤ q) s.heap H locs) {U : State} (hU : U.heap = H) (hW : s.WarmedH U.vm) : kRp G b n w U.heap ∧ kK G U ∧ kSt G b U U.heap := by
  have hK := hO.2.2.2.2.2.2.2.2.2.1
  have hSt := hO.2.2.2.2.2.2.2.2.2.2.1
  refine ⟨by rw [hU]; exact hR, hK.warm hW, ?_⟩
  rw [hU]
  exact (hSt.kept hS.2.1).moved hW.alike
theorem kstk (G : kG) (b : Nat) (v : Option Value) (rest : List Value) : (v.map (kcv G b)).toList ++ rest.map (kcv G b) = (v.toList ++ rest).map (kcv G b) := by cases v <;> simp
theorem kcats (G : kG) (b : Nat) (rest : List Value) : ((rest.map (kcv G b)).map fun v => v.category).sum = (rest.map fun v => v.category).sum := by
  rw [List.map_map]
  congr 1
  exact List.map_congr_left fun v _ => kcv_cat G b v
theorem kw_ofRun {Q' : kQ} {mc ms pc : Nat} {rest st0 : List Value} {a : Array Value} {G : kG} {b : Nat} {p : Program} {l : Launch} {e : Env} {R : Room} {s : State} {m : MethodId} {args : Array Value} {below : List Frame} {meth : Method} {c : Code} {H : Heap} {locs : List Loc} {cells slots : Nat} {ls : Array Slot} {Z : State → Prop}
    (hr : vx_Run p l e R s m args below meth c H locs cells slots mc ms (F0 m pc ls st0) (rest.map (kcv G b)) (kQc G b Q' a) (kXC G b Q') (fun q => b ≤ q))
    (hO : kOK M G b dd p l R s m args meth c) (hE : kEnd X M G b Q p l e R s m args below meth c Z) (hS : va_S (fun q => b ≤ q) s.heap H locs) (hc : cells + rc ≤ R.cells) (hs : slots + rs ≤ R.slots) (hl : lv_has ls M.2.2.1 (L.map fun q => (q.1, kcv G b q.2))) (hmc : mc ≤ rc) (hms : ms ≤ rs)
    (kx : ∀ (E : String) (w' : kM) (n' : Nat), Q' (.inr E) w' n' → kWX X M dd Q (rc - mc) (rs - ms) n' w' pc L E)
    (kk : ∀ (v : Option Value) (w' : kM) (n' : Nat), Q' (.inl v) w' n' → kW X M dd Q (rc - mc) (rs - ms) n' w' (pc + 3) L (v.toList ++ rest)) : W p l e R s m args below meth c H locs cells slots Z (F0 m pc ls st0) := by
  intro T hT X0
  rcases hr T hT X0 with ⟨v, st₀, t, T', L', h0, X', hL, e1, e2, ⟨⟨v', w', n', ho, hq, hRp'⟩, hF⟩, stp⟩ | ⟨q, st₀, t, T', L', E, ce, h0, X', hL, e1, e2, ⟨⟨w', n', hq, hRp'⟩, hF⟩, hce, hcv, hcl, stp⟩
  · cases ho
    obtain ⟨-, -, k3⟩ := vx_keep h0 e1 hS (fun q _ h => h) (fun q h => h) hL hF
    obtain ⟨t2, a1, b1⟩ := kk v' w' n' hq G b p l e R s m args below meth c T'.heap (locs ++ L') (cells + mc) (slots + ms) ls Z hO hE (by rw [e1]; exact hRp') k3 (by omega) (by omega) hl T' rfl X'
    rw [← kstk] at a1
    exact ⟨t2, stp t2 a1, b1⟩
  · obtain ⟨-, -, k3⟩ := vx_keep h0 e1 hS (fun q _ h => h) (fun q h => h) hL hF
    obtain ⟨t2, a1, b1⟩ := kx E w' n' hq G b p l e R s m args below meth c T'.heap (locs ++ L') (cells + mc) (slots + ms) ls Z q ce (rest.map (kcv G b)) hO hE (by rw [e1]; exact hRp') k3 (by omega) (by omega) hl (by rw [e1]; exact hce) hcv hcl T' rfl X'
    exact ⟨t2, stp.trans a1, b1⟩
theorem kw_callV {My : kMi} {dy mc ms pc idx o ci k : Nat} {F : Nat → Value} {As rest st0 : List Value} {Q' : kQ} (d : decode M.2.1 pc = .ok (.invokevirtual idx, 3)) (hl0 : kLV M.1.cls idx My k) (hC : kCtr My dy mc ms (.ref o :: As) w n Q') (ho : w o = kO ci F) (hci : (kcl[ci]?).map (fun r => r.1) = some My.1.cls) (hst : st0 = As.reverse ++ .ref o :: rest) (hk : As.length = k)
    (hroom : dy + 1 ≤ dd ∧ My.2.2.1 ≤ 40 ∧ (rest.map fun v => v.category).sum ≤ 8 ∧ mc ≤ rc ∧ ms ≤ rs)
    (kx : ∀ (E : String) (w' : kM) (n' : Nat), Q' (.inr E) w' n' → kWX X M dd Q (rc - mc) (rs - ms) n' w' pc L E)
    (kk : ∀ (v : Option Value) (w' : kM) (n' : Nat), Q' (.inl v) w' n' → kW X M dd Q (rc - mc) (rs - ms) n' w' (pc + 3) L (v.toList ++ rest)) : kW X M dd Q rc rs n w pc L st0 := by
  subst hst
  intro G b p l e R s m args below meth c H locs cells slots ls Z hO hE hR hS hc hs hl
  obtain ⟨w1, w2, w3, w4, w5, w6, w7⟩ := hl0
  obtain ⟨r1, r2, r3, r4, r5⟩ := hroom
  obtain ⟨hx, hb, hml, hown, hts, -, -, -, hstt, hK, hSt, hdR, hlR, -, -⟩ := id hO
  have hG : GoodIn (kws M) (wsV M.1.cls idx My.1.cls My.1 (kws My)) := by
    intro z hz
    unfold wsV at hz
    rcases List.mem_append.mp hz with h | h
    · simp only [List.mem_cons, List.not_mem_nil, or_false] at h
      rcases h with rfl | rfl | rfl | rfl
      · exact kgood w1
      · exact kgood w2
      · exact kgood w3
      · exact kgood w4
    · exact kws_good w5 z h
  have hA := hR.2.2 o
  rw [ho] at hA
  obtain ⟨r, h1, cell, q1, q2, q3, q4⟩ := hA
  have hcls : r.1 = My.1.cls := by rw [h1] at hci; exact Option.some.inj hci
  refine kw_ofRun (vx_runV (As := As.map (kcv G b)) (b := b + o) (rest := rest.map (kcv G b)) ⟨hx, hb, hml, hown, hts⟩ (hC l hstt G b) (cwV k hts hG (by unfold kws; rw [kcw_nil w6]) rfl rfl ⟨rfl, w7⟩ ⟨by show dy + 1 ≤ R.frames; omega, by show 8 + (My.2.2.1 + 11) + 60 * dy ≤ R.locals; omega⟩) ⟨kPc_blind G b _ w n, ⟨cell, q1, by rw [q3]; rfl, by rw [q2, ← hcls]; exact (hK.1 ci r h1).2.1⟩, fun U hU hW => ⟨rfl, kpre hO hR hS hU hW⟩⟩ rfl (by rw [List.length_map]; exact hk) hl.1 ?_ (lv_room (by rw [kcats]; exact r3)) d ⟨by omega, by omega⟩) hO hE hS hc hs hl r4 r5 kx kk
  show List.map (kcv G b) (As.reverse ++ .ref o :: rest) = _
  rw [List.map_append, List.map_reverse]
  rfl
theorem kw_callS {My : kMi} {dy mc ms pc idx k : Nat} {As rest st0 : List Value} {Q' : kQ} (d : decode M.2.1 pc = .ok (.invokestatic idx, 3)) (hl0 : kLS M.1.cls idx My k) (hC : kCtr My dy mc ms As w n Q') (hst : st0 = As.reverse ++ rest) (hk : As.length = k)
    (hroom : dy + 1 ≤ dd ∧ My.2.2.1 ≤ 40 ∧ (rest.map fun v => v.category).sum ≤ 8 ∧ mc ≤ rc ∧ ms ≤ rs)
    (kx : ∀ (E : String) (w' : kM) (n' : Nat), Q' (.inr E) w' n' → kWX X M dd Q (rc - mc) (rs - ms) n' w' pc L E)
    (kk : ∀ (v : Option Value) (w' : kM) (n' : Nat), Q' (.inl v) w' n' → kW X M dd Q (rc - mc) (rs - ms) n' w' (pc + 3) L (v.toList ++ rest)) : kW X M dd Q rc rs n w pc L st0 := by
  subst hst
  intro G b p l e R s m args below meth c H locs cells slots ls Z hO hE hR hS hc hs hl
  obtain ⟨w1, w2, w4, w5, w7⟩ := hl0
  obtain ⟨r1, r2, r3, r4, r5⟩ := hroom
  obtain ⟨hx, hb, hml, hown, hts, -, -, -, hstt, hK, hSt, hdR, hlR, -, -⟩ := id hO
  have hG : GoodIn (kws M) (va_wsS M.1.cls idx My.1 (kws My)) := by
    intro z hz
    unfold va_wsS at hz
    rcases List.mem_append.mp hz with h | h
    · simp only [List.mem_cons, List.not_mem_nil, or_false] at h
      rcases h with rfl | rfl | rfl
      · exact kgood w1
      · exact kgood w2
      · exact kgood w4
    · exact kws_good w5 z h
  have hstk : List.map (kcv G b) (As.reverse ++ rest) = (As.map (kcv G b)).reverse ++ rest.map (kcv G b) := by rw [List.map_append, List.map_reverse]
  by_cases w6 : My.2.2.2.2 = []
  · exact kw_ofRun (vx_runS (As := As.map (kcv G b)) (rest := rest.map (kcv G b)) ⟨hx, hb, hml, hown, hts⟩ (hC l hstt G b) (va_cwS k hts hG (by unfold kws; rw [kcw_nil w6]) rfl rfl w7 ⟨by show dy + 1 ≤ R.frames; omega, by show 8 + (My.2.2.1 + 11) + 60 * dy ≤ R.locals; omega⟩) ⟨kPc_blind G b _ w n, fun U hU hW => ⟨rfl, kpre hO hR hS hU hW⟩⟩ rfl (by rw [List.length_map]; exact hk) hl.1 hstk (lv_room (by rw [kcats]; exact r3)) d ⟨by omega, by omega⟩) hO hE hS hc hs hl r4 r5 kx kk
  · exact kw_ofRun (vx_runSX (As := As.map (kcv G b)) (rest := rest.map (kcv G b)) ⟨hx, hb, hml, hown, hts⟩ (hC l hstt G b) (vx_cwSW k hts hG (by unfold kws; rw [kcw_cons w6]) rfl rfl w7 ⟨by show dy + 1 ≤ R.frames; omega, by show 8 + (My.2.2.1 + 11) + 60 * dy ≤ R.locals; omega⟩) ⟨kPc_blind G b _ w n, fun U hU hW => ⟨rfl, kpre hO hR hS hU hW⟩⟩ rfl (by rw [List.length_map]; exact hk) hl.1 hstk (lv_room (by rw [kcats]; exact r3)) d ⟨by omega, by omega⟩) hO hE hS hc hs hl r4 r5 kx kk
/-- a contract that never throws, as the kit's plain one -/
theorem kCtr.met {My : kMi} {dy mc ms : Nat} {As : List Value} {Q' : kQ} (hC : kCtr My dy mc ms As w n Q') (hno : ∀ E w' n', ¬ Q' (.inr E) w' n') {l : Launch} (hst : l.stackTraces = false) (G : kG) (b : Nat) : Met l My.1 (kws My) (kRm dy mc ms) (kPc G b As w n) (kQc G b Q') mc ms (fun q => b ≤ q) := by
  intro p e h1 h2 h3 s m args below hf ha hP hK
  obtain ⟨k, o, a1, a2, a3, hq⟩ := hC l hst G b p e h1 h2 h3 s m args below hf ha hP hK
  rcases hq with hq | ⟨q, -, E, ce, L', hX, -⟩
  · exact ⟨k, o, a1, a2, a3, hq⟩
  · obtain ⟨⟨w', n', hz, -⟩, -⟩ := hX
    exact absurd hz (hno E w' n')
theorem kw_ofRunV {Q' : kQ} {mc ms pc : Nat} {rest st0 : List Value} {a : Array Value} {G : kG} {b : Nat} {p : Program} {l : Launch} {e : Env} {R : Room} {s : State} {m : MethodId} {args : Array Value} {below : List Frame} {meth : Method} {c : Code} {H : Heap} {locs : List Loc} {cells slots : Nat} {ls : Array Slot} {Z : State → Prop}
    (hr : va_Run p l e R s m args below meth c H locs cells slots mc ms (F0 m pc ls st0) (rest.map (kcv G b)) (kQc G b Q' a) (fun q => b ≤ q))
    (hO : kOK M G b dd p l R s m args meth c) (hE : kEnd X M G b Q p l e R s m args below meth c Z) (hS : va_S (fun q => b ≤ q) s.heap H locs) (hc : cells + rc ≤ R.cells) (hs : slots + rs ≤ R.slots) (hl : lv_has ls M.2.2.1 (L.map fun q => (q.1, kcv G b q.2))) (hmc : mc ≤ rc) (hms : ms ≤ rs)
    (kk : ∀ (v : Option Value) (w' : kM) (n' : Nat), Q' (.inl v) w' n' → kW X M dd Q (rc - mc) (rs - ms) n' w' (pc + 3) L (v.toList ++ rest)) : W p l e R s m args below meth c H locs cells slots Z (F0 m pc ls st0) := by
  intro T hT X0
  obtain ⟨v, st₀, t, T', L', h0, X', hL, e1, e2, ⟨⟨v', w', n', ho, hq, hRp'⟩, hF⟩, stp⟩ := hr T hT X0
  cases ho
  obtain ⟨-, -, k3⟩ := vx_keep h0 e1 hS (fun q _ h => h) (fun q h => h) hL hF
  obtain ⟨t2, a1, b1⟩ := kk v' w' n' hq G b p l e R s m args below meth c T'.heap (locs ++ L') (cells + mc) (slots + ms) ls Z hO hE (by rw [e1]; exact hRp') k3 (by omega) (by omega) hl T' rfl X'
  rw [← kstk] at a1
  exact ⟨t2, stp t2 a1, b1⟩
theorem kw_callI {My : kMi} {dy mc ms pc idx o k : Nat} {As rest st0 : List Value} {Q' : kQ} (d : decode M.2.1 pc = .ok (.invokespecial idx, 3)) (hl0 : kLI M.1.cls idx My k) (hC : kCtr My dy mc ms (.ref o :: As) w n Q') (hno : ∀ E w' n', ¬ Q' (.inr E) w' n') {ci : Nat} {F : Nat → Value} (ho : w o = kO ci F) (hst : st0 = As.reverse ++ .ref o :: rest) (hk : As.length = k)
    (hroom : dy + 1 ≤ dd ∧ My.2.2.1 ≤ 40 ∧ (rest.map fun v => v.category).sum ≤ 8 ∧ mc ≤ rc ∧ ms ≤ rs)
    (kk : ∀ (v : Option Value) (w' : kM) (n' : Nat), Q' (.inl v) w' n' → kW X M dd Q (rc - mc) (rs - ms) n' w' (pc + 3) L (v.toList ++ rest)) : kW X M dd Q rc rs n w pc L st0 := by
  subst hst
  intro G b p l e R s m args below meth c H locs cells slots ls Z hO hE hR hS hc hs hl
  obtain ⟨w1, w2, w4, w5, w6, w8, w9, w7⟩ := hl0
  obtain ⟨r1, r2, r3, r4, r5⟩ := hroom
  obtain ⟨hx, hb, hml, hown, hts, -, -, -, hstt, hK, hSt, hdR, hlR, -, -⟩ := id hO
  refine kw_ofRunV (va_runI (As := As.map (kcv G b)) (b := b + o) (rest := rest.map (kcv G b)) ⟨hx, hb, hml, hown, hts⟩ (hC.met hno hstt G b) (cwI k hts (kws_good w5) (by unfold kws; rw [kcw_nil w6, w8]) rfl rfl (hts _ (List.mem_cons_of_mem _ w4)) (hts _ (List.mem_cons_of_mem _ w1)) (hts _ (List.mem_cons_of_mem _ w2)) w9 w7 ⟨by show dy + 1 ≤ R.frames; omega, by show 8 + (My.2.2.1 + 11) + 60 * dy ≤ R.locals; omega⟩) ⟨kPc_blind G b _ w n, fun U hU hW => ⟨rfl, kpre hO hR hS hU hW⟩⟩ rfl (by rw [List.length_map]; exact hk) hl.1 ?_ (lv_room (by rw [kcats]; exact r3)) d ⟨by omega, by omega⟩) hO hE hS hc hs hl r4 r5 kk
  show List.map (kcv G b) (As.reverse ++ .ref o :: rest) = _
  rw [List.map_append, List.map_reverse]
  rfl
theorem kw_callN {My : kMi} {host : String} {dy mc ms pc idx o k : Nat} {As rest st0 : List Value} {Q' : kQ} (d : decode M.2.1 pc = .ok (.invokespecial idx, 3)) (hl0 : kLN M.1.cls idx My host k) (hC : kCtr My dy mc ms (.ref o :: As) w n Q') (hno : ∀ E w' n', ¬ Q' (.inr E) w' n') {ci : Nat} {F : Nat → Value} (ho : w o = kO ci F) (hst : st0 = As.reverse ++ .ref o :: rest) (hk : As.length = k)
    (hroom : dy + 1 ≤ dd ∧ My.2.2.1 ≤ 40 ∧ (rest.map fun v => v.category).sum ≤ 8 ∧ mc ≤ rc ∧ ms ≤ rs)
    (kk : ∀ (v : Option Value) (w' : kM) (n' : Nat), Q' (.inl v) w' n' → kW X M dd Q (rc - mc) (rs - ms) n' w' (pc + 3) L (v.toList ++ rest)) : kW X M dd Q rc rs n w pc L st0 := by
  subst hst
  intro G b p l e R s m args below meth c H locs cells slots ls Z hO hE hR hS hc hs hl
  obtain ⟨w1, w2, w4, w5, w6, w8, w9, w7⟩ := hl0
  obtain ⟨r1, r2, r3, r4, r5⟩ := hroom
  obtain ⟨hx, hb, hml, hown, hts, -, -, -, hstt, hK, hSt, hdR, hlR, -, -⟩ := id hO
  refine kw_ofRunV (va_runIN (As := As.map (kcv G b)) (b := b + o) (rest := rest.map (kcv G b)) ⟨hx, hb, hml, hown, hts⟩ (hC.met hno hstt G b) ⟨va_cnB k hts (kws_good w5) (by unfold kws; rw [kcw_nil w6, w8]) rfl rfl (hK.2.2.1 _ w1) (hts _ (List.mem_cons_of_mem _ w4)) w7 ⟨by show dy + 1 ≤ R.frames; omega, by show 8 + (My.2.2.1 + 11) + 60 * dy ≤ R.locals; omega⟩, w9, hts _ (List.mem_cons_of_mem _ w2)⟩ ⟨kPc_blind G b _ w n, fun U hU hW => ⟨rfl, kpre hO hR hS hU hW⟩⟩ rfl (by rw [List.length_map]; exact hk) hl.1 ?_ (lv_room (by rw [kcats]; exact r3)) d ⟨by omega, by omega⟩) hO hE hS hc hs hl r4 r5 kk
  show List.map (kcv G b) (As.reverse ++ .ref o :: rest) = _
  rw [List.map_append, List.map_reverse]
  rfl
/-- java.lang.Object's constructor -/
theorem kw_objInit {pc idx o : Nat} (d : decode M.2.1 pc = .ok (.invokespecial idx, 3)) (h1 : Cond.methodLink M.1.cls idx Lib.objectInit ∈ kTb) (h2 : Cond.instanceMethod Lib.objectInit ∈ kTb) (h3 : Cond.code Lib.objectInit ⟨#[0xb1]⟩ 1 none ∈ kTb) (hd1 : 1 ≤ dd) (hcat : (st.map fun v => v.category).sum ≤ 40) (k : kW X M dd Q rc rs n w (pc + 3) L st) : kW X M dd Q rc rs n w pc L (.ref o :: st) := by
  intro G b p l e R s m args below meth c H locs cells slots ls Z hO hE hR hS hc hs hl
  obtain ⟨hx, hb, hml, hown, hts, -, -, -, hstt, hK, hSt, hdR, hlR, -, -⟩ := id hO
  exact W.objInit hx hb hown (hts _ (List.mem_cons_of_mem _ h1)) (hts _ (List.mem_cons_of_mem _ h2)) (hts _ (List.mem_cons_of_mem _ h3)) rfl (by rw [hml]; exact hl.1) rfl d (by omega) (by rw [kcats]; show 2 * 0 + _ + 12 ≤ _; omega) (k G b p l e R s m args below meth c H locs cells slots ls Z hO hE hR hS hc hs hl)
/-- the ends -/
theorem kw_ireturn {pc : Nat} {v : Int32} {ty : FieldType} (hM : M.1.name ≠ "law") (d : decode M.2.1 pc = .ok (.ireturn, 1)) (hr : M.2.2.2.1 = some ty) (hn : narrow ty (.int v) = .int v) (hq : Q (.inl (some (.int v))) w n) : kW X M dd Q rc rs n w pc L [.int v] := by
  intro G b p l e R s m args below meth c H locs cells slots ls Z hO hE hR hS hc hs hl
  obtain ⟨hx, hb, hml, hown, hts, hret, hlk, -⟩ := id hO
  rcases hE with ⟨-, -, rfl⟩ | ⟨h, -⟩
  · refine W.widen (k := R.cells) (n := R.slots) (by omega) (by omega) (vx_ret ?_)
    exact W.zret hx hb (hret.trans hr) hn (fun t ht _ => ⟨⟨some (.int v), w, n, rfl, hq, by rw [ht]; exact hR⟩, hS.F ht⟩) hS.2.2 d hlk
  · exact absurd h hM
theorem kw_lreturn {pc : Nat} {v : Int64} (hM : M.1.name ≠ "law") (d : decode M.2.1 pc = .ok (.lreturn, 1)) (hr : M.2.2.2.1 = some .long) (hq : Q (.inl (some (.long v))) w n) : kW X M dd Q rc rs n w pc L [.long v] := by
  intro G b p l e R s m args below meth c H locs cells slots ls Z hO hE hR hS hc hs hl
  obtain ⟨hx, hb, hml, hown, hts, hret, hlk, -⟩ := id hO
  rcases hE with ⟨-, -, rfl⟩ | ⟨h, -⟩
  · refine W.widen (k := R.cells) (n := R.slots) (by omega) (by omega) (vx_ret ?_)
    exact W.lret hx hb (hret.trans hr) (fun t ht _ => ⟨⟨some (.long v), w, n, rfl, hq, by rw [ht]; exact hR⟩, hS.F ht⟩) hS.2.2 d hlk
  · exact absurd h hM
theorem kw_dreturn {pc : Nat} {v : UInt64} (hM : M.1.name ≠ "law") (d : decode M.2.1 pc = .ok (.dreturn, 1)) (hr : M.2.2.2.1 = some .double) (hq : Q (.inl (some (.double v))) w n) : kW X M dd Q rc rs n w pc L [.double v] := by
  intro G b p l e R s m args below meth c H locs cells slots ls Z hO hE hR hS hc hs hl
  obtain ⟨hx, hb, hml, hown, hts, hret, hlk, -⟩ := id hO
  rcases hE with ⟨-, -, rfl⟩ | ⟨h, -⟩
  · refine W.widen (k := R.cells) (n := R.slots) (by omega) (by omega) (vx_ret ?_)
    exact W.dret hx hb (hret.trans hr) (fun t ht _ => ⟨⟨some (.double v), w, n, rfl, hq, by rw [ht]; exact hR⟩, hS.F ht⟩) hS.2.2 d hlk
  · exact absurd h hM
theorem kw_return {pc : Nat} (hM : M.1.name ≠ "law") (d : decode M.2.1 pc = .ok (.return_, 1)) (hr : M.2.2.2.1 = none) (hq : Q (.inl none) w n) : kW X M dd Q rc rs n w pc L [] := by
  intro G b p l e R s m args below meth c H locs cells slots ls Z hO hE hR hS hc hs hl
  obtain ⟨hx, hb, hml, hown, hts, hret, hlk, -⟩ := id hO
  rcases hE with ⟨-, -, rfl⟩ | ⟨h, -⟩
  · refine W.widen (k := R.cells) (n := R.slots) (by omega) (by omega) (vx_ret ?_)
    exact W.vret hx hb (hret.trans hr) (fun t ht _ => ⟨⟨none, w, n, rfl, hq, by rw [ht]; exact hR⟩, hS.F ht⟩) hS.2.2 d hlk
  · exact absurd h hM
theorem kw_lawReturn {pc : Nat} (hM : M.1.name = "law") (d : decode M.2.1 pc = .ok (.ireturn, 1)) (hq : Q (.inl (some (.int 1))) w n) : kW X M dd Q rc rs n w pc L [.int 1] := by
  intro G b p l e R s m args below meth c H locs cells slots ls Z hO hE hR hS hc hs hl
  rcases hE with ⟨h, -⟩ | ⟨-, -, h⟩
  · exact absurd hM h
  · exact h pc ls w n H locs cells slots d hq hS (by omega) (by omega)
/-- an exception that no row of the table takes -/
theorem kwx_out {pc : Nat} {E : String} (hM : M.1.name ≠ "law") (hh : (tableOf M.2.2.2.2).all (fun x => !covers x pc) = true) (hq : Q (.inr E) w n) : kWX X M dd Q rc rs n w pc L E := by
  intro G b p l e R s m args below meth c H locs cells slots ls Z q ce rest hO hE hR hS hc hs hl hce hcv hcl
  obtain ⟨hx, hb, hml, hown, hts, hret, hlk, -, -, -, -, -, -, -, htab⟩ := id hO
  rcases hE with ⟨-, -, rfl⟩ | ⟨h, -⟩
  · refine vx_out (fun x hx => ?_) hlk hce hcv hcl (fun t ht _ => ⟨⟨w, n, hq, by rw [ht]; exact hR⟩, hS.F ht⟩) hS.2.2 (by omega) (by omega)
    rw [htab hM] at hx
    have h9 := List.all_eq_true.mp hh x hx
    cases hcov : covers x pc with
    | false => rfl
    | true => rw [hcov] at h9; cases h9
  · exact absurd h hM
/-- throw new E("..") -/
theorem kw_throw {pc ik is ic si : Nat} {cls text : String} {names : List String} (hM : M.1.name ≠ "law") (hown0 : M.1.cls = RX5) (hnil : M.2.2.2.2 = []) (hcls : Bundle.fit cls = true) (hnames : ∀ z ∈ names, Bundle.fit z = true) (hk : Cond.classLink RX5 ik cls ∈ kTb) (hini : Cond.initialized cls ∈ kTb) (hstr : (is, text, si) ∈ kStr)
    (hat1 : ∀ z ∈ (vx_atS RX5 ic cls names).filter goodWord, z ∈ kTb) (hat2 : ∀ z ∈ (vx_atS RX5 ic cls names).filter (fun z => !goodWord z), z ∈ kNest) (hot : (Cond.classLink RX5 ik cls :: Cond.initialized cls :: vx_atS RX5 ic cls names).all vx_ot = true) (hnest : kNest.all (fun z => z.onTables) = true)
    (d0 : decode M.2.1 pc = .ok (.new ik, 3)) (d3 : decode M.2.1 (pc + 3) = .ok (.dup, 1)) (d4 : decode M.2.1 (pc + 4) = .ok (.ldc is, 2)) (d6 : decode M.2.1 (pc + 6) = .ok (.invokespecial ic, 3)) (d9 : decode M.2.1 (pc + 9) = .ok (.athrow, 1))
    (hroom : names.length + 4 ≤ dd ∧ names.length ≤ 3 ∧ 1 ≤ rc ∧ 6 ≤ rs) (hq : ∀ n', n ≤ n' → Q (.inr cls) w n') : kW X M dd Q rc rs n w pc L [] := by
  intro G b p l e R s m args below meth c H locs cells slots ls Z hO hE hR hS hc hs hl
  obtain ⟨hx, hb, hml, hown, hts, hret, hlk, -, hstt, hK, hSt, hdR, hlR, hbs, htab⟩ := id hO
  obtain ⟨r1, r2, r3, r4⟩ := hroom
  rw [hown0] at hown
  rcases hE with ⟨-, -, rfl⟩ | ⟨h, -⟩
  · refine vx_throwS hx hb hstt hown hcls hnames (hts _ (List.mem_cons_of_mem _ hk)) (hts _ (List.mem_cons_of_mem _ hini)) (hK.2.2.2.2.1 _ hstr) (vx_hat (B := kNest) (fun z hz => hts _ (List.mem_cons_of_mem _ (hat1 z hz))) hat2 (fun z hz => va_Nw.use (List.all_eq_true.mp hnest z hz) (hK.2.2.1 z hz))) (fun z hz => List.all_eq_true.mp hot z hz) hSt.2.1 hSt.2.2 hS (by rw [hml]; exact hl.1) d0 d3 d4 d6 d9 (fun x hx => ?_) (by omega) (by show 0 + (13 * (names.length + 1) + 43) ≤ R.locals; omega) (by omega) (by omega) hlk (fun t hal hsz hkp => ?_) hS.2.2 (by omega) (by omega)
    · rw [htab hM, hnil] at hx
      cases hx
    · have hbH : b ≤ H.size := by rw [hR.1]; exact Nat.le_add_right _ _
      obtain ⟨n', hn'⟩ : ∃ n', t.heap.size = b + n' := ⟨t.heap.size - b, by omega⟩
      have hle : n ≤ n' := by
        have := hR.1
        omega
      refine ⟨⟨w, n', hq n' hle, hR.more hn' hle hkp⟩, Nat.le_trans hS.1 hsz, fun q h1 h2 => ?_⟩
      rw [hkp q (Nat.lt_of_lt_of_le h1 hS.1)]
      exact hS.2.1 q h1 h2
  · exact absurd h hM
/-- caught: the handler keeps the exception in a local that nobody reads -/
theorem kwx_catch {pc hpc i len : Nat} {E nm : String} (hM : M.1.name ≠ "law") (pre : List ExceptionTableEntry) (x : ExceptionTableEntry) (suf : List ExceptionTableEntry) (hsplit : tableOf M.2.2.2.2 = pre ++ x :: suf)
    (hpass : ∀ z ∈ pre, z.catchType ≠ 0 ∧ ∃ nm2 : String, Cond.classLink M.1.cls z.catchType nm2 ∈ kTb ∧ (E, nm2) ∈ kNc) (hx : covers x pc = true) (h0 : x.catchType ≠ 0) (hlink : Cond.classLink M.1.cls x.catchType nm ∈ kTb) (hcast : Cond.castable E nm ∈ kNest) (hh : x.handlerPc = hpc)
    (d : decode M.2.1 hpc = .ok (.astore i, 2)) (hn : i < M.2.2.1) (hk : kok L i = true) (kk : kW X M dd Q rc rs n w (hpc + 2) (L.filter (fun q => !(Nat.beq q.1 i))) []) : kWX X M dd Q rc rs n w pc L E := by
  intro G b p l e R s m args below meth c H locs cells slots ls Z q ce rest hO hE hR hS hc hs hl hce hcv hcl
  obtain ⟨hx1, hb, hml, hown, hts, hret, hlk, -, hstt, hK, hSt, hdR, hlR, hbs, htab⟩ := id hO
  subst hh
  refine vx_catch (pc := pc) hown pre x suf ((htab hM).trans hsplit) (fun z hz => Or.inr ?_) hx h0 (hts _ (List.mem_cons_of_mem _ hlink)) (va_Nw.use rfl (hK.2.2.1 _ hcast)) hce hcv hcl ?_
  · obtain ⟨g1, nm2, g2, g3⟩ := hpass z hz
    exact ⟨g1, nm2, hts _ (List.mem_cons_of_mem _ g2), hK.2.2.2.2.2 _ g3⟩
  · refine lv_astore hx1 hb d hl hn rfl (fun ls' hl' => kk G b p l e R s m args below meth c H locs cells slots ls' Z hO hE hR hS hc hs (lv_mono hl' (fun z hz => ?_)))
    have hz2 := kset_in (G := G) (b := b) (v := .ref 0) hk z (by
      obtain ⟨y, hy, rfl⟩ := List.mem_map.mp hz
      exact List.mem_map.mpr ⟨y, List.mem_cons_of_mem _ hy, rfl⟩)
    rcases List.mem_cons.mp hz2 with h | h
    · obtain ⟨y, hy, rfl⟩ := List.mem_map.mp hz
      have hy2 := (List.mem_filter.mp hy).2
      have hy3 : y.1 = i := congrArg Prod.fst h
      rw [hy3] at hy2
      simp at hy2
    · exact List.mem_cons_of_mem _ h
theorem kwx_catch_n {pc hpc : Nat} {i : Fin 4} {E nm : String} (hM : M.1.name ≠ "law") (pre : List ExceptionTableEntry) (x : ExceptionTableEntry) (suf : List ExceptionTableEntry) (hsplit : tableOf M.2.2.2.2 = pre ++ x :: suf)
    (hpass : ∀ z ∈ pre, z.catchType ≠ 0 ∧ ∃ nm2 : String, Cond.classLink M.1.cls z.catchType nm2 ∈ kTb ∧ (E, nm2) ∈ kNc) (hx : covers x pc = true) (h0 : x.catchType ≠ 0) (hlink : Cond.classLink M.1.cls x.catchType nm ∈ kTb) (hcast : Cond.castable E nm ∈ kNest) (hh : x.handlerPc = hpc)
    (d : decode M.2.1 hpc = .ok (.astore_n i, 1)) (hn : i.val < M.2.2.1) (hk : kok L i.val = true) (kk : kW X M dd Q rc rs n w (hpc + 1) (L.filter (fun q => !(Nat.beq q.1 i.val))) []) : kWX X M dd Q rc rs n w pc L E := by
  intro G b p l e R s m args below meth c H locs cells slots ls Z q ce rest hO hE hR hS hc hs hl hce hcv hcl
  obtain ⟨hx1, hb, hml, hown, hts, hret, hlk, -, hstt, hK, hSt, hdR, hlR, hbs, htab⟩ := id hO
  subst hh
  refine vx_catch (pc := pc) hown pre x suf ((htab hM).trans hsplit) (fun z hz => Or.inr ?_) hx h0 (hts _ (List.mem_cons_of_mem _ hlink)) (va_Nw.use rfl (hK.2.2.1 _ hcast)) hce hcv hcl ?_
  · obtain ⟨g1, nm2, g2, g3⟩ := hpass z hz
    exact ⟨g1, nm2, hts _ (List.mem_cons_of_mem _ g2), hK.2.2.2.2.2 _ g3⟩
  · refine lv_astore_n hx1 hb d rfl hl hn rfl (fun ls' hl' => kk G b p l e R s m args below meth c H locs cells slots ls' Z hO hE hR hS hc hs (lv_mono hl' (fun z hz => ?_)))
    have hz2 := kset_in (G := G) (b := b) (v := .ref 0) hk z (by
      obtain ⟨y, hy, rfl⟩ := List.mem_map.mp hz
      exact List.mem_map.mpr ⟨y, List.mem_cons_of_mem _ hy, rfl⟩)
    rcases List.mem_cons.mp hz2 with h | h
    · obtain ⟨y, hy, rfl⟩ := List.mem_map.mp hz
      have hy2 := (List.mem_filter.mp hy).2
      have hy3 : y.1 = i.val := congrArg Prod.fst h
      rw [hy3] at hy2
      simp at hy2
    · exact List.mem_cons_of_mem _ h
end KCALL
