/-! ===== class and model side by side ===== -/
section MO
variable {w0 : kM} {mo : Nat} {s : Nat → Int32} {sv : Int32} {kp bf : Nat → Int32} {ty th : Int32} {co ma : Nat → Int32} {sp : Int32}
theorem mM_o {a : Nat} (h : a < mo ∨ mo + 6 ≤ a) : mM w0 mo s sv kp bf ty th co ma sp a = w0 a := by
  unfold mM
  rw [if_neg (by omega), if_neg (by omega), if_neg (by omega), if_neg (by omega), if_neg (by omega), if_neg (by omega)]
theorem mM_in {w0' : kM} {a : Nat} (h1 : mo ≤ a) (h2 : a < mo + 6) : mM w0 mo s sv kp bf ty th co ma sp a = mM w0' mo s sv kp bf ty th co ma sp a := by
  unfold mM
  by_cases e0 : a = mo
  · rw [if_pos e0, if_pos e0]
  · rw [if_neg e0, if_neg e0]
    by_cases e1 : a = mo + 1
    · rw [if_pos e1, if_pos e1]
    · rw [if_neg e1, if_neg e1]
      by_cases e2 : a = mo + 2
      · rw [if_pos e2, if_pos e2]
      · rw [if_neg e2, if_neg e2]
        by_cases e3 : a = mo + 3
        · rw [if_pos e3, if_pos e3]
        · rw [if_neg e3, if_neg e3]
          by_cases e4 : a = mo + 4
          · rw [if_pos e4, if_pos e4]
          · rw [if_neg e4, if_neg e4, if_pos (by omega), if_pos (by omega)]
end MO
/-- the model's cells, behind the class's -/
def mdl (w : kM) (s : Nat → Int32) (q : Nat) (kp bf : Nat → Int32) (T : Nat) : Prop := ∃ (th : Int32) (co ma : Nat → Int32) (sp : Int32), w = mM w 128 s (nI q) kp bf (nI T) th co ma sp
theorem mdl.of {w w0 : kM} {s : Nat → Int32} {q : Nat} {kp bf : Nat → Int32} {T : Nat} {th : Int32} {co ma : Nat → Int32} {sp : Int32} (e : w = mM w0 128 s (nI q) kp bf (nI T) th co ma sp) : w = mM w 128 s (nI q) kp bf (nI T) th co ma sp := by
  funext a
  by_cases h : 128 ≤ a ∧ a < 134
  · rw [← mM_in (w0 := w0) h.1 h.2, ← e]
  · rw [mM_o (by omega)]
theorem mdl.fr {w w' : kM} {s : Nat → Int32} {q : Nat} {kp bf : Nat → Int32} {T : Nat} (M : mdl w s q kp bf T) (h : ∀ a, 128 ≤ a → a < 134 → w' a = w a) : mdl w' s q kp bf T := by
  obtain ⟨th, co, ma, sp, e⟩ := M
  refine ⟨th, co, ma, sp, ?_⟩
  funext a
  by_cases ha : 128 ≤ a ∧ a < 134
  · rw [h a ha.1 ha.2, mM_in (w0' := w) ha.1 ha.2, ← e]
  · rw [mM_o (by omega)]
theorem mdl.ob {w : kM} {s : Nat → Int32} {q : Nat} {kp bf : Nat → Int32} {T : Nat} (M : mdl w s q kp bf T) : ∃ F, w 128 = kO 6 F := by
  obtain ⟨th, co, ma, sp, e⟩ := M
  exact ⟨_, by rw [e]; exact mM_0⟩
def txOK (bf : Nat → Int32) (T : Nat) : Prop := T ≤ 60 ∧ ∀ j, j < T → 33 ≤ bf j ∧ bf j ≤ 126
/-- both tell the same numbers, which are in their bounds; the law's cell for an answer lies behind -/
def JS (w : kM) (s : Nat → Int32) (q : Nat) (kp bf : Nat → Int32) (T c : Nat) : Prop := cls w s q kp bf T ∧ mdl w s q kp bf T ∧ outW w ∧ okS s q kp c ∧ txOK bf T
theorem JS.next {w1 w2 : kM} {s' s2 : Nat → Int32} {q : Nat} {kp bf : Nat → Int32} {T c : Nat} {th : Int32} {co ma : Nat → Int32} {sp : Int32} (C1 : cls w1 s' q kp bf T) (ho : outW w1) (e : w2 = mM w1 128 s2 (nI q) kp bf (nI T) th co ma sp) (ha : agr s' s2) (ok : okS s' q kp c) (tx : txOK bf T) : JS w2 s2 q kp bf T c := by
  have h6 : q ≤ 6 := C1.q6
  refine ⟨(C1.fr (fun a h => by rw [e]; exact mM_o (Or.inl h))).cg ha, ⟨th, co, ma, sp, mdl.of e⟩, ?_, ok.cg h6 ha, tx⟩
  obtain ⟨f, hf⟩ := ho
  exact ⟨f, by rw [e, mM_o (Or.inr (by decide))]; exact hf⟩
theorem JS.q6 {w : kM} {s : Nat → Int32} {q : Nat} {kp bf : Nat → Int32} {T c : Nat} (J : JS w s q kp bf T c) : q ≤ 6 := J.1.q6
theorem outW_mM {w1 w2 : kM} {s2 : Nat → Int32} {sv : Int32} {kp bf : Nat → Int32} {ty th : Int32} {co ma : Nat → Int32} {sp : Int32} {f : Nat → Int64} (e : w2 = mM w1 128 s2 sv kp bf ty th co ma sp) (h : w1 134 = kV 3 1 (fun i => .long (f i))) : w2 134 = kV 3 1 (fun i => .long (f i)) := by
  rw [e, mM_o (Or.inr (by decide))]
  exact h
theorem th_of {w1 w2 : kM} {s2 : Nat → Int32} {sv : Int32} {kp bf : Nat → Int32} {ty th : Int32} {co ma : Nat → Int32} {sp : Int32} (e : w2 = mM w1 128 s2 sv kp bf ty th co ma sp) : kCtrR mX6_thrown 0 [.ref 128] w2 (.int th) := by
  rw [e]
  exact c_thrown
theorem ob_of {w1 w2 : kM} {s2 : Nat → Int32} {sv : Int32} {kp bf : Nat → Int32} {ty th : Int32} {co ma : Nat → Int32} {sp : Int32} (e : w2 = mM w1 128 s2 sv kp bf ty th co ma sp) : w2 128 = kO 6 (mF 128 sv ty th sp) := by
  rw [e]
  exact mM_0
/-- what a call makes of both -/
def opOK (ML MM : kMi) (as : List Value) (w : kM) (s : Nat → Int32) (q : Nat) (kp bf : Nat → Int32) (T : Nat) : Prop :=
  ∃ (z v : Int32) (s' : Nat → Int32) (q' : Nat) (kp' bf' : Nat → Int32) (T' c' : Nat), okS s' q' kp' c' ∧ txOK bf' T' ∧ hR ML (.ref 0 :: (as ++ [.ref 134])) w z (outC w v s' q' kp' bf' T' z) ∧
    ∀ w1, mdl w1 s q kp bf T → ∃ (d : Nat) (u : Int32), d ≤ 12 ∧ (z = 0 → u = v) ∧ kCtrW MM d (.ref 128 :: as) w1 (some (.int u)) (mSt w1 128 s' (nI q') kp' bf' (nI T') z)
theorem lgc0 {x : Int64} : lg_cmp x x = 0 := by
  unfold lg_cmp
  rw [if_neg (Int64.lt_irrefl), if_pos rfl]
section KH
variable {X : Nat × (Nat → Int32)} {M : kMi} {dd : Nat} {Q : kQ} {rc rs n : Nat} {w : kM} {L : List (Nat × Value)} {st : List Value}
theorem kw_callSh {My : kMi} {pc idx k : Nat} {As rest st0 : List Value} {z : Int32} {C : kM → Prop} (d : decode M.2.1 pc = .ok (.invokestatic idx, 3)) (hl0 : kLS M.1.cls idx My k) (hC : hR My As w z C) (hst : st0 = As.reverse ++ rest) (hk : As.length = k)
    (hroom : 13 ≤ dd ∧ My.2.2.1 ≤ 40 ∧ (rest.map fun v => v.category).sum ≤ 8 ∧ 1 ≤ rc ∧ 6 ≤ rs)
    (kk : ∀ w' n', C w' → kW X M dd Q (rc - 1) (rs - 6) n' w' (pc + 3) L (.int z :: rest)) : kW X M dd Q rc rs n w pc L st0 := by
  refine kw_callS d hl0 (hC n) hst hk hroom (fun E w' n' h => by cases h.1) (fun v' w' n' h => ?_)
  obtain ⟨h1, h2, h3⟩ := h
  cases h1
  exact kk w' n' h2
theorem kw_sldN {pc i : Nat} {j : Int32} (hM : M.1.name = "law") (d : decode M.2.1 pc = .ok (.iaload, 1)) (hj : j = nI i) (hi : i < X.1) (hX : X.1 ≤ 3072) (kk : kW X M dd Q rc rs n w (pc + 1) L (.int (X.2 i) :: st)) : kW X M dd Q rc rs n w pc L (.int j :: .retAddr 9 :: st) := by
  refine kw_sld hM d (by rw [hj]; exact vp_in_nI hi (by omega)) ?_
  rw [kcl0 hj (by omega)]
  exact kk
end KH
abbrev QL : kQ := fun o _ _ => o = .inl (some (.int 1))
abbrev L5 (i : Nat) : List (Nat × Value) := [(0, .retAddr 9), (1, .ref 0), (2, .ref 128), (3, .ref 134), (4, .int (nI i))]
/-- what may follow a call -/
abbrev KK (X : Nat × (Nat → Int32)) (rc rs i : Nat) : Prop := ∀ (w' : kM) (n' : Nat) (s' : Nat → Int32) (q' : Nat) (kp' bf' : Nat → Int32) (T' c' : Nat), JS w' s' q' kp' bf' T' c' → kW X mL_law 14 QL (rc - 1) (rs - 6) n' w' 1502 (L5 i) []
