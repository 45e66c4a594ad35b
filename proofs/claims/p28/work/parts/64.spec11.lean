/-! ===== the class's object ===== -/
def xF : Nat → Value := fun k => match k with
  | 0 => .ref 1
  | 1 => .ref 13
  | 2 => .ref 14
  | 3 => .ref 15
  | 4 => .ref 89
  | 5 => .ref 92
  | _ => .null
abbrev rw75 (s : Nat → Int32) (t : Nat) : Nat → Int32 := fun j => s (75 * t + j)
def txP (w : kM) (bf : Nat → Int32) (T : Nat) : Prop := ∃ (cf : Nat → Int32) (p : Nat) (v : Nat → Int32), w 90 = kI 0 60 (tr 60 cf) ∧ (∀ j, j < T → cf j = bf j) ∧ txS w 89 T (p, v) ∧ p ≤ 6 ∧ T ≤ 60
def bnA (w : kM) : Prop := ∃ z a G L, bnS w 92 z a G L
def snP (w : kM) (s kp : Nat → Int32) : Prop := w 13 = kV 6 2 (tv 2 (fun b => .ref (104 + 12 * b))) ∧ w 14 = kI 1 2 (tr 2 kp) ∧ (∀ b, b < 2 → offA w (104 + 12 * b)) ∧ ∀ b, b < 2 → ¬ kp b = 0 → offR w (104 + 12 * b) (rw75 s (7 + b))
/-- the class's cells tell the numbers s (the present state, those that are saved, the snapshots), q saved ones, what is kept, the buffer -/
def cls (w : kM) (s : Nat → Int32) (q : Nat) (kp bf : Nat → Int32) (T : Nat) : Prop := w 0 = kO 5 xF ∧ offR w 1 s ∧ svP w 15 q (fun i => rw75 s (i + 1)) ∧ snP w s kp ∧ txP w bf T ∧ bnA w
section CLS
variable {w w' : kM} {s s' : Nat → Int32} {q : Nat} {kp bf : Nat → Int32} {T : Nat}
theorem txP.fr (P : txP w bf T) (h : ∀ a, 89 ≤ a → a < 92 → w' a = w a) : txP w' bf T := by
  obtain ⟨cf, p, v, h1, h2, ⟨h3, h4⟩, h5, h6⟩ := P
  exact ⟨cf, p, v, (h _ (by decide) (by decide)).trans h1, h2, ⟨(h _ (by decide) (by decide)).trans h3, (h _ (by decide) (by decide)).trans h4⟩, h5, h6⟩
theorem bnA.fr (P : bnA w) (h : ∀ a, 92 ≤ a → a < 104 → w' a = w a) : bnA w' := by
  obtain ⟨z, a, G, L, B⟩ := P
  exact ⟨z, a, G, L, B.fr (fun k h1 h2 => h k h1 (by omega))⟩
theorem snP.fr (P : snP w s kp) (h : ∀ a, (13 ≤ a ∧ a < 15) ∨ (104 ≤ a ∧ a < 128) → w' a = w a) (hs : ∀ i, 525 ≤ i → i < 675 → s' i = s i) : snP w' s' kp := by
  obtain ⟨h1, h2, h3, h4⟩ := P
  refine ⟨(h _ (by omega)).trans h1, (h _ (by omega)).trans h2, fun b hb => (h3 b hb).fr (fun k g1 g2 => h k (by omega)), fun b hb hk => ((h4 b hb hk).fr (fun k g1 g2 => h k (by omega))).cg (fun i hi => ?_)⟩
  show s' (75 * (7 + b) + i) = s (75 * (7 + b) + i)
  exact hs _ (by omega) (by omega)
theorem cls.fr (C : cls w s q kp bf T) (h : ∀ a, a < 128 → w' a = w a) : cls w' s q kp bf T :=
  ⟨(h _ (by decide)).trans C.1, C.2.1.fr (fun k _ _ => h k (by omega)), C.2.2.1.fr (fun k _ _ => h k (by omega)), C.2.2.2.1.fr (fun k g => h k (by omega)) (fun _ _ _ => rfl), C.2.2.2.2.1.fr (fun k _ g => h k (by omega)), C.2.2.2.2.2.fr (fun k _ g => h k (by omega))⟩
theorem cls.cg (C : cls w s q kp bf T) (h : ∀ i, i < 675 → s' i = s i) : cls w s' q kp bf T := by
  have h6 : q ≤ 6 := by obtain ⟨π, A, -⟩ := C.2.2.1; exact A.2.2.2.2.2
  exact ⟨C.1, C.2.1.cg (fun i hi => h i (by omega)), C.2.2.1.cg (fun i hi j hj => h _ (by omega)), C.2.2.2.1.fr (fun _ _ => rfl) (fun i _ hi => h i hi), C.2.2.2.2.1, C.2.2.2.2.2⟩
/-- another office -/
theorem cls.setOff (C : cls w s q kp bf T) (ho : offR w' 1 s') (hs : ∀ i, 75 ≤ i → s' i = s i) (h : ∀ a, (a < 1 ∨ 13 ≤ a) → w' a = w a) : cls w' s' q kp bf T :=
  ⟨(h _ (by omega)).trans C.1, ho, (C.2.2.1.fr (fun k _ _ => h k (by omega))).cg (fun i _ j _ => hs _ (by omega)), C.2.2.2.1.fr (fun k g => h k (by omega)) (fun i hi _ => hs i (by omega)), C.2.2.2.2.1.fr (fun k _ g => h k (by omega)), C.2.2.2.2.2.fr (fun k _ g => h k (by omega))⟩
theorem cls.setText {bf' : Nat → Int32} {T' : Nat} (C : cls w s q kp bf T) (ho : txP w' bf' T') (h : ∀ a, (a < 89 ∨ 92 ≤ a) → w' a = w a) : cls w' s q kp bf' T' :=
  ⟨(h _ (by omega)).trans C.1, C.2.1.fr (fun k _ _ => h k (by omega)), C.2.2.1.fr (fun k _ _ => h k (by omega)), C.2.2.2.1.fr (fun k g => h k (by omega)) (fun _ _ _ => rfl), ho, C.2.2.2.2.2.fr (fun k _ g => h k (by omega))⟩
theorem cls.setBun (C : cls w s q kp bf T) (ho : bnA w') (h : ∀ a, (a < 92 ∨ 104 ≤ a) → w' a = w a) : cls w' s q kp bf T :=
  ⟨(h _ (by omega)).trans C.1, C.2.1.fr (fun k _ _ => h k (by omega)), C.2.2.1.fr (fun k _ _ => h k (by omega)), C.2.2.2.1.fr (fun k g => h k (by omega)) (fun _ _ _ => rfl), C.2.2.2.2.1.fr (fun k _ g => h k (by omega)), ho⟩
theorem shf_at : ∀ (j : Nat) (i x : Nat), i < 75 → x < j → shf s j (75 * (x + 1) + i) = s (75 * (x + 2) + i)
  | 0, i, x, _, h => absurd h (Nat.not_lt_zero x)
  | j + 1, i, x, hi, h => by
    show cpR (shf s j) (j + 2) (j + 1) 75 (75 * (x + 1) + i) = _
    unfold cpR
    by_cases e : x = j
    · subst e
      rw [if_pos (by omega), show 75 * (x + 2) + (75 * (x + 1) + i - 75 * (x + 1)) = 75 * (x + 2) + i by omega]
      exact shf_hi x (by omega)
    · rw [if_neg (by omega)]
      exact shf_at j i x hi (by omega)
where
  shf_hi : ∀ (j : Nat) {i : Nat}, 75 * (j + 1) ≤ i → shf s j i = s i
    | 0, _, _ => rfl
    | j + 1, i, h => by
      show cpR (shf s j) (j + 2) (j + 1) 75 i = _
      unfold cpR
      rw [if_neg (by omega)]
      exact shf_hi j (by omega)
theorem svS_row {i j : Nat} (hq : q ≤ 6) (hi : i < svN q) (hj : j < 75) : svS s q (75 * (i + 1) + j) = svR (fun i => rw75 s (i + 1)) q s i j := by
  unfold svS svR
  unfold svN at hi
  by_cases e : q = 6
  · rw [if_pos e] at hi
    rw [if_pos e, if_pos e]
    by_cases e5 : i < 5
    · rw [if_pos e5]
      unfold cpR
      rw [if_neg (by omega)]
      exact shf_at 5 j i hj e5
    · rw [if_neg e5]
      unfold cpR
      rw [if_pos (by omega), show 75 * 0 + (75 * (i + 1) + j - 75 * 6) = j by omega]
      exact shf_low hj 5
  · rw [if_neg e] at hi
    rw [if_neg e, if_neg e]
    unfold cpR
    by_cases e5 : i < q
    · rw [if_pos e5, if_neg (by omega)]
    · rw [if_neg e5, if_pos (by omega)]
      congr 1
      omega
theorem shf_up {i : Nat} (h : 525 ≤ i) : ∀ j, j ≤ 5 → shf s j i = s i
  | 0, _ => rfl
  | j + 1, hj => by
    show cpR (shf s j) (j + 2) (j + 1) 75 i = _
    unfold cpR
    rw [if_neg (by omega)]
    exact shf_up h j (by omega)
theorem svS_hi {i : Nat} (hq : q ≤ 6) (h : 525 ≤ i) : svS s q i = s i := by
  unfold svS
  split
  · unfold cpR
    rw [if_neg (by omega)]
    exact shf_up h 5 (Nat.le_refl _)
  · unfold cpR
    rw [if_neg (by omega)]
theorem cls.saved (C : cls w s q kp bf T) (ho : svP w' 15 (svN q) (svR (fun i => rw75 s (i + 1)) q s)) (h : ∀ a, (a < 15 ∨ 89 ≤ a) → w' a = w a) : cls w' (svS s q) (svN q) kp bf T := by
  have h6 : q ≤ 6 := by obtain ⟨π, A, -⟩ := C.2.2.1; exact A.2.2.2.2.2
  exact ⟨(h _ (by omega)).trans C.1, (C.2.1.fr (fun k _ _ => h k (by omega))).cg (fun i hi => svS_low hi), ho.cg (fun i hi j hj => svS_row h6 hi hj), C.2.2.2.1.fr (fun k g => h k (by omega)) (fun i hi _ => svS_hi h6 hi), C.2.2.2.2.1.fr (fun k _ g => h k (by omega)), C.2.2.2.2.2.fr (fun k _ g => h k (by omega))⟩
theorem cls.q6 (C : cls w s q kp bf T) : q ≤ 6 := by obtain ⟨π, A, -⟩ := C.2.2.1; exact A.2.2.2.2.2
end CLS
/-! ===== contracts that throw ===== -/
def kCtrX (M : kMi) (d : Nat) (As : List Value) (w : kM) (E : String) (P : kM → Prop) : Prop := ∀ n : Nat, kCtr M d 1 6 As w n (fun o w' n' => o = .inr E ∧ P w' ∧ n ≤ n')
section KX
variable {X : Nat × (Nat → Int32)} {M : kMi} {dd : Nat} {Q : kQ} {rc rs n : Nat} {w : kM} {L : List (Nat × Value)}
theorem kCtrX.of {d : Nat} {As : List Value} {E : String} {P : kM → Prop} (hy : plainName M.1.cls = true) (hn : M.1.name ≠ "law") (hh : M.2.2.2.2 = []) (hl : (lg_sl As).length ≤ M.2.2.1) (h : ∀ n, kW (0, fun _ => 0) M d (fun o w' n' => o = .inr E ∧ P w' ∧ n ≤ n') 1 6 n w 0 (lv_args 0 As) []) : kCtrX M d As w E P := fun n => kCtr.of hy hn hh hl (h n)
theorem kw_callSx {My : kMi} {dy pc idx k : Nat} {As rest st0 : List Value} {E : String} {P : kM → Prop} (d : decode M.2.1 pc = .ok (.invokestatic idx, 3)) (hl0 : kLS M.1.cls idx My k) (hC : kCtrX My dy As w E P) (hst : st0 = As.reverse ++ rest) (hk : As.length = k)
    (hroom : dy + 1 ≤ dd ∧ My.2.2.1 ≤ 40 ∧ (rest.map fun v => v.category).sum ≤ 8 ∧ 1 ≤ rc ∧ 6 ≤ rs) (hM : M.1.name ≠ "law") (hh : (tableOf M.2.2.2.2).all (fun x => !covers x pc) = true) (hq : ∀ w' n', P w' → n ≤ n' → Q (.inr E) w' n') : kW X M dd Q rc rs n w pc L st0 :=
  kw_callS d hl0 (hC n) hst hk ⟨hroom.1, hroom.2.1, hroom.2.2.1, hroom.2.2.2.1, hroom.2.2.2.2⟩ (fun E' w' n' h => by
    obtain ⟨h1, h2, h3⟩ := h
    cases h1
    exact kwx_out hM hh (hq w' n' h2 h3)) (fun v w' n' h => by cases h.1)
theorem kw_callVx {My : kMi} {dy pc idx o ci k : Nat} {F : Nat → Value} {As rest st0 : List Value} {E : String} {P : kM → Prop} (d : decode M.2.1 pc = .ok (.invokevirtual idx, 3)) (hl0 : kLV M.1.cls idx My k) (hC : kCtrX My dy (.ref o :: As) w E P) (ho : w o = kO ci F) (hci : (kcl[ci]?).map (fun r => r.1) = some My.1.cls) (hst : st0 = As.reverse ++ .ref o :: rest) (hk : As.length = k)
    (hroom : dy + 1 ≤ dd ∧ My.2.2.1 ≤ 40 ∧ (rest.map fun v => v.category).sum ≤ 8 ∧ 1 ≤ rc ∧ 6 ≤ rs) (hM : M.1.name ≠ "law") (hh : (tableOf M.2.2.2.2).all (fun x => !covers x pc) = true) (hq : ∀ w' n', P w' → n ≤ n' → Q (.inr E) w' n') : kW X M dd Q rc rs n w pc L st0 :=
  kw_callV d hl0 (hC n) ho hci hst hk ⟨hroom.1, hroom.2.1, hroom.2.2.1, hroom.2.2.2.1, hroom.2.2.2.2⟩ (fun E' w' n' h => by
    obtain ⟨h1, h2, h3⟩ := h
    cases h1
    exact kwx_out hM hh (hq w' n' h2 h3)) (fun v w' n' h => by cases h.1)
end KX
