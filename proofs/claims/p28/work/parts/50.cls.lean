/-! ===== the class's cells ===== -/
def tr (N : Nat) (f : Nat → Int32) : Nat → Int32 := fun j => if j < N then f j else 0
def tv (N : Nat) (f : Nat → Value) : Nat → Value := fun j => if j < N then f j else .null
theorem tr_lt {N j : Nat} {f : Nat → Int32} (h : j < N) : tr N f j = f j := if_pos h
theorem tv_lt {N j : Nat} {f : Nat → Value} (h : j < N) : tv N f j = f j := if_pos h
theorem tr_eq {N : Nat} {f g : Nat → Int32} (h : ∀ j, j < N → f j = g j) : tr N f = tr N g := by
  funext j
  unfold tr
  split
  · exact h j ‹_›
  · rfl
theorem tv_eq {N : Nat} {f g : Nat → Value} (h : ∀ j, j < N → f j = g j) : tv N f = tv N g := by
  funext j
  unfold tv
  split
  · exact h j ‹_›
  · rfl
theorem tr_s {N i : Nat} {f : Nat → Int32} {x : Int32} (h : i < N) : kuf (tr N f) i x = tr N (kuf f i x) := by
  funext j
  by_cases h1 : j = i
  · subst h1
    exact (if_pos rfl).trans ((if_pos h).trans (if_pos rfl)).symm
  · refine (if_neg h1).trans ?_
    unfold tr
    by_cases h2 : j < N
    · rw [if_pos h2, if_pos h2]
      exact (if_neg h1).symm
    · rw [if_neg h2, if_neg h2]
theorem tv_s {N i : Nat} {f : Nat → Value} {x : Value} (h : i < N) : kuF (tv N f) i x = tv N (kuF f i x) := by
  funext j
  by_cases h1 : j = i
  · subst h1
    exact (if_pos rfl).trans ((if_pos h).trans (if_pos rfl)).symm
  · refine (if_neg h1).trans ?_
    unfold tv
    by_cases h2 : j < N
    · rw [if_pos h2, if_pos h2]
      exact (if_neg h1).symm
    · rw [if_neg h2, if_neg h2]
/-- a parcel's fields -/
def pF (P : Nat → Int32) : Nat → Value := fun k => if k < 7 then .int (P k) else .null
theorem pF_eq {P P' : Nat → Int32} (h : ∀ k, k < 7 → P k = P' k) : pF P = pF P' := by
  funext k
  unfold pF
  split
  · rw [h k ‹_›]
  · rfl
theorem pF_s {P : Nat → Int32} {k : Nat} {v : Int32} (hk : k < 7) : kuF (pF P) k (.int v) = pF (kuf P k v) := by
  funext j
  unfold kuF pF kuf
  by_cases h : j = k
  · rw [if_pos h, if_pos h, if_pos (by omega)]
  · rw [if_neg h, if_neg h]
/-- an office's -/
def oF (o : Nat) (s : Nat → Int32) : Nat → Value := fun k => match k with
  | 0 => .ref (o + 1)
  | 1 => .ref (o + 2)
  | 2 => .ref (o + 3)
  | 3 => .ref (o + 4)
  | 4 => .int (s 20)
  | 5 => .int (s 70)
  | 6 => .int (s 71)
  | 7 => .int (s 72)
  | 8 => .int (s 73)
  | 9 => .int (s 74)
  | _ => .null
/-- the office at o tells the numbers s, of c parcels; its row of parcels is turned by σ -/
def offP (w : kM) (o : Nat) (s : Nat → Int32) (c : Nat) (σ : Nat → Nat) : Prop :=
  w o = kO 1 (oF o s) ∧ w (o + 1) = kV 5 7 (tv 7 (fun k => .ref (o + 5 + σ k))) ∧ w (o + 2) = kI 0 12 (tr 12 (fun j => s (4 + j))) ∧ w (o + 3) = kI 0 4 (tr 4 (fun j => s (16 + j))) ∧ w (o + 4) = kI 0 4 (tr 4 s) ∧
  (∀ k, k < 7 → σ k < 7) ∧ (∀ i, i < 7 → ∀ j, j < 7 → σ i = σ j → i = j) ∧ (∀ k, k < c → w (o + 5 + σ k) = kO 2 (pF (pa s (21 + 7 * k)))) ∧ (∀ k, k < 7 → ∃ P, w (o + 5 + σ k) = kO 2 (pF P)) ∧ s 20 = nI c ∧ c ≤ 7
section OFP
variable {w : kM} {o : Nat} {s : Nat → Int32} {c : Nat} {σ : Nat → Nat}
theorem offP.ob (H : offP w o s c σ) : w o = kO 1 (oF o s) := H.1
theorem offP.ps (H : offP w o s c σ) : w (o + 1) = kV 5 7 (tv 7 (fun k => .ref (o + 5 + σ k))) := H.2.1
theorem offP.pr (H : offP w o s c σ) : w (o + 2) = kI 0 12 (tr 12 (fun j => s (4 + j))) := H.2.2.1
theorem offP.fa (H : offP w o s c σ) : w (o + 3) = kI 0 4 (tr 4 (fun j => s (16 + j))) := H.2.2.2.1
theorem offP.se (H : offP w o s c σ) : w (o + 4) = kI 0 4 (tr 4 s) := H.2.2.2.2.1
theorem offP.lt (H : offP w o s c σ) : ∀ k, k < 7 → σ k < 7 := H.2.2.2.2.2.1
theorem offP.inj (H : offP w o s c σ) : ∀ i, i < 7 → ∀ j, j < 7 → σ i = σ j → i = j := H.2.2.2.2.2.2.1
theorem offP.par (H : offP w o s c σ) : ∀ k, k < c → w (o + 5 + σ k) = kO 2 (pF (pa s (21 + 7 * k))) := H.2.2.2.2.2.2.2.1
theorem offP.any (H : offP w o s c σ) : ∀ k, k < 7 → ∃ P, w (o + 5 + σ k) = kO 2 (pF P) := H.2.2.2.2.2.2.2.2.1
theorem offP.sz (H : offP w o s c σ) : s 20 = nI c := H.2.2.2.2.2.2.2.2.2.1
theorem offP.c7 (H : offP w o s c σ) : c ≤ 7 := H.2.2.2.2.2.2.2.2.2.2
/-- only the twelve cells matter -/
theorem offP.fr {w' : kM} (H : offP w o s c σ) (h : ∀ k, o ≤ k → k < o + 12 → w' k = w k) : offP w' o s c σ := by
  refine ⟨(h _ (by omega) (by omega)).trans H.ob, (h _ (by omega) (by omega)).trans H.ps, (h _ (by omega) (by omega)).trans H.pr, (h _ (by omega) (by omega)).trans H.fa, (h _ (by omega) (by omega)).trans H.se, H.lt, H.inj, fun k hk => ?_, fun k hk => ?_, H.sz, H.c7⟩
  · have := H.lt k (by have := H.c7; omega)
    exact (h _ (by omega) (by omega)).trans (H.par k hk)
  · have := H.lt k hk
    obtain ⟨P, hP⟩ := H.any k hk
    exact ⟨P, (h _ (by omega) (by omega)).trans hP⟩
/-- only the office's own numbers matter -/
theorem offP.cg {s' : Nat → Int32} (H : offP w o s c σ) (h : ∀ i, i < 75 → i < 21 + 7 * c ∨ 70 ≤ i → s' i = s i) : offP w o s' c σ := by
  have h7 := H.c7
  refine ⟨H.ob.trans (congrArg (kO 1) ?_), H.ps, H.pr.trans (congrArg (kI 0 12) (tr_eq fun j hj => (h _ (by omega) (by omega)).symm)), H.fa.trans (congrArg (kI 0 4) (tr_eq fun j hj => (h _ (by omega) (by omega)).symm)), H.se.trans (congrArg (kI 0 4) (tr_eq fun j hj => (h _ (by omega) (by omega)).symm)), H.lt, H.inj, fun k hk => (H.par k hk).trans (congrArg (kO 2) (pF_eq fun i hi => (h _ (by omega) (by omega)).symm)), H.any, (h 20 (by omega) (by omega)).trans H.sz, h7⟩
  unfold oF
  rw [h 20 (by omega) (by omega), h 70 (by omega) (by omega), h 71 (by omega) (by omega), h 72 (by omega) (by omega), h 73 (by omega) (by omega), h 74 (by omega) (by omega)]
end OFP
section KT
variable {X : Nat × (Nat → Int32)} {M : kMi} {dd : Nat} {Q : kQ} {rc rs n : Nat} {w : kM} {L : List (Nat × Value)} {st : List Value}
theorem kw_ialoadT {pc a N i : Nat} {f : Nat → Int32} {j : Int32} (d : decode M.2.1 pc = .ok (.iaload, 1)) (h : w a = kI 0 N (tr N f)) (hj : j = nI i) (hi : i < N) (hN : N < 100000) (kk : kW X M dd Q rc rs n w (pc + 1) L (.int (f i) :: st)) : kW X M dd Q rc rs n w pc L (.int j :: .ref a :: st) := by
  refine kw_ialoadN d h hj hi hN ?_
  rw [tr_lt hi]
  exact kk
theorem kw_zaloadT {pc a N i : Nat} {f : Nat → Int32} {j : Int32} (d : decode M.2.1 pc = .ok (.baload, 1)) (h : w a = kI 1 N (tr N f)) (hj : j = nI i) (hi : i < N) (hN : N < 100000) (kk : kW X M dd Q rc rs n w (pc + 1) L (.int (f i) :: st)) : kW X M dd Q rc rs n w pc L (.int j :: .ref a :: st) := by
  refine kw_zaloadN d h hj hi hN ?_
  rw [tr_lt hi]
  exact kk
theorem kw_iastoreT {pc a N i : Nat} {f : Nat → Int32} {j x : Int32} (d : decode M.2.1 pc = .ok (.iastore, 1)) (h : w a = kI 0 N (tr N f)) (hj : j = nI i) (hi : i < N) (hN : N < 100000) (kk : kW X M dd Q rc rs n (kup w a (kI 0 N (tr N (kuf f i x)))) (pc + 1) L st) : kW X M dd Q rc rs n w pc L (.int x :: .int j :: .ref a :: st) := by
  refine kw_iastoreN d h hj hi hN ?_
  rw [tr_s hi]
  exact kk
theorem kw_aaloadT {pc a N i t o : Nat} {f : Nat → Value} {j : Int32} (d : decode M.2.1 pc = .ok (.aaload, 1)) (h : w a = kV t N (tv N f)) (ht : (kaT t).isReference = true) (hj : j = nI i) (hi : i < N) (hN : N < 100000) (ho : f i = .ref o) (kk : kW X M dd Q rc rs n w (pc + 1) L (.ref o :: st)) : kW X M dd Q rc rs n w pc L (.int j :: .ref a :: st) :=
  kw_aaload d h ht (by rw [hj]; exact vp_in_nI hi (by omega)) (by rw [kcl0 hj (by omega), tv_lt hi]; exact ho) kk
theorem kw_aastoreT {pc a N i t o ci : Nat} {r : vw_C} {f F : Nat → Value} {j : Int32} (d : decode M.2.1 pc = .ok (.aastore, 1)) (h : w a = kV t N (tv N f)) (hr : kcl[ci]? = some r) (ht : kaT t = .object r.1) (hj : j = nI i) (hi : i < N) (hN : N < 100000) (ho : w o = kO ci F) (kk : kW X M dd Q rc rs n (kup w a (kV t N (tv N (kuF f i (.ref o))))) (pc + 1) L st) : kW X M dd Q rc rs n w pc L (.ref o :: .int j :: .ref a :: st) := by
  refine kw_aastore d h hr ht (by rw [hj]; exact vp_in_nI hi (by omega)) ho ?_
  rw [kcl0 hj (by omega), tv_s hi]
  exact kk
/-- a world by a name -/
theorem kgen {pc : Nat} (h : ∀ w1, w1 = w → kW X M dd Q rc rs n w1 pc L st) : kW X M dd Q rc rs n w pc L st := h w rfl
end KT
theorem wyP_self {P : Nat → Int32} : wyP P (P 6) = P := by
  funext k
  unfold wyP
  by_cases h : k = 6
  · rw [if_pos h, h]
  · rw [if_neg h]
theorem div50 : ∀ n : Nat, 601 ≤ n → n < 2147483648 → ¬ (nI n - 1) / 50 < 0 ∧ ¬ (nI n - 1) / 50 < 12 := by
  intro n h1 h2
  have e : nI n - 1 = nI (n - 1) := kS (a := n) (b := 1) rfl rfl (by omega)
  have e2 : ((nI (n - 1)) / 50).toInt = ((n - 1) / 50 : Nat) := by
    rw [Int32.toInt_div_of_ne_right _ _ (by decide), nI_toInt (by omega)]
    have : (50 : Int32).toInt = 50 := by decide
    rw [this, Int.tdiv_eq_ediv_of_nonneg (by omega)]
    omega
  rw [e, Int32.lt_iff_toInt_lt, Int32.lt_iff_toInt_lt, e2]
  have z : (0 : Int32).toInt = 0 := by decide
  have z2 : (12 : Int32).toInt = 12 := by decide
  rw [z, z2]
  omega
theorem bnd_big {z : Int32} (h : 600 < z) : ¬ (z - 1) / 50 < 0 ∧ ¬ (z - 1) / 50 < 12 := by
  obtain ⟨n, h1, h2, rfl⟩ := rngN (v := z) (lo := 601) (hi := 2147483647) (by decide) (by decide) ⟨by rw [show nI 601 = 601 from rfl]; grind, by
    rw [Int32.le_iff_toInt_le, nI_toInt (by decide)]
    have := z.toInt_lt
    omega⟩
  exact div50 n h1 (by omega)
