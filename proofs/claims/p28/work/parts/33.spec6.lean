/-- the model's cells, its scratch numbers being any -/
def mSt (w0 : kM) (mo : Nat) (s : Nat → Int32) (sv : Int32) (kp bf : Nat → Int32) (ty th : Int32) : kM → Prop := fun w' => ∃ (s' co ma : Nat → Int32) (sp : Int32), w' = mM w0 mo s' sv kp bf ty th co ma sp ∧ agr s s'
section G6
variable {w0 : kM} {mo : Nat} {s : Nat → Int32} {sv : Int32} {kp bf : Nat → Int32} {ty th : Int32} {co ma : Nat → Int32} {sp : Int32} {w : kM}
theorem isP_iff {s : Nat → Int32} {c : Nat} (hc : s 20 = nI c) (hc7 : c ≤ 7) (p : Int32) : (0 ≤ p ∧ p ≤ s 20 - 1) ↔ ∃ k, k < c ∧ p = nI k := by
  have e1 : (s 20 - 1).toInt = (c : Int) - 1 := by
    rw [hc]
    match c, hc7 with
    | 0, _ => decide
    | 1, _ => decide
    | 2, _ => decide
    | 3, _ => decide
    | 4, _ => decide
    | 5, _ => decide
    | 6, _ => decide
    | 7, _ => decide
  constructor
  · rintro ⟨h1, h2⟩
    rw [Int32.le_iff_toInt_le] at h1 h2
    rw [e1] at h2
    have h0 : (0 : Int32).toInt = 0 := by decide
    rw [h0] at h1
    refine ⟨p.toInt.toNat, by omega, ?_⟩
    rw [← Int32.toInt_inj, nI_toInt (by omega)]
    omega
  · rintro ⟨k, hk, rfl⟩
    rw [Int32.le_iff_toInt_le, Int32.le_iff_toInt_le, e1, nI_toInt (by omega)]
    have h0 : (0 : Int32).toInt = 0 := by decide
    rw [h0]
    omega
end G6
def sentS (s : Nat → Int32) (k c : Nat) (z : Int32) : Nat → Int32 := goneS (kuf (kuf s 70 (s 70 + z)) 71 (s 71 + 1)) k c
