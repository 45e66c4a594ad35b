def updN (mu : Nat → Nat) (k j : Nat) : Nat → Nat := fun i => if i = k then j else mu i
def frN (mu : Nat → Nat) (p : Nat) : Nat → Bool
  | 0 => true
  | k + 1 => frN mu p k && decide (mu k ≠ p)
def chB (s : Nat → Int32) (mu : Nat → Nat) (k j : Nat) : Bool := if j < k then decide (mu j = k) else frN mu k k && (decide (j = k) || (frN mu j k && decide (bdS s k j ≠ -1)))
def upL (L x : Int32) : Int32 := if L = -1 ∨ x < L then x else L
def dsI (f : Nat → Int32 → Int32) (c : Nat) : Nat → Int32 → Int32
  | 0, L => L
  | r + 1, L => dsI f c r (f (c - (r + 1)) L)
/-- by trying: the parcels from c - d on are given their mates -/
def dsF (s : Nat → Int32) (c : Nat) : Nat → (Nat → Nat) → Int32 → Int32
  | 0, mu, L => upL L (cosN s mu c)
  | d + 1, mu, L => dsI (fun j L => if chB s mu (c - (d + 1)) j = true then dsF s c d (updN mu (c - (d + 1)) j) L else L) c c L
theorem frB_frN {ma : Nat → Int32} {mu : Nat → Nat} {p : Nat} (hp : p < 100) : ∀ k, (∀ i, i < k → ma i = nI (mu i) ∧ mu i < 100) → frB ma (nI p) k = frN mu p k
  | 0, _ => rfl
  | k + 1, h => by
    unfold frB frN
    rw [frB_frN hp k (fun i hi => h i (by omega)), (h k (by omega)).1]
    have h2 := (h k (by omega)).2
    have e : (nI (mu k) = nI p) ↔ mu k = p := kEqI (a := mu k) (b := p) (by omega) (by omega) rfl rfl
    by_cases h3 : mu k = p
    · rw [h3]; simp
    · simp [h3, e]
theorem chH_chB {s ma : Nat → Int32} {mu : Nat → Nat} {k j : Nat} (hk : k < 100) (hj : j < 100) (h : ∀ i, i < k → ma i = nI (mu i) ∧ mu i < 100) : chH s ma k j ↔ chB s mu k j = true := by
  unfold chH chB
  by_cases h1 : j < k
  · rw [if_pos h1, if_pos h1, (h j h1).1]
    have e : (nI (mu j) = nI k) ↔ mu j = k := kEqI (a := mu j) (b := k) (by have := (h j h1).2; omega) (by omega) rfl rfl
    simp [e]
  · rw [if_neg h1, if_neg h1, frB_frN hk k h, frB_frN hj k h]
    simp
