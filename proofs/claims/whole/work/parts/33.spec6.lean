/-- the model's cells, its scratch numbers being any -/
def mSt (w0 : kM) (mo : Nat) (s : Nat → Int32) (sv : Int32) (kp bf : Nat → Int32) (ty th : Int32) : kM → Prop := fun w' => ∃ (s' co ma : Nat → Int32) (sp : Int32), w' = mM w0 mo s' sv kp bf ty th co ma sp ∧ agr s s'
section G6
variable {w0 : kM} {mo : Nat} {s : Nat → Int32} {sv : Int32} {kp bf : Nat → Int32} {ty th : Int32} {co ma : Nat → Int32} {sp : Int32} {w : kM}
theorem c_goes1 {x y : Int32} (hx : ¬ x = 0) (hy : ¬ y = 0) : kCtrW mX6_goes 0 [.ref mo, .int x, .int y] (mM w0 mo s sv kp bf ty th co ma sp) (some (.int 1)) (fun w' => w' = mM w0 mo s sv kp bf ty 0 co ma sp) := by
  have h := c_goes (w0 := w0) (mo := mo) (s := s) (sv := sv) (kp := kp) (bf := bf) (ty := ty) (th := th) (co := co) (ma := ma) (sp := sp) x y
  rw [b2i_t ⟨hx, hy⟩, show goesT x y = 0 by simp [goesT, hx, hy]] at h
  exact h
theorem c_goesA {x y : Int32} (hx : x = 0) : kCtrW mX6_goes 0 [.ref mo, .int x, .int y] (mM w0 mo s sv kp bf ty th co ma sp) (some (.int 0)) (fun w' => w' = mM w0 mo s sv kp bf ty 1 co ma sp) := by
  have h := c_goes (w0 := w0) (mo := mo) (s := s) (sv := sv) (kp := kp) (bf := bf) (ty := ty) (th := th) (co := co) (ma := ma) (sp := sp) x y
  rw [b2i_f (fun q => q.1 hx), show goesT x y = 1 by simp [goesT, hx]] at h
  exact h
theorem c_goesB {x y : Int32} (hx : ¬ x = 0) (hy : y = 0) : kCtrW mX6_goes 0 [.ref mo, .int x, .int y] (mM w0 mo s sv kp bf ty th co ma sp) (some (.int 0)) (fun w' => w' = mM w0 mo s sv kp bf ty 2 co ma sp) := by
  have h := c_goes (w0 := w0) (mo := mo) (s := s) (sv := sv) (kp := kp) (bf := bf) (ty := ty) (th := th) (co := co) (ma := ma) (sp := sp) x y
  rw [b2i_f (fun q => q.2 hy), show goesT x y = 2 by simp [goesT, hx, hy]] at h
  exact h
theorem c_inT {v lo hi : Int32} (h : lo ≤ v ∧ v ≤ hi) : kCtrR mX6_in 0 [.int v, .int lo, .int hi] w (.int 1) := by
  have := c_in (w := w) v lo hi
  rw [b2i_t h] at this
  exact this
theorem c_isSideT {v : Int32} (h : 1 ≤ v ∧ v ≤ 60) : kCtrR mX6_isSide 1 [.int v] w (.int 1) := by
  have := c_isSide (w := w) v
  rw [b2i_t h] at this
  exact this
theorem c_isSlotT {v : Int32} (h : v = 0 ∨ v = 1) : kCtrR mX6_isSlot 0 [.int v] w (.int 1) := by
  have := c_isSlot (w := w) v
  rw [b2i_t h] at this
  exact this
theorem c_isSlotF {v : Int32} (h : ¬ (v = 0 ∨ v = 1)) : kCtrR mX6_isSlot 0 [.int v] w (.int 0) := by
  have := c_isSlot (w := w) v
  rw [b2i_f h] at this
  exact this
theorem c_isValueT {st v : Int32} (h : (if st = 1 then 50 else 0) ≤ v ∧ v ≤ (if st = 1 then 300 else if st = 3 then 50 else 20)) : kCtrR mX6_isValue 1 [.int st, .int v] w (.int 1) := by
  have := c_isValue (w := w) st v
  rw [b2i_t h] at this
  exact this
theorem isP_iff {s : Nat → Int32} {c : Nat} (hc : s 20 = nI c) (hc7 : c ≤ 7) (p : Int32) : (0 ≤ p ∧ p ≤ s 20 - 1) ↔ ∃ k, k < c ∧ p = nI k := by
  have e1 : (s 20 - 1).toInt = (c : Int) - 1 := by
    rw [hc]
    match c, hc7 with
    | 0, _ => decide
    | 1, _ => decide
    | 2, _ => decide
    | 3, _ => decide
    | 4, _ => decide
    | 5, _ => decide
    | 6, _ => decide
    | 7, _ => decide
  constructor
  · rintro ⟨h1, h2⟩
    rw [Int32.le_iff_toInt_le] at h1 h2
    rw [e1] at h2
    have h0 : (0 : Int32).toInt = 0 := by decide
    rw [h0] at h1
    refine ⟨p.toInt.toNat, by omega, ?_⟩
    rw [← Int32.toInt_inj, nI_toInt (by omega)]
    omega
  · rintro ⟨k, hk, rfl⟩
    rw [Int32.le_iff_toInt_le, Int32.le_iff_toInt_le, e1, nI_toInt (by omega)]
    have h0 : (0 : Int32).toInt = 0 := by decide
    rw [h0]
    omega
theorem c_isParcelT {c k : Nat} (hc : s 20 = nI c) (hc7 : c ≤ 7) (hk : k < c) : kCtrR mX6_isParcel 1 [.ref mo, .int (nI k)] (mM w0 mo s sv kp bf ty th co ma sp) (.int 1) := by
  have h := c_isParcel (w0 := w0) (mo := mo) (s := s) (sv := sv) (kp := kp) (bf := bf) (ty := ty) (th := th) (co := co) (ma := ma) (sp := sp) (nI k)
  rw [b2i_t ((isP_iff hc hc7 _).mpr ⟨k, hk, rfl⟩)] at h
  exact h
theorem c_isParcelF {c : Nat} {p : Int32} (hc : s 20 = nI c) (hc7 : c ≤ 7) (hp : ¬ ∃ k, k < c ∧ p = nI k) : kCtrR mX6_isParcel 1 [.ref mo, .int p] (mM w0 mo s sv kp bf ty th co ma sp) (.int 0) := by
  have h := c_isParcel (w0 := w0) (mo := mo) (s := s) (sv := sv) (kp := kp) (bf := bf) (ty := ty) (th := th) (co := co) (ma := ma) (sp := sp) p
  rw [b2i_f (fun q => hp ((isP_iff hc hc7 _).mp q))] at h
  exact h
end G6
def sentS (s : Nat → Int32) (k c : Nat) (z : Int32) : Nat → Int32 := goneS (kuf (kuf s 70 (s 70 + z)) 71 (s 71 + 1)) k c
