theorem come_r20 {s : Nat → Int32} {p : Nat} {x y z wt zn wy : Int32} (hp : 21 ≤ p) : comeR s p x y z wt zn wy 20 = s 20 := by
  unfold comeR putS kuf
  rw [if_neg (by omega), if_neg (by omega), if_neg (by omega), if_neg (by omega), if_neg (by omega), if_neg (by omega), if_neg (by omega)]
theorem come_s {s : Nat → Int32} {c : Nat} {x y z wt zn wy : Int32} (hc : s 20 = nI c) (h : c < 7) : kuf (comeR s (21 + 7 * c) x y z wt zn wy) 20 (comeR s (21 + 7 * c) x y z wt zn wy 20 + 1) = kuf (comeR s (21 + 7 * c) x y z wt zn wy) 20 (nI (c + 1)) := by
  rw [come_r20 (by omega), kA hc (rfl : (1 : Int32) = nI 1)]
theorem come_v {s : Nat → Int32} {c : Nat} {x y z wt zn wy : Int32} (hc : s 20 = nI c) (h : c < 7) : kuf (comeR s (21 + 7 * c) x y z wt zn wy) 20 (comeR s (21 + 7 * c) x y z wt zn wy 20 + 1) 20 - 1 = nI c := by
  rw [come_s hc h]
  unfold kuf
  rw [if_pos rfl]
  exact kS (a := c + 1) (b := 1) rfl rfl (by omega)
