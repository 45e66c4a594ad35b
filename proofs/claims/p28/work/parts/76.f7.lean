theorem rwH_app {f : Nat → Int32} {a : Nat} {h : Int64} : ∀ b, rwH f (a + b) h = rwH (fun j => f (a + j)) b (rwH f a h)
  | 0 => rfl
  | b + 1 => by
    show fo (rwH f (a + b) h) (f (a + b)) = fo (rwH (fun j => f (a + j)) b (rwH f a h)) (f (a + b))
    rw [rwH_app b]
theorem rwH_cg {f g : Nat → Int32} {h : Int64} : ∀ b, (∀ j, j < b → f j = g j) → rwH f b h = rwH g b h
  | 0, _ => rfl
  | b + 1, e => by
    show fo (rwH f b h) (f b) = fo (rwH g b h) (g b)
    rw [rwH_cg b (fun j hj => e j (by omega)), e b (by omega)]
def kpH (kp : Nat → Int32) : Nat → Int64 → Int64
  | 0, h => h
  | i + 1, h => fo (kpH kp i h) (if kp i = 0 then 0 else 1)
