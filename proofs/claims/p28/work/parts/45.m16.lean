def dgT (s : Nat → Int32) (sv : Int32) (kp : Nat → Int32) (T c : Nat) : Int64 := fo (fo (fo (31 * dgB s sv c + (shS s c).toInt64) (if kp 0 = 0 then 0 else 1)) (if kp 1 = 0 then 0 else 1)) (nI T)
theorem opF_step {s : Nat → Int32} {c k : Nat} {x : Int64} : opH s c (k + 1) x = opF s c (opH s c k x) k := rfl
theorem rwH_step {f : Nat → Int32} {j : Nat} {x : Int64} : rwH f (j + 1) x = fo (rwH f j x) (f j) := rfl
