section KR
variable {X : Nat × (Nat → Int32)} {M : kMi} {dd : Nat} {Q : kQ} {rc rs n : Nat} {w : kM} {L : List (Nat × Value)} {st : List Value}
theorem lv_mono {ls : Array Slot} {nL : Nat} {l l' : List (Nat × Value)} (h : lv_has ls nL l) (hs : ∀ q ∈ l', q ∈ l) : lv_has ls nL l' := ⟨h.1, h.2.1, fun q hq => h.2.2 q (hs q hq)⟩
def kget : List (Nat × Value) → Nat → Option Value
  | [], _ => none
  | q :: t, i => bif Nat.beq q.1 i then some q.2 else kget t i
theorem kget_mem {i : Nat} {v : Value} : ∀ {L : List (Nat × Value)}, kget L i = some v → (i, v) ∈ L
  | [], h => by cases h
  | q :: t, h => by
    unfold kget at h
    cases hb : Nat.beq q.1 i with
    | true =>
      rw [hb] at h
      have h1 : q.2 = v := Option.some.inj h
      have h2 : q.1 = i := Nat.eq_of_beq_eq_true hb
      rw [← h1, ← h2]
      exact List.mem_cons_self
    | false =>
      rw [hb] at h
      exact List.mem_cons_of_mem _ (kget_mem h)
theorem kget_at {ls : Array Slot} {nL i : Nat} {v : Value} {G : kG} {b : Nat} (hl : lv_has ls nL (L.map fun q => (q.1, kcv G b q.2))) (h : kget L i = some v) : ls[i]? = some (.val (kcv G b v)) :=
  hl.2.2 (i, kcv G b v) (List.mem_map.mpr ⟨(i, v), kget_mem h, rfl⟩)
/-- a local of one slot is written: what stood at i goes; nothing of two slots ends there -/
def kset (L : List (Nat × Value)) (i : Nat) (v : Value) : List (Nat × Value) := (i, v) :: L.filter (fun q => !(Nat.beq q.1 i))
def kset2 (L : List (Nat × Value)) (i : Nat) (v : Value) : List (Nat × Value) := (i, v) :: L.filter (fun q => !(Nat.beq q.1 i) && !(Nat.beq q.1 (i + 1)))
def kok : List (Nat × Value) → Nat → Bool
  | [], _ => true
  | q :: t, i => bif Nat.beq (q.1 + 1) i then (Nat.beq q.2.category 1 && kok t i) else kok t i
theorem kok_all {i : Nat} : ∀ {L : List (Nat × Value)}, kok L i = true → ∀ q ∈ L, q.1 + 1 = i → q.2.category = 1
  | [], _, q, hq, _ => by cases hq
  | a :: t, h, q, hq, he => by
    unfold kok at h
    cases hb : Nat.beq (a.1 + 1) i with
    | true =>
      rw [hb] at h
      simp only [cond_true, Bool.and_eq_true] at h
      rcases List.mem_cons.mp hq with e | e
      · rw [e]; exact Nat.eq_of_beq_eq_true h.1
      · exact kok_all h.2 q e he
    | false =>
      rw [hb] at h
      rcases List.mem_cons.mp hq with e | e
      · rw [← e, he] at hb
        rw [Nat.beq_refl] at hb
        cases hb
      · exact kok_all h q e he
theorem kset_in {G : kG} {b i : Nat} {v : Value} (h : kok L i = true) : ∀ q ∈ ((kset L i v).map fun q => (q.1, kcv G b q.2)), q ∈ (i, kcv G b v) :: (L.map fun q => (q.1, kcv G b q.2)).filter (fun q => !(q.1 == i) && !(q.1 + 1 == i && q.2.category == 2)) := by
  intro q hq
  obtain ⟨z, hz, rfl⟩ := List.mem_map.mp hq
  rcases List.mem_cons.mp hz with e | e
  · rw [e]; exact List.mem_cons_self
  · obtain ⟨h1, h2⟩ := List.mem_filter.mp e
    refine List.mem_cons_of_mem _ (List.mem_filter.mpr ⟨List.mem_map.mpr ⟨z, h1, rfl⟩, ?_⟩)
    have hne : ¬ z.1 = i := fun q => by
      rw [q] at h2
      simp at h2
    have hcat : z.1 + 1 = i → z.2.category = 1 := kok_all h z h1
    simp only [kcv_cat]
    by_cases h3 : z.1 + 1 = i
    · simp [hne, hcat h3]
    · simp [hne, h3]
theorem kset2_in {G : kG} {b i : Nat} {v : Value} (h : kok L i = true) : ∀ q ∈ ((kset2 L i v).map fun q => (q.1, kcv G b q.2)), q ∈ (i, kcv G b v) :: (L.map fun q => (q.1, kcv G b q.2)).filter (fun q => !(q.1 == i) && (!(q.1 == i + 1) && !(q.1 + 1 == i && q.2.category == 2))) := by
  intro q hq
  obtain ⟨z, hz, rfl⟩ := List.mem_map.mp hq
  rcases List.mem_cons.mp hz with e | e
  · rw [e]; exact List.mem_cons_self
  · obtain ⟨h1, h2⟩ := List.mem_filter.mp e
    refine List.mem_cons_of_mem _ (List.mem_filter.mpr ⟨List.mem_map.mpr ⟨z, h1, rfl⟩, ?_⟩)
    have hne : ¬ z.1 = i := fun q => by
      rw [q] at h2
      simp at h2
    have hne2 : ¬ z.1 = i + 1 := fun q => by
      rw [q] at h2
      simp at h2
    have hcat : z.1 + 1 = i → z.2.category = 1 := kok_all h z h1
    simp only [kcv_cat]
    by_cases h3 : z.1 + 1 = i
    · simp [hne, hne2, hcat h3]
    · simp [hne, hne2, h3]
/-- other words for the locals, the stack, the memory -/
theorem kW.loc {pc : Nat} {L' : List (Nat × Value)} (h : ∀ q ∈ L', q ∈ L) (k : kW X M dd Q rc rs n w pc L' st) : kW X M dd Q rc rs n w pc L st := by
  intro G b p l e R s m args below meth c H locs cells slots ls Z hO hE hR hS hc hs hl
  exact k G b p l e R s m args below meth c H locs cells slots ls Z hO hE hR hS hc hs (lv_mono hl (fun q hq => by
    obtain ⟨z, hz, rfl⟩ := List.mem_map.mp hq
    exact List.mem_map.mpr ⟨z, h z hz, rfl⟩))
theorem kW.eq {pc : Nat} {w' : kM} {st' : List Value} (hw : w = w') (hst : st = st') (k : kW X M dd Q rc rs n w' pc L st') : kW X M dd Q rc rs n w pc L st := by
  subst hw; subst hst; exact k
/-- fewer cells to be made -/
theorem kW.less {pc rc' rs' : Nat} (h1 : rc' ≤ rc) (h2 : rs' ≤ rs) (k : kW X M dd Q rc' rs' n w pc L st) : kW X M dd Q rc rs n w pc L st := by
  intro G b p l e R s m args below meth c H locs cells slots ls Z hO hE hR hS hc hs hl
  exact k G b p l e R s m args below meth c H locs cells slots ls Z hO hE hR hS (by omega) (by omega) hl
theorem kw_iconst {pc : Nat} {z : Int} {v : Int32} (d : decode M.2.1 pc = .ok (.iconst z, 1)) (hv : Int32.ofInt z = v) (k : kW X M dd Q rc rs n w (pc + 1) L (.int v :: st)) : kW X M dd Q rc rs n w pc L (st) := by
  intro G b p l e R s m args below meth c H locs cells slots ls Z hO hE hR hS hc hs hl
  exact lv_iconst hO.1 hO.2.1 d hv (k G b p l e R s m args below meth c H locs cells slots ls Z hO hE hR hS hc hs hl)
theorem kw_bipush {pc : Nat} {z : Int} {v : Int32} (d : decode M.2.1 pc = .ok (.bipush z, 2)) (hv : (Int8.ofInt z).toInt32 = v) (k : kW X M dd Q rc rs n w (pc + 2) L (.int v :: st)) : kW X M dd Q rc rs n w pc L (st) := by
  intro G b p l e R s m args below meth c H locs cells slots ls Z hO hE hR hS hc hs hl
  exact lv_bipush hO.1 hO.2.1 d hv (k G b p l e R s m args below meth c H locs cells slots ls Z hO hE hR hS hc hs hl)
theorem kw_sipush {pc : Nat} {z : Int} {v : Int32} (d : decode M.2.1 pc = .ok (.sipush z, 3)) (hv : (Int16.ofInt z).toInt32 = v) (k : kW X M dd Q rc rs n w (pc + 3) L (.int v :: st)) : kW X M dd Q rc rs n w pc L (st) := by
  intro G b p l e R s m args below meth c H locs cells slots ls Z hO hE hR hS hc hs hl
  exact lv_sipush hO.1 hO.2.1 d hv (k G b p l e R s m args below meth c H locs cells slots ls Z hO hE hR hS hc hs hl)
theorem kw_lconst {pc : Nat} {z : Fin 2} {v : Int64} (d : decode M.2.1 pc = .ok (.lconst z, 1)) (hv : Int64.ofNat (z : Nat) = v) (k : kW X M dd Q rc rs n w (pc + 1) L (.long v :: st)) : kW X M dd Q rc rs n w pc L (st) := by
  intro G b p l e R s m args below meth c H locs cells slots ls Z hO hE hR hS hc hs hl
  exact lv_lconst hO.1 hO.2.1 d hv (k G b p l e R s m args below meth c H locs cells slots ls Z hO hE hR hS hc hs hl)
theorem kw_dconst0 {pc : Nat} (d : decode M.2.1 pc = .ok (.dconst 0, 1)) (k : kW X M dd Q rc rs n w (pc + 1) L (.double FP.dconst0 :: st)) : kW X M dd Q rc rs n w pc L (st) := by
  intro G b p l e R s m args below meth c H locs cells slots ls Z hO hE hR hS hc hs hl
  exact lv_dconst0 hO.1 hO.2.1 d (k G b p l e R s m args below meth c H locs cells slots ls Z hO hE hR hS hc hs hl)
theorem kw_dconst1 {pc : Nat} (d : decode M.2.1 pc = .ok (.dconst 1, 1)) (k : kW X M dd Q rc rs n w (pc + 1) L (.double FP.dconst1 :: st)) : kW X M dd Q rc rs n w pc L (st) := by
  intro G b p l e R s m args below meth c H locs cells slots ls Z hO hE hR hS hc hs hl
  exact lv_dconst1 hO.1 hO.2.1 d (k G b p l e R s m args below meth c H locs cells slots ls Z hO hE hR hS hc hs hl)
theorem kw_iadd {pc : Nat} {x y : Int32} (d : decode M.2.1 pc = .ok (.iadd, 1)) (k : kW X M dd Q rc rs n w (pc + 1) L (.int (x + y) :: st)) : kW X M dd Q rc rs n w pc L (.int y :: .int x :: st) := by
  intro G b p l e R s m args below meth c H locs cells slots ls Z hO hE hR hS hc hs hl
  exact lv_iadd hO.1 hO.2.1 d (k G b p l e R s m args below meth c H locs cells slots ls Z hO hE hR hS hc hs hl)
theorem kw_isub {pc : Nat} {x y : Int32} (d : decode M.2.1 pc = .ok (.isub, 1)) (k : kW X M dd Q rc rs n w (pc + 1) L (.int (x - y) :: st)) : kW X M dd Q rc rs n w pc L (.int y :: .int x :: st) := by
  intro G b p l e R s m args below meth c H locs cells slots ls Z hO hE hR hS hc hs hl
  exact lv_isub hO.1 hO.2.1 d (k G b p l e R s m args below meth c H locs cells slots ls Z hO hE hR hS hc hs hl)
theorem kw_imul {pc : Nat} {x y : Int32} (d : decode M.2.1 pc = .ok (.imul, 1)) (k : kW X M dd Q rc rs n w (pc + 1) L (.int (x * y) :: st)) : kW X M dd Q rc rs n w pc L (.int y :: .int x :: st) := by
  intro G b p l e R s m args below meth c H locs cells slots ls Z hO hE hR hS hc hs hl
  exact lv_imul hO.1 hO.2.1 d (k G b p l e R s m args below meth c H locs cells slots ls Z hO hE hR hS hc hs hl)
theorem kw_iand {pc : Nat} {x y : Int32} (d : decode M.2.1 pc = .ok (.iand, 1)) (k : kW X M dd Q rc rs n w (pc + 1) L (.int (x &&& y) :: st)) : kW X M dd Q rc rs n w pc L (.int y :: .int x :: st) := by
  intro G b p l e R s m args below meth c H locs cells slots ls Z hO hE hR hS hc hs hl
  exact lv_iand hO.1 hO.2.1 d (k G b p l e R s m args below meth c H locs cells slots ls Z hO hE hR hS hc hs hl)
theorem kw_ior {pc : Nat} {x y : Int32} (d : decode M.2.1 pc = .ok (.ior, 1)) (k : kW X M dd Q rc rs n w (pc + 1) L (.int (x ||| y) :: st)) : kW X M dd Q rc rs n w pc L (.int y :: .int x :: st) := by
  intro G b p l e R s m args below meth c H locs cells slots ls Z hO hE hR hS hc hs hl
  exact lv_ior hO.1 hO.2.1 d (k G b p l e R s m args below meth c H locs cells slots ls Z hO hE hR hS hc hs hl)
theorem kw_ixor {pc : Nat} {x y : Int32} (d : decode M.2.1 pc = .ok (.ixor, 1)) (k : kW X M dd Q rc rs n w (pc + 1) L (.int (x ^^^ y) :: st)) : kW X M dd Q rc rs n w pc L (.int y :: .int x :: st) := by
  intro G b p l e R s m args below meth c H locs cells slots ls Z hO hE hR hS hc hs hl
  exact lv_ixor hO.1 hO.2.1 d (k G b p l e R s m args below meth c H locs cells slots ls Z hO hE hR hS hc hs hl)
theorem kw_idiv {pc : Nat} {x y : Int32} (d : decode M.2.1 pc = .ok (.idiv, 1)) (hne : ¬ y = 0) (k : kW X M dd Q rc rs n w (pc + 1) L (.int (x / y) :: st)) : kW X M dd Q rc rs n w pc L (.int y :: .int x :: st) := by
  intro G b p l e R s m args below meth c H locs cells slots ls Z hO hE hR hS hc hs hl
  exact lv_idiv hO.1 hO.2.1 d hne (k G b p l e R s m args below meth c H locs cells slots ls Z hO hE hR hS hc hs hl)
theorem kw_ineg {pc : Nat} {x : Int32} (d : decode M.2.1 pc = .ok (.ineg, 1)) (k : kW X M dd Q rc rs n w (pc + 1) L (.int (-x) :: st)) : kW X M dd Q rc rs n w pc L (.int x :: st) := by
  intro G b p l e R s m args below meth c H locs cells slots ls Z hO hE hR hS hc hs hl
  exact lv_ineg hO.1 hO.2.1 d (k G b p l e R s m args below meth c H locs cells slots ls Z hO hE hR hS hc hs hl)
theorem kw_ishl {pc : Nat} {x y : Int32} (d : decode M.2.1 pc = .ok (.ishl, 1)) (k : kW X M dd Q rc rs n w (pc + 1) L (.int (x <<< (y &&& 31)) :: st)) : kW X M dd Q rc rs n w pc L (.int y :: .int x :: st) := by
  intro G b p l e R s m args below meth c H locs cells slots ls Z hO hE hR hS hc hs hl
  exact lv_ishl hO.1 hO.2.1 d (k G b p l e R s m args below meth c H locs cells slots ls Z hO hE hR hS hc hs hl)
theorem kw_ishr {pc : Nat} {x y : Int32} (d : decode M.2.1 pc = .ok (.ishr, 1)) (k : kW X M dd Q rc rs n w (pc + 1) L (.int (x >>> (y &&& 31)) :: st)) : kW X M dd Q rc rs n w pc L (.int y :: .int x :: st) := by
  intro G b p l e R s m args below meth c H locs cells slots ls Z hO hE hR hS hc hs hl
  exact lv_ishr hO.1 hO.2.1 d (k G b p l e R s m args below meth c H locs cells slots ls Z hO hE hR hS hc hs hl)
theorem kw_ladd {pc : Nat} {x y : Int64} (d : decode M.2.1 pc = .ok (.ladd, 1)) (k : kW X M dd Q rc rs n w (pc + 1) L (.long (x + y) :: st)) : kW X M dd Q rc rs n w pc L (.long y :: .long x :: st) := by
  intro G b p l e R s m args below meth c H locs cells slots ls Z hO hE hR hS hc hs hl
  exact lv_ladd hO.1 hO.2.1 d (k G b p l e R s m args below meth c H locs cells slots ls Z hO hE hR hS hc hs hl)
theorem kw_lsub {pc : Nat} {x y : Int64} (d : decode M.2.1 pc = .ok (.lsub, 1)) (k : kW X M dd Q rc rs n w (pc + 1) L (.long (x - y) :: st)) : kW X M dd Q rc rs n w pc L (.long y :: .long x :: st) := by
  intro G b p l e R s m args below meth c H locs cells slots ls Z hO hE hR hS hc hs hl
  exact lv_lsub hO.1 hO.2.1 d (k G b p l e R s m args below meth c H locs cells slots ls Z hO hE hR hS hc hs hl)
theorem kw_lmul {pc : Nat} {x y : Int64} (d : decode M.2.1 pc = .ok (.lmul, 1)) (k : kW X M dd Q rc rs n w (pc + 1) L (.long (x * y) :: st)) : kW X M dd Q rc rs n w pc L (.long y :: .long x :: st) := by
  intro G b p l e R s m args below meth c H locs cells slots ls Z hO hE hR hS hc hs hl
  exact lv_lmul hO.1 hO.2.1 d (k G b p l e R s m args below meth c H locs cells slots ls Z hO hE hR hS hc hs hl)
theorem kw_lshl {pc : Nat} {x : Int64} {y : Int32} (d : decode M.2.1 pc = .ok (.lshl, 1)) (k : kW X M dd Q rc rs n w (pc + 1) L (.long (x <<< (y.toInt64 &&& 63)) :: st)) : kW X M dd Q rc rs n w pc L (.int y :: .long x :: st) := by
  intro G b p l e R s m args below meth c H locs cells slots ls Z hO hE hR hS hc hs hl
  exact lv_lshl hO.1 hO.2.1 d rfl (k G b p l e R s m args below meth c H locs cells slots ls Z hO hE hR hS hc hs hl)
theorem kw_lcmp {pc : Nat} {x y : Int64} (d : decode M.2.1 pc = .ok (.lcmp, 1)) (k : kW X M dd Q rc rs n w (pc + 1) L (.int (lg_cmp x y) :: st)) : kW X M dd Q rc rs n w pc L (.long y :: .long x :: st) := by
  intro G b p l e R s m args below meth c H locs cells slots ls Z hO hE hR hS hc hs hl
  exact W.lcmp hO.1 hO.2.1 d (k G b p l e R s m args below meth c H locs cells slots ls Z hO hE hR hS hc hs hl)
theorem kw_i2l {pc : Nat} {x : Int32} (d : decode M.2.1 pc = .ok (.i2l, 1)) (k : kW X M dd Q rc rs n w (pc + 1) L (.long x.toInt64 :: st)) : kW X M dd Q rc rs n w pc L (.int x :: st) := by
  intro G b p l e R s m args below meth c H locs cells slots ls Z hO hE hR hS hc hs hl
  exact lv_i2l hO.1 hO.2.1 d rfl (k G b p l e R s m args below meth c H locs cells slots ls Z hO hE hR hS hc hs hl)
theorem kw_i2c {pc : Nat} {x : Int32} (d : decode M.2.1 pc = .ok (.i2c, 1)) (k : kW X M dd Q rc rs n w (pc + 1) L (.int (x.toUInt32 % 65536).toInt32 :: st)) : kW X M dd Q rc rs n w pc L (.int x :: st) := by
  intro G b p l e R s m args below meth c H locs cells slots ls Z hO hE hR hS hc hs hl
  exact lv_i2c hO.1 hO.2.1 d rfl (k G b p l e R s m args below meth c H locs cells slots ls Z hO hE hR hS hc hs hl)
theorem kw_i2d {pc : Nat} {x : Int32} (d : decode M.2.1 pc = .ok (.i2d, 1)) (k : kW X M dd Q rc rs n w (pc + 1) L (.double (FP.i2d x) :: st)) : kW X M dd Q rc rs n w pc L (.int x :: st) := by
  intro G b p l e R s m args below meth c H locs cells slots ls Z hO hE hR hS hc hs hl
  exact lv_i2d hO.1 hO.2.1 d (k G b p l e R s m args below meth c H locs cells slots ls Z hO hE hR hS hc hs hl)
theorem kw_d2l {pc : Nat} {x : UInt64} (d : decode M.2.1 pc = .ok (.d2l, 1)) (k : kW X M dd Q rc rs n w (pc + 1) L (.long (FP.d2l x) :: st)) : kW X M dd Q rc rs n w pc L (.double x :: st) := by
  intro G b p l e R s m args below meth c H locs cells slots ls Z hO hE hR hS hc hs hl
  exact lv_d2l hO.1 hO.2.1 d (k G b p l e R s m args below meth c H locs cells slots ls Z hO hE hR hS hc hs hl)
theorem kw_dcmp {pc : Nat} {x y : UInt64} {op : CmpOp} (d : decode M.2.1 pc = .ok (.dcmp op, 1)) (k : kW X M dd Q rc rs n w (pc + 1) L (.int (Op.cmpValue (FP.dcmp x y) op) :: st)) : kW X M dd Q rc rs n w pc L (.double y :: .double x :: st) := by
  intro G b p l e R s m args below meth c H locs cells slots ls Z hO hE hR hS hc hs hl
  exact lv_dcmp hO.1 hO.2.1 d (k G b p l e R s m args below meth c H locs cells slots ls Z hO hE hR hS hc hs hl)
theorem kw_ddiv {pc : Nat} {x y : UInt64} (d : decode M.2.1 pc = .ok (.ddiv, 1)) (hne : vf_n64 (FP.ddiv x y)) (k : kW X M dd Q rc rs n w (pc + 1) L (.double (FP.ddiv x y) :: st)) : kW X M dd Q rc rs n w pc L (.double y :: .double x :: st) := by
  intro G b p l e R s m args below meth c H locs cells slots ls Z hO hE hR hS hc hs hl
  exact lv_ddiv hO.1 hO.2.1 d hne (k G b p l e R s m args below meth c H locs cells slots ls Z hO hE hR hS hc hs hl)
theorem kw_dsub {pc : Nat} {x y : UInt64} (d : decode M.2.1 pc = .ok (.dsub, 1)) (hne : vf_n64 (FP.dsub x y)) (k : kW X M dd Q rc rs n w (pc + 1) L (.double (FP.dsub x y) :: st)) : kW X M dd Q rc rs n w pc L (.double y :: .double x :: st) := by
  intro G b p l e R s m args below meth c H locs cells slots ls Z hO hE hR hS hc hs hl
  exact lv_dsub hO.1 hO.2.1 d hne (k G b p l e R s m args below meth c H locs cells slots ls Z hO hE hR hS hc hs hl)
theorem kw_dmul {pc : Nat} {x y : UInt64} (d : decode M.2.1 pc = .ok (.dmul, 1)) (hne : vf_n64 (FP.dmul x y)) (k : kW X M dd Q rc rs n w (pc + 1) L (.double (FP.dmul x y) :: st)) : kW X M dd Q rc rs n w pc L (.double y :: .double x :: st) := by
  intro G b p l e R s m args below meth c H locs cells slots ls Z hO hE hR hS hc hs hl
  exact lv_dmul hO.1 hO.2.1 d hne (k G b p l e R s m args below meth c H locs cells slots ls Z hO hE hR hS hc hs hl)
theorem kw_dup {pc : Nat} {v : Value} (d : decode M.2.1 pc = .ok (.dup, 1)) (hv : v.category = 1) (k : kW X M dd Q rc rs n w (pc + 1) L (v :: v :: st)) : kW X M dd Q rc rs n w pc L (v :: st) := by
  intro G b p l e R s m args below meth c H locs cells slots ls Z hO hE hR hS hc hs hl
  exact lv_dup hO.1 hO.2.1 d (by rw [kcv_cat]; exact hv) (k G b p l e R s m args below meth c H locs cells slots ls Z hO hE hR hS hc hs hl)
theorem kw_pop {pc : Nat} {v : Value} (d : decode M.2.1 pc = .ok (.pop, 1)) (hv : v.category = 1) (k : kW X M dd Q rc rs n w (pc + 1) L (st)) : kW X M dd Q rc rs n w pc L (v :: st) := by
  intro G b p l e R s m args below meth c H locs cells slots ls Z hO hE hR hS hc hs hl
  exact lv_pop hO.1 hO.2.1 d (by rw [kcv_cat]; exact hv) (k G b p l e R s m args below meth c H locs cells slots ls Z hO hE hR hS hc hs hl)
theorem kw_dup2 {pc : Nat} {v v2 : Value} (d : decode M.2.1 pc = .ok (.dup2, 1)) (hv : v.category = 1) (hv2 : v2.category = 1) (k : kW X M dd Q rc rs n w (pc + 1) L (v :: v2 :: v :: v2 :: st)) : kW X M dd Q rc rs n w pc L (v :: v2 :: st) := by
  intro G b p l e R s m args below meth c H locs cells slots ls Z hO hE hR hS hc hs hl
  exact lv_dup2_11 hO.1 hO.2.1 d (by rw [kcv_cat]; exact hv) (by rw [kcv_cat]; exact hv2) (k G b p l e R s m args below meth c H locs cells slots ls Z hO hE hR hS hc hs hl)
theorem kw_iload_n {pc : Nat} {z : Fin 4} {x : Int32} (d : decode M.2.1 pc = .ok (.iload_n z, 1)) (hg : kget L z.val = some (.int x)) (k : kW X M dd Q rc rs n w (pc + 1) L (.int x :: st)) : kW X M dd Q rc rs n w pc L st := by
  intro G b p l e R s m args below meth c H locs cells slots ls Z hO hE hR hS hc hs hl
  exact lv_iload_n hO.1 hO.2.1 d rfl (kget_at hl hg) (k G b p l e R s m args below meth c H locs cells slots ls Z hO hE hR hS hc hs hl)
theorem kw_iload {pc i : Nat} {x : Int32} (d : decode M.2.1 pc = .ok (.iload i, 2)) (hg : kget L i = some (.int x)) (k : kW X M dd Q rc rs n w (pc + 2) L (.int x :: st)) : kW X M dd Q rc rs n w pc L st := by
  intro G b p l e R s m args below meth c H locs cells slots ls Z hO hE hR hS hc hs hl
  exact lv_iload hO.1 hO.2.1 d (kget_at hl hg) (k G b p l e R s m args below meth c H locs cells slots ls Z hO hE hR hS hc hs hl)
theorem kw_lload_n {pc : Nat} {z : Fin 4} {x : Int64} (d : decode M.2.1 pc = .ok (.lload_n z, 1)) (hg : kget L z.val = some (.long x)) (k : kW X M dd Q rc rs n w (pc + 1) L (.long x :: st)) : kW X M dd Q rc rs n w pc L st := by
  intro G b p l e R s m args below meth c H locs cells slots ls Z hO hE hR hS hc hs hl
  exact lv_lload_n hO.1 hO.2.1 d rfl (kget_at hl hg) (k G b p l e R s m args below meth c H locs cells slots ls Z hO hE hR hS hc hs hl)
theorem kw_lload {pc i : Nat} {x : Int64} (d : decode M.2.1 pc = .ok (.lload i, 2)) (hg : kget L i = some (.long x)) (k : kW X M dd Q rc rs n w (pc + 2) L (.long x :: st)) : kW X M dd Q rc rs n w pc L st := by
  intro G b p l e R s m args below meth c H locs cells slots ls Z hO hE hR hS hc hs hl
  exact lv_lload hO.1 hO.2.1 d (kget_at hl hg) (k G b p l e R s m args below meth c H locs cells slots ls Z hO hE hR hS hc hs hl)
theorem kw_dload_n {pc : Nat} {z : Fin 4} {x : UInt64} (d : decode M.2.1 pc = .ok (.dload_n z, 1)) (hg : kget L z.val = some (.double x)) (k : kW X M dd Q rc rs n w (pc + 1) L (.double x :: st)) : kW X M dd Q rc rs n w pc L st := by
  intro G b p l e R s m args below meth c H locs cells slots ls Z hO hE hR hS hc hs hl
  exact lv_dload_n hO.1 hO.2.1 d rfl (kget_at hl hg) (k G b p l e R s m args below meth c H locs cells slots ls Z hO hE hR hS hc hs hl)
theorem kw_dload {pc i : Nat} {x : UInt64} (d : decode M.2.1 pc = .ok (.dload i, 2)) (hg : kget L i = some (.double x)) (k : kW X M dd Q rc rs n w (pc + 2) L (.double x :: st)) : kW X M dd Q rc rs n w pc L st := by
  intro G b p l e R s m args below meth c H locs cells slots ls Z hO hE hR hS hc hs hl
  exact lv_dload hO.1 hO.2.1 d (kget_at hl hg) (k G b p l e R s m args below meth c H locs cells slots ls Z hO hE hR hS hc hs hl)
theorem kw_aload_n {pc : Nat} {z : Fin 4} {x : Nat} (d : decode M.2.1 pc = .ok (.aload_n z, 1)) (hg : kget L z.val = some (.ref x)) (k : kW X M dd Q rc rs n w (pc + 1) L (.ref x :: st)) : kW X M dd Q rc rs n w pc L st := by
  intro G b p l e R s m args below meth c H locs cells slots ls Z hO hE hR hS hc hs hl
  exact lv_aload_n (x := b + x) hO.1 hO.2.1 d rfl (kget_at hl hg) (k G b p l e R s m args below meth c H locs cells slots ls Z hO hE hR hS hc hs hl)
theorem kw_aload {pc i : Nat} {x : Nat} (d : decode M.2.1 pc = .ok (.aload i, 2)) (hg : kget L i = some (.ref x)) (k : kW X M dd Q rc rs n w (pc + 2) L (.ref x :: st)) : kW X M dd Q rc rs n w pc L st := by
  intro G b p l e R s m args below meth c H locs cells slots ls Z hO hE hR hS hc hs hl
  exact lv_aload (x := b + x) hO.1 hO.2.1 d (kget_at hl hg) (k G b p l e R s m args below meth c H locs cells slots ls Z hO hE hR hS hc hs hl)
theorem kw_aload_nS {pc : Nat} {z : Fin 4} {x : Nat} (d : decode M.2.1 pc = .ok (.aload_n z, 1)) (hg : kget L z.val = some (.retAddr x)) (k : kW X M dd Q rc rs n w (pc + 1) L (.retAddr x :: st)) : kW X M dd Q rc rs n w pc L st := by
  intro G b p l e R s m args below meth c H locs cells slots ls Z hO hE hR hS hc hs hl
  exact lv_aload_n (x := G.2.2.1 x) hO.1 hO.2.1 d rfl (kget_at hl hg) (k G b p l e R s m args below meth c H locs cells slots ls Z hO hE hR hS hc hs hl)
theorem kw_aloadS {pc i : Nat} {x : Nat} (d : decode M.2.1 pc = .ok (.aload i, 2)) (hg : kget L i = some (.retAddr x)) (k : kW X M dd Q rc rs n w (pc + 2) L (.retAddr x :: st)) : kW X M dd Q rc rs n w pc L st := by
  intro G b p l e R s m args below meth c H locs cells slots ls Z hO hE hR hS hc hs hl
  exact lv_aload (x := G.2.2.1 x) hO.1 hO.2.1 d (kget_at hl hg) (k G b p l e R s m args below meth c H locs cells slots ls Z hO hE hR hS hc hs hl)
theorem kw_istore_n {pc : Nat} {z : Fin 4} {x : Int32} (d : decode M.2.1 pc = .ok (.istore_n z, 1)) (hn : z.val < M.2.2.1) (hk : kok L z.val = true) (k : kW X M dd Q rc rs n w (pc + 1) (kset L z.val (.int x)) st) : kW X M dd Q rc rs n w pc L (.int x :: st) := by
  intro G b p l e R s m args below meth c H locs cells slots ls Z hO hE hR hS hc hs hl
  exact lv_istore_n hO.1 hO.2.1 d rfl hl hn rfl (fun ls' hl' => k G b p l e R s m args below meth c H locs cells slots ls' Z hO hE hR hS hc hs (lv_mono hl' (kset_in hk)))
theorem kw_istore {pc i : Nat} {x : Int32} (d : decode M.2.1 pc = .ok (.istore i, 2)) (hn : i < M.2.2.1) (hk : kok L i = true) (k : kW X M dd Q rc rs n w (pc + 2) (kset L i (.int x)) st) : kW X M dd Q rc rs n w pc L (.int x :: st) := by
  intro G b p l e R s m args below meth c H locs cells slots ls Z hO hE hR hS hc hs hl
  exact lv_istore hO.1 hO.2.1 d hl hn rfl (fun ls' hl' => k G b p l e R s m args below meth c H locs cells slots ls' Z hO hE hR hS hc hs (lv_mono hl' (kset_in hk)))
theorem kw_astore_n {pc : Nat} {z : Fin 4} {x : Nat} (d : decode M.2.1 pc = .ok (.astore_n z, 1)) (hn : z.val < M.2.2.1) (hk : kok L z.val = true) (k : kW X M dd Q rc rs n w (pc + 1) (kset L z.val (.ref x)) st) : kW X M dd Q rc rs n w pc L (.ref x :: st) := by
  intro G b p l e R s m args below meth c H locs cells slots ls Z hO hE hR hS hc hs hl
  exact lv_astore_n (x := b + x) hO.1 hO.2.1 d rfl hl hn rfl (fun ls' hl' => k G b p l e R s m args below meth c H locs cells slots ls' Z hO hE hR hS hc hs (lv_mono hl' (kset_in hk)))
theorem kw_astore {pc i : Nat} {x : Nat} (d : decode M.2.1 pc = .ok (.astore i, 2)) (hn : i < M.2.2.1) (hk : kok L i = true) (k : kW X M dd Q rc rs n w (pc + 2) (kset L i (.ref x)) st) : kW X M dd Q rc rs n w pc L (.ref x :: st) := by
  intro G b p l e R s m args below meth c H locs cells slots ls Z hO hE hR hS hc hs hl
  exact lv_astore (x := b + x) hO.1 hO.2.1 d hl hn rfl (fun ls' hl' => k G b p l e R s m args below meth c H locs cells slots ls' Z hO hE hR hS hc hs (lv_mono hl' (kset_in hk)))
theorem kw_lstore_n {pc : Nat} {z : Fin 4} {x : Int64} (d : decode M.2.1 pc = .ok (.lstore_n z, 1)) (hn : z.val + 1 < M.2.2.1) (hk : kok L z.val = true) (k : kW X M dd Q rc rs n w (pc + 1) (kset2 L z.val (.long x)) st) : kW X M dd Q rc rs n w pc L (.long x :: st) := by
  intro G b p l e R s m args below meth c H locs cells slots ls Z hO hE hR hS hc hs hl
  exact lv_lstore_n hO.1 hO.2.1 d rfl hl hn rfl (fun ls' hl' => k G b p l e R s m args below meth c H locs cells slots ls' Z hO hE hR hS hc hs (lv_mono hl' (kset2_in hk)))
theorem kw_lstore {pc i : Nat} {x : Int64} (d : decode M.2.1 pc = .ok (.lstore i, 2)) (hn : i + 1 < M.2.2.1) (hk : kok L i = true) (k : kW X M dd Q rc rs n w (pc + 2) (kset2 L i (.long x)) st) : kW X M dd Q rc rs n w pc L (.long x :: st) := by
  intro G b p l e R s m args below meth c H locs cells slots ls Z hO hE hR hS hc hs hl
  exact lv_lstore hO.1 hO.2.1 d hl hn rfl (fun ls' hl' => k G b p l e R s m args below meth c H locs cells slots ls' Z hO hE hR hS hc hs (lv_mono hl' (kset2_in hk)))
theorem kw_dstore_n {pc : Nat} {z : Fin 4} {x : UInt64} (d : decode M.2.1 pc = .ok (.dstore_n z, 1)) (hn : z.val + 1 < M.2.2.1) (hk : kok L z.val = true) (k : kW X M dd Q rc rs n w (pc + 1) (kset2 L z.val (.double x)) st) : kW X M dd Q rc rs n w pc L (.double x :: st) := by
  intro G b p l e R s m args below meth c H locs cells slots ls Z hO hE hR hS hc hs hl
  exact lv_dstore_n hO.1 hO.2.1 d rfl hl hn rfl (fun ls' hl' => k G b p l e R s m args below meth c H locs cells slots ls' Z hO hE hR hS hc hs (lv_mono hl' (kset2_in hk)))
theorem kw_dstore {pc i : Nat} {x : UInt64} (d : decode M.2.1 pc = .ok (.dstore i, 2)) (hn : i + 1 < M.2.2.1) (hk : kok L i = true) (k : kW X M dd Q rc rs n w (pc + 2) (kset2 L i (.double x)) st) : kW X M dd Q rc rs n w pc L (.double x :: st) := by
  intro G b p l e R s m args below meth c H locs cells slots ls Z hO hE hR hS hc hs hl
  exact lv_dstore hO.1 hO.2.1 d hl hn rfl (fun ls' hl' => k G b p l e R s m args below meth c H locs cells slots ls' Z hO hE hR hS hc hs (lv_mono hl' (kset2_in hk)))
theorem kw_iinc {pc i : Nat} {z : Int} {x v : Int32} (d : decode M.2.1 pc = .ok (.iinc i z, 3)) (hn : i < M.2.2.1) (hk : kok L i = true) (hg : kget L i = some (.int x)) (hv : x + Int32.ofInt z = v) (k : kW X M dd Q rc rs n w (pc + 3) (kset L i (.int v)) st) : kW X M dd Q rc rs n w pc L st := by
  intro G b p l e R s m args below meth c H locs cells slots ls Z hO hE hR hS hc hs hl
  obtain ⟨kp, hkp⟩ := List.getElem?_of_mem (List.mem_map.mpr ⟨(i, Value.int x), kget_mem hg, rfl⟩ : (i, Value.int x) ∈ L.map fun q => (q.1, kcv G b q.2))
  exact lv_iinc hO.1 hO.2.1 d hl hkp hv hn rfl (fun ls' hl' => k G b p l e R s m args below meth c H locs cells slots ls' Z hO hE hR hS hc hs (lv_mono hl' (kset_in hk)))
theorem kw_if_eq {pc tgt : Nat} {x : Int32} {off : Int} (d : decode M.2.1 pc = .ok (.ifCond .eq off, 3)) (ht : (pc : Int) + off = (tgt : Int)) (kt : x = 0 → kW X M dd Q rc rs n w tgt L st) (kf : ¬ x = 0 → kW X M dd Q rc rs n w (pc + 3) L st) : kW X M dd Q rc rs n w pc L (.int x :: st) := by
  intro G b p l e R s m args below meth c H locs cells slots ls Z hO hE hR hS hc hs hl
  exact lv_if_eq hO.1 hO.2.1 d ht (fun h => kt h G b p l e R s m args below meth c H locs cells slots ls Z hO hE hR hS hc hs hl) (fun h => kf h G b p l e R s m args below meth c H locs cells slots ls Z hO hE hR hS hc hs hl)
theorem kw_icmp_eq {pc tgt : Nat} {x y : Int32} {off : Int} (d : decode M.2.1 pc = .ok (.if_icmp .eq off, 3)) (ht : (pc : Int) + off = (tgt : Int)) (kt : x = y → kW X M dd Q rc rs n w tgt L st) (kf : ¬ x = y → kW X M dd Q rc rs n w (pc + 3) L st) : kW X M dd Q rc rs n w pc L (.int y :: .int x :: st) := by
  intro G b p l e R s m args below meth c H locs cells slots ls Z hO hE hR hS hc hs hl
  exact lv_icmp_eq hO.1 hO.2.1 d ht (fun h => kt h G b p l e R s m args below meth c H locs cells slots ls Z hO hE hR hS hc hs hl) (fun h => kf h G b p l e R s m args below meth c H locs cells slots ls Z hO hE hR hS hc hs hl)
theorem kw_if_ne {pc tgt : Nat} {x : Int32} {off : Int} (d : decode M.2.1 pc = .ok (.ifCond .ne off, 3)) (ht : (pc : Int) + off = (tgt : Int)) (kt : ¬ x = 0 → kW X M dd Q rc rs n w tgt L st) (kf : x = 0 → kW X M dd Q rc rs n w (pc + 3) L st) : kW X M dd Q rc rs n w pc L (.int x :: st) := by
  intro G b p l e R s m args below meth c H locs cells slots ls Z hO hE hR hS hc hs hl
  exact lv_if_ne hO.1 hO.2.1 d ht (fun h => kt h G b p l e R s m args below meth c H locs cells slots ls Z hO hE hR hS hc hs hl) (fun h => kf h G b p l e R s m args below meth c H locs cells slots ls Z hO hE hR hS hc hs hl)
theorem kw_icmp_ne {pc tgt : Nat} {x y : Int32} {off : Int} (d : decode M.2.1 pc = .ok (.if_icmp .ne off, 3)) (ht : (pc : Int) + off = (tgt : Int)) (kt : ¬ x = y → kW X M dd Q rc rs n w tgt L st) (kf : x = y → kW X M dd Q rc rs n w (pc + 3) L st) : kW X M dd Q rc rs n w pc L (.int y :: .int x :: st) := by
  intro G b p l e R s m args below meth c H locs cells slots ls Z hO hE hR hS hc hs hl
  exact lv_icmp_ne hO.1 hO.2.1 d ht (fun h => kt h G b p l e R s m args below meth c H locs cells slots ls Z hO hE hR hS hc hs hl) (fun h => kf h G b p l e R s m args below meth c H locs cells slots ls Z hO hE hR hS hc hs hl)
theorem kw_if_lt {pc tgt : Nat} {x : Int32} {off : Int} (d : decode M.2.1 pc = .ok (.ifCond .lt off, 3)) (ht : (pc : Int) + off = (tgt : Int)) (kt : x < 0 → kW X M dd Q rc rs n w tgt L st) (kf : ¬ x < 0 → kW X M dd Q rc rs n w (pc + 3) L st) : kW X M dd Q rc rs n w pc L (.int x :: st) := by
  intro G b p l e R s m args below meth c H locs cells slots ls Z hO hE hR hS hc hs hl
  exact lv_if_lt hO.1 hO.2.1 d ht (fun h => kt h G b p l e R s m args below meth c H locs cells slots ls Z hO hE hR hS hc hs hl) (fun h => kf h G b p l e R s m args below meth c H locs cells slots ls Z hO hE hR hS hc hs hl)
theorem kw_icmp_lt {pc tgt : Nat} {x y : Int32} {off : Int} (d : decode M.2.1 pc = .ok (.if_icmp .lt off, 3)) (ht : (pc : Int) + off = (tgt : Int)) (kt : x < y → kW X M dd Q rc rs n w tgt L st) (kf : ¬ x < y → kW X M dd Q rc rs n w (pc + 3) L st) : kW X M dd Q rc rs n w pc L (.int y :: .int x :: st) := by
  intro G b p l e R s m args below meth c H locs cells slots ls Z hO hE hR hS hc hs hl
  exact lv_icmp_lt hO.1 hO.2.1 d ht (fun h => kt h G b p l e R s m args below meth c H locs cells slots ls Z hO hE hR hS hc hs hl) (fun h => kf h G b p l e R s m args below meth c H locs cells slots ls Z hO hE hR hS hc hs hl)
theorem kw_if_ge {pc tgt : Nat} {x : Int32} {off : Int} (d : decode M.2.1 pc = .ok (.ifCond .ge off, 3)) (ht : (pc : Int) + off = (tgt : Int)) (kt : 0 ≤ x → kW X M dd Q rc rs n w tgt L st) (kf : ¬ 0 ≤ x → kW X M dd Q rc rs n w (pc + 3) L st) : kW X M dd Q rc rs n w pc L (.int x :: st) := by
  intro G b p l e R s m args below meth c H locs cells slots ls Z hO hE hR hS hc hs hl
  exact lv_if_ge hO.1 hO.2.1 d ht (fun h => kt h G b p l e R s m args below meth c H locs cells slots ls Z hO hE hR hS hc hs hl) (fun h => kf h G b p l e R s m args below meth c H locs cells slots ls Z hO hE hR hS hc hs hl)
theorem kw_icmp_ge {pc tgt : Nat} {x y : Int32} {off : Int} (d : decode M.2.1 pc = .ok (.if_icmp .ge off, 3)) (ht : (pc : Int) + off = (tgt : Int)) (kt : y ≤ x → kW X M dd Q rc rs n w tgt L st) (kf : ¬ y ≤ x → kW X M dd Q rc rs n w (pc + 3) L st) : kW X M dd Q rc rs n w pc L (.int y :: .int x :: st) := by
  intro G b p l e R s m args below meth c H locs cells slots ls Z hO hE hR hS hc hs hl
  exact lv_icmp_ge hO.1 hO.2.1 d ht (fun h => kt h G b p l e R s m args below meth c H locs cells slots ls Z hO hE hR hS hc hs hl) (fun h => kf h G b p l e R s m args below meth c H locs cells slots ls Z hO hE hR hS hc hs hl)
theorem kw_if_gt {pc tgt : Nat} {x : Int32} {off : Int} (d : decode M.2.1 pc = .ok (.ifCond .gt off, 3)) (ht : (pc : Int) + off = (tgt : Int)) (kt : 0 < x → kW X M dd Q rc rs n w tgt L st) (kf : ¬ 0 < x → kW X M dd Q rc rs n w (pc + 3) L st) : kW X M dd Q rc rs n w pc L (.int x :: st) := by
  intro G b p l e R s m args below meth c H locs cells slots ls Z hO hE hR hS hc hs hl
  exact lv_if_gt hO.1 hO.2.1 d ht (fun h => kt h G b p l e R s m args below meth c H locs cells slots ls Z hO hE hR hS hc hs hl) (fun h => kf h G b p l e R s m args below meth c H locs cells slots ls Z hO hE hR hS hc hs hl)
theorem kw_icmp_gt {pc tgt : Nat} {x y : Int32} {off : Int} (d : decode M.2.1 pc = .ok (.if_icmp .gt off, 3)) (ht : (pc : Int) + off = (tgt : Int)) (kt : y < x → kW X M dd Q rc rs n w tgt L st) (kf : ¬ y < x → kW X M dd Q rc rs n w (pc + 3) L st) : kW X M dd Q rc rs n w pc L (.int y :: .int x :: st) := by
  intro G b p l e R s m args below meth c H locs cells slots ls Z hO hE hR hS hc hs hl
  exact lv_icmp_gt hO.1 hO.2.1 d ht (fun h => kt h G b p l e R s m args below meth c H locs cells slots ls Z hO hE hR hS hc hs hl) (fun h => kf h G b p l e R s m args below meth c H locs cells slots ls Z hO hE hR hS hc hs hl)
theorem kw_if_le {pc tgt : Nat} {x : Int32} {off : Int} (d : decode M.2.1 pc = .ok (.ifCond .le off, 3)) (ht : (pc : Int) + off = (tgt : Int)) (kt : x ≤ 0 → kW X M dd Q rc rs n w tgt L st) (kf : ¬ x ≤ 0 → kW X M dd Q rc rs n w (pc + 3) L st) : kW X M dd Q rc rs n w pc L (.int x :: st) := by
  intro G b p l e R s m args below meth c H locs cells slots ls Z hO hE hR hS hc hs hl
  exact lv_if_le hO.1 hO.2.1 d ht (fun h => kt h G b p l e R s m args below meth c H locs cells slots ls Z hO hE hR hS hc hs hl) (fun h => kf h G b p l e R s m args below meth c H locs cells slots ls Z hO hE hR hS hc hs hl)
theorem kw_icmp_le {pc tgt : Nat} {x y : Int32} {off : Int} (d : decode M.2.1 pc = .ok (.if_icmp .le off, 3)) (ht : (pc : Int) + off = (tgt : Int)) (kt : x ≤ y → kW X M dd Q rc rs n w tgt L st) (kf : ¬ x ≤ y → kW X M dd Q rc rs n w (pc + 3) L st) : kW X M dd Q rc rs n w pc L (.int y :: .int x :: st) := by
  intro G b p l e R s m args below meth c H locs cells slots ls Z hO hE hR hS hc hs hl
  exact lv_icmp_le hO.1 hO.2.1 d ht (fun h => kt h G b p l e R s m args below meth c H locs cells slots ls Z hO hE hR hS hc hs hl) (fun h => kf h G b p l e R s m args below meth c H locs cells slots ls Z hO hE hR hS hc hs hl)
theorem kw_goto {pc tgt : Nat} {off : Int} (d : decode M.2.1 pc = .ok (.goto off, 3)) (ht : (pc : Int) + off = (tgt : Int)) (k : kW X M dd Q rc rs n w tgt L st) : kW X M dd Q rc rs n w pc L st := by
  intro G b p l e R s m args below meth c H locs cells slots ls Z hO hE hR hS hc hs hl
  exact lv_goto hO.1 hO.2.1 d ht (k G b p l e R s m args below meth c H locs cells slots ls Z hO hE hR hS hc hs hl)
theorem kw_tableOut {pc tgt len : Nat} {dflt lo hi : Int} {offs : Array Int} {x : Int32} (d : decode M.2.1 pc = .ok (.tableswitch dflt lo hi offs, len)) (h : x.toInt < lo ∨ hi < x.toInt) (ht : (pc : Int) + dflt = (tgt : Int)) (k : kW X M dd Q rc rs n w tgt L st) : kW X M dd Q rc rs n w pc L (.int x :: st) := by
  intro G b p l e R s m args below meth c H locs cells slots ls Z hO hE hR hS hc hs hl
  exact lv_tableOut hO.1 hO.2.1 d h ht (k G b p l e R s m args below meth c H locs cells slots ls Z hO hE hR hS hc hs hl)
theorem kw_tableIn {pc tgt len : Nat} {dflt lo hi off : Int} {offs : Array Int} {x : Int32} (d : decode M.2.1 pc = .ok (.tableswitch dflt lo hi offs, len)) (h1 : ¬ x.toInt < lo) (h2 : ¬ hi < x.toInt) (ho : offs[(x.toInt - lo).toNat]? = some off) (ht : (pc : Int) + off = (tgt : Int)) (k : kW X M dd Q rc rs n w tgt L st) : kW X M dd Q rc rs n w pc L (.int x :: st) := by
  intro G b p l e R s m args below meth c H locs cells slots ls Z hO hE hR hS hc hs hl
  exact lv_tableIn hO.1 hO.2.1 d h1 h2 ho ht (k G b p l e R s m args below meth c H locs cells slots ls Z hO hE hR hS hc hs hl)
theorem kw_lookup {pc tgt len : Nat} {dflt off : Int} {ps : Array (Int × Int)} {x : Int32} (d : decode M.2.1 pc = .ok (.lookupswitch dflt ps, len)) (hp : (ps.toList.zip (ps.toList.drop 1)).all (fun (a, next) => a.1 < next.1) = true) (ho : Op.lookupswitch.offset ps.toList dflt x.toInt = off) (ht : (pc : Int) + off = (tgt : Int)) (k : kW X M dd Q rc rs n w tgt L st) : kW X M dd Q rc rs n w pc L (.int x :: st) := by
  intro G b p l e R s m args below meth c H locs cells slots ls Z hO hE hR hS hc hs hl
  exact lv_lookup hO.1 hO.2.1 d hp ho ht (k G b p l e R s m args below meth c H locs cells slots ls Z hO hE hR hS hc hs hl)
end KR
