/-! ===== an abstract memory: cells by number, behind a base; values whose references are such numbers ===== -/
abbrev kC : Type := (Nat × (Nat → Value)) ⊕ ((Nat × Nat × (Nat → Int32)) ⊕ ((Nat × Nat × (Nat → Value)) ⊕ Unit))
abbrev kO (c : Nat) (F : Nat → Value) : kC := Sum.inl (c, F)
abbrev kI (t N : Nat) (f : Nat → Int32) : kC := Sum.inr (Sum.inl (t, N, f))
abbrev kV (t N : Nat) (f : Nat → Value) : kC := Sum.inr (Sum.inr (Sum.inl (t, N, f)))
abbrev kX : kC := Sum.inr (Sum.inr (Sum.inr ()))
abbrev kM : Type := Nat → kC
/-- class numbers and field places; array classes; static arrays; String constants -/
abbrev kG : Type := va_G × (Nat → ClassId) × (Nat → Nat) × (Nat → Nat)
def kcv (G : kG) (b : Nat) : Value → Value
  | .ref k => .ref (b + k)
  | .retAddr k => .ref (G.2.2.1 k)
  | v => v
theorem kcv_cat (G : kG) (b : Nat) (v : Value) : (kcv G b v).category = v.category := by cases v <;> rfl
abbrev kcl : List vw_C := [(RX0, TX0, 5), (RX1, TX1, 10), (RX2, TX2, 7), (RX3, TX3, 4), (RX4, TX4, 2), (RX5, TX5, 6)]
def kaT : Nat → FieldType
  | 0 => .int
  | 1 => .boolean
  | 2 => .int
  | 3 => .int
  | 4 => .array .int
  | 5 => .object "StringRates$Parcel"
  | _ => .object "StringRates$Office"
def kAt (G : kG) (b a : Nat) (c : kC) (H : Heap) : Prop := match c with
  | .inl o => ∃ r : vw_C, kcl[o.1]? = some r ∧ t_OB (b + a) (G.1.1 o.1) r.2.2 (G.1.2 o.1) H (fun k => kcv G b (o.2 k))
  | .inr (.inl x) => x.1 < 7 ∧ H[b + a]? = some (arrV (G.2.1 x.1) x.2.1 (fun j => .int (x.2.2 j)))
  | .inr (.inr (.inl x)) => x.1 < 7 ∧ H[b + a]? = some (arrV (G.2.1 x.1) x.2.1 (fun j => kcv G b (x.2.2 j)))
  | .inr (.inr (.inr _)) => True
theorem kAt.kept {G : kG} {b a : Nat} {c : kC} {H H1 : Heap} (h : kAt G b a c H) (hq : H1[b + a]? = H[b + a]?) : kAt G b a c H1 := by
  rcases c with o | x | x | x
  · obtain ⟨r, h1, h2⟩ := h
    exact ⟨r, h1, h2.kept hq⟩
  · exact ⟨h.1, hq.trans h.2⟩
  · exact ⟨h.1, hq.trans h.2⟩
  · trivial
def kup (w : kM) (a : Nat) (c : kC) : kM := fun k => if k = a then c else w k
theorem kup_self (w : kM) (a : Nat) (c : kC) : kup w a c a = c := if_pos rfl
theorem kup_ne {w : kM} {a k : Nat} {c : kC} (h : k ≠ a) : kup w a c k = w k := if_neg h
def kRp (G : kG) (b n : Nat) (w : kM) (H : Heap) : Prop := H.size = b + n ∧ (∀ k, n ≤ k → w k = kX) ∧ ∀ k, kAt G b k (w k) H
theorem kRp.lt {G : kG} {b n a : Nat} {w : kM} {H : Heap} (h : kRp G b n w H) (ha : w a ≠ kX) : a < n := by
  rcases Nat.lt_or_ge a n with q | q
  · exact q
  · exact absurd (h.2.1 a q) ha
theorem kRp.put {G : kG} {b n a : Nat} {w : kM} {c : kC} {H H1 : Heap} (h : kRp G b n w H) (ha : a < n) (he : kAt G b a c H1) (z : H1.size = H.size) (oq : ∀ q : Nat, q ≠ b + a → H1[q]? = H[q]?) : kRp G b n (kup w a c) H1 := by
  refine ⟨z.trans h.1, fun k hk => ?_, fun k => ?_⟩
  · rw [kup_ne (by omega)]; exact h.2.1 k hk
  · by_cases hka : k = a
    · subst hka; rw [kup_self]; exact he
    · rw [kup_ne hka]; exact (h.2.2 k).kept (oq _ (by omega))
theorem kAt.grow {G : kG} {b a : Nat} {c : kC} {H H1 : Heap} (h : kAt G b a c H) (oq : ∀ q : Nat, q < H.size → H1[q]? = H[q]?) : kAt G b a c H1 := by
  rcases c with o | x | x | x
  · obtain ⟨r, h1, cell, h2, h3⟩ := h
    exact ⟨r, h1, cell, by rw [oq _ (Array.getElem?_eq_some_iff.mp h2).1]; exact h2, h3⟩
  · exact ⟨h.1, by rw [oq _ (Array.getElem?_eq_some_iff.mp h.2).1]; exact h.2⟩
  · exact ⟨h.1, by rw [oq _ (Array.getElem?_eq_some_iff.mp h.2).1]; exact h.2⟩
  · trivial
theorem kRp.push {G : kG} {b n : Nat} {w : kM} {c : kC} {H H1 : Heap} (h : kRp G b n w H) (he : kAt G b n c H1) (z : H1.size = H.size + 1) (oq : ∀ q : Nat, q < H.size → H1[q]? = H[q]?) : kRp G b (n + 1) (kup w n c) H1 := by
  refine ⟨by rw [z, h.1]; omega, fun k hk => ?_, fun k => ?_⟩
  · rw [kup_ne (by omega)]; exact h.2.1 k (by omega)
  · by_cases hka : k = n
    · subst hka; rw [kup_self]; exact he
    · rw [kup_ne hka]; exact (h.2.2 k).grow oq
/-- cells nobody speaks of may come -/
theorem kRp.more {G : kG} {b n n' : Nat} {w : kM} {H H1 : Heap} (h : kRp G b n w H) (hn : H1.size = b + n') (hle : n ≤ n') (oq : ∀ q : Nat, q < H.size → H1[q]? = H[q]?) : kRp G b n' w H1 :=
  ⟨hn, fun k hk => h.2.1 k (Nat.le_trans hle hk), fun k => (h.2.2 k).grow oq⟩
/-! ===== words ===== -/
def kTb : List Cond := lw_tbl.filter goodWord
theorem kin {w : Cond} (i : Nat) (h : tables_1[i]? = some w) (g : goodWord w = true) : w ∈ kTb := List.mem_filter.mpr ⟨List.mem_append_right _ (List.mem_of_getElem? h), g⟩
theorem kinS {w : Cond} (i : Nat) (h : (k2_sels lw_privs)[i]? = some w) (g : goodWord w = true) : w ∈ kTb := List.mem_filter.mpr ⟨List.mem_append_left _ (List.mem_of_getElem? h), g⟩
theorem kin_all {l : List Cond} (ps : List Nat) (h : (ps.map fun i => tables_1[i]?) = l.map some) (g : l.all goodWord = true) : ∀ w ∈ l, w ∈ kTb := by
  intro w hw
  obtain ⟨k, hk⟩ := List.getElem?_of_mem hw
  have h1 : (ps.map fun i => tables_1[i]?)[k]? = some (some w) := by rw [h, List.getElem?_map, hk]; rfl
  rw [List.getElem?_map] at h1
  cases hi : ps[k]? with
  | none => rw [hi] at h1; cases h1
  | some i =>
    rw [hi] at h1
    exact kin i (Option.some.inj h1) (List.all_eq_true.mp g w hw)
/-- a method: name, bytes, locals, what it returns, its handlers -/
abbrev kMi : Type := MethodName × ByteArray × Nat × Option FieldType × List (Nat × Nat × Nat × Nat)
def kcw (M : kMi) : Cond := match M.2.2.2.2 with
  | [] => .code M.1 M.2.1 M.2.2.1 M.2.2.2.1
  | h :: t => .codeWith M.1 M.2.1 M.2.2.1 M.2.2.2.1 (h :: t)
def kws (M : kMi) : List Cond := kcw M :: kTb
theorem kws_good {M My : kMi} (hc : kcw My ∈ kTb) : GoodIn (kws M) (kws My) := by
  intro w hw
  have h1 : w ∈ kTb := by
    rcases List.mem_cons.mp hw with h | h
    · rw [h]; exact hc
    · exact h
  exact ⟨List.mem_cons_of_mem _ h1, good_of_word (List.mem_filter.mp h1).2⟩
/-! ===== what a state knows ===== -/
abbrev kIAE : String := "java/lang/IllegalArgumentException"
abbrev kIOB : String := "java/lang/IndexOutOfBoundsException"
abbrev kISE : String := "java/lang/IllegalStateException"
def kNest : List Cond := [.methodLinkNest RX1 27 yX2_init "StringRates", .fieldLinkNest RX1 28 "StringRates" "FIRST_SETTING" "[I" "StringRates", .methodLinkNest RX5 33 yX3_init "StringRates", .methodLinkNest RX5 40 yX0_init "StringRates", .methodLinkNest RX0 11 yX2_init "StringRates", .castable kIAE kIAE, .castable kIOB kIOB, .castable kISE kISE,
  .declares ⟨"java/lang/RuntimeException", "<init>", "()V"⟩, .declares ⟨"java/lang/RuntimeException", "<init>", "(Ljava/lang/String;)V"⟩, .declares ⟨"java/lang/Exception", "<init>", "()V"⟩, .declares ⟨"java/lang/Exception", "<init>", "(Ljava/lang/String;)V"⟩, .declares ⟨"java/lang/Throwable", "<init>", "()V"⟩, .declares ⟨"java/lang/Throwable", "<init>", "(Ljava/lang/String;)V"⟩]
def kStr : List (Nat × String × Nat) := [(231, "an argument is out of range", 0), (236, "there is no such number", 1), (151, "there is no saved state", 4)]
def kNc : List (String × String) := [(kIAE, kIOB), (kISE, kIAE)]
theorem kao_moved {t : FieldType} {u U : State} (hvm : u.vm.Alike U.vm) (h : va_AOA t u) : va_AOA t U := by
  obtain ⟨comp, c, k, h1, h2, h3, h4, h5⟩ := arrayOverA_spec h
  obtain ⟨k', hk', he⟩ := hvm.2.2 _ _ h3
  have hi : (U.vm.classes.findIdx? fun (x : Class) => match x.kind with | .array component _ => component == comp | _ => false) = some c := by
    rw [hvm.findIdx?_eq _ (fun _ => rfl)]
    exact h2
  have hkind : k'.kind = .array comp (.array t) := by rw [he]; exact h4
  have f1 : U.vm.findClass (FieldType.array t).toString = some comp := by rw [hvm.findClass]; exact h1
  have f2 : U.vm.findClass ("[" ++ (FieldType.array t).toString) = some c := by rw [hvm.findClass]; exact h5
  unfold va_AOA Cond.before Cond.holds
  simp only [Cond.value]
  rw [f1, Option.bind_some]
  refine (congrArg (fun o : Option Nat => (o.bind (fun c => (U.vm.classes[c]?).map fun (k : Class) => match k.kind with | .array _ ty => decide (ty = FieldType.array t) && decide (U.vm.findClass ("[" ++ (FieldType.array t).toString) = some c) | _ => false) == some true)) hi).trans ?_
  simp [hk', hkind, f2]
def kK (G : kG) (U : State) : Prop :=
  (∀ (c : Nat) (q : vw_C), kcl[c]? = some q → u_Kn U q.1 q.2.1 q.2.2 (G.1.1 c) (G.1.2 c)) ∧
  (∀ t, t < 7 → ArrOfT U (G.2.1 t) (kaT t) ∧ va_RA U (G.2.1 t) (kaT t)) ∧
  (∀ w ∈ kNest, va_Nw w U) ∧ (va_AO "StringRates$Parcel" U ∧ va_AO "StringRates$Office" U ∧ va_AOA .int U) ∧
  (∀ q ∈ kStr, vk_R RX5 q.1 q.2.1 (G.2.2.2 q.2.2) U) ∧ ∀ q ∈ kNc, va_Nc q.1 q.2 U
theorem kNest_warm {s U : State} (hW : s.WarmedH U.vm) : ∀ w ∈ kNest, va_Nw w s → va_Nw w U := by
  intro w hw h
  simp only [kNest, List.mem_cons, List.not_mem_nil, or_false] at hw
  rcases hw with rfl | rfl | rfl | rfl | rfl | rfl | rfl | rfl | rfl | rfl | rfl | rfl | rfl | rfl
  · exact va_Nw.warmM hW h
  · exact va_Nw.warmF hW h
  · exact va_Nw.warmM hW h
  · exact va_Nw.warmM hW h
  · exact va_Nw.warmM hW h
  · exact va_Nw.warmC hW h
  · exact va_Nw.warmC hW h
  · exact va_Nw.warmC hW h
  · exact va_Nw.warmD hW h
  · exact va_Nw.warmD hW h
  · exact va_Nw.warmD hW h
  · exact va_Nw.warmD hW h
  · exact va_Nw.warmD hW h
  · exact va_Nw.warmD hW h
theorem kK.warm {G : kG} {s U : State} (hW : s.WarmedH U.vm) (h : kK G s) : kK G U := by
  obtain ⟨h1, h2, h3, ⟨h4, h5, h6⟩, h7, h8⟩ := h
  exact ⟨fun c q hq => u_Kn_moved hW.alike (h1 c q hq), fun t ht => ⟨arrOfT_moved hW.alike (h2 t ht).1, (h2 t ht).2.moved hW.alike⟩, fun w hw => kNest_warm hW w hw (h3 w hw),
    ⟨va_AO.moved hW.alike h4, va_AO.moved hW.alike h5, kao_moved hW.alike h6⟩, fun q hq => vk_R.warm hW (h7 q hq), fun q hq => va_Nc.moved hW.alike (h8 q hq)⟩
abbrev kSt1 : Type := String × String × String × Nat × FieldType × Nat × (Nat → Int32)
def kSta : List kSt1 := [(RX5, "FIRST_SETTING", "[I", 0, .int, 4, fun j => ([5, 150, 2, 10] : List Int32).getD j 0), (RX5, "LEAST_SETTING", "[I", 1, .int, 4, fun j => ([0, 50, 0, 0] : List Int32).getD j 0), (RX5, "MOST_SETTING", "[I", 2, .int, 4, fun j => ([20, 300, 20, 50] : List Int32).getD j 0)]
def kSt (G : kG) (b : Nat) (U : State) (H : Heap) : Prop :=
  (∀ q ∈ kSta, va_Z q.1 q.2.1 q.2.2.1 (.ref (G.2.2.1 q.2.2.2.1)) (fun a => b ≤ a) U H ∧ va_T q.2.2.2.2.1 (G.2.2.1 q.2.2.2.1) q.2.2.2.2.2.1 (fun j => .int (q.2.2.2.2.2.2 j)) (fun a => b ≤ a) U H) ∧
  vx_Zq Bundle.tN "UNASSIGNED_STACK" Bundle.steD (fun a => b ≤ a) U H ∧ vx_Zq Bundle.tN "SUPPRESSED_SENTINEL" Bundle.listD (fun a => b ≤ a) U H
theorem kSt.moved {G : kG} {b : Nat} {u U : State} {H : Heap} (hvm : u.vm.Alike U.vm) (h : kSt G b u H) : kSt G b U H :=
  ⟨fun q hq => ⟨va_Z.moved hvm (h.1 q hq).1, va_T.moved hvm (h.1 q hq).2⟩, vx_Zq.moved hvm h.2.1, vx_Zq.moved hvm h.2.2⟩
theorem kSt.kept {G : kG} {b : Nat} {U : State} {H H1 : Heap} (h : kSt G b U H) (hq : ∀ a : Nat, a < H.size → ¬ b ≤ a → H1[a]? = H[a]?) : kSt G b U H1 :=
  ⟨fun q hm => ⟨va_Z.kept (h.1 q hm).1 hq, va_T.kept (h.1 q hm).2 hq⟩, vx_Zq.kept h.2.1 hq, vx_Zq.kept h.2.2 hq⟩
/-! ===== contracts and the judgement ===== -/
abbrev kQ : Type := (Option Value ⊕ String) → kM → Nat → Prop
def kQc (G : kG) (b : Nat) (Q : kQ) : Array Value → State → Outcome → State → Prop := fun _ st o t =>
  (∃ (v : Option Value) (w' : kM) (n' : Nat), o = .returned (v.map (kcv G b)) ∧ Q (.inl v) w' n' ∧ kRp G b n' w' t.heap) ∧ va_F (fun q => b ≤ q) st t
def kXC (G : kG) (b : Nat) (Q : kQ) : String → State → State → Prop := fun E st t =>
  (∃ (w' : kM) (n' : Nat), Q (.inr E) w' n' ∧ kRp G b n' w' t.heap) ∧ va_F (fun q => b ≤ q) st t
def kPc (G : kG) (b : Nat) (As : List Value) (w : kM) (n : Nat) : Array Value → State → Prop := va_Pc (As.map (kcv G b)) (fun U => kRp G b n w U.heap ∧ kK G U ∧ kSt G b U U.heap)
def kRm (d mc ms : Nat) : Room := { frames := d, cells := mc, slots := ms, locals := 60 * d }
def kCtr (M : kMi) (d mc ms : Nat) (As : List Value) (w : kM) (n : Nat) (Q : kQ) : Prop :=
  ∀ (l : Launch), l.stackTraces = false → ∀ (G : kG) (b : Nat), vx_Met l M.1 (kws M) (kRm d mc ms) (kPc G b As w n) (kQc G b Q) (kXC G b Q) mc ms (fun q => b ≤ q)
def kOK (M : kMi) (G : kG) (b d : Nat) (p : Program) (l : Launch) (R : Room) (s : State) (m : MethodId) (args : Array Value) (meth : Method) (c : Code) : Prop :=
  p.tables.exec = Jvm.exec ∧ c.code = M.2.1 ∧ c.maxLocals = M.2.2.1 ∧ s.vm.findClass M.1.cls = some m.cls ∧ (∀ w ∈ kws M, w.before args s = true) ∧ meth.sig.returnType = M.2.2.2.1 ∧ meth.locks = false ∧ meth.name = M.1.name ∧ l.stackTraces = false ∧
  kK G s ∧ kSt G b s s.heap ∧ d ≤ R.frames ∧ 60 * d ≤ R.locals ∧ b ≤ s.heap.size ∧ (M.1.name ≠ "law" → c.exceptionTable.toList = tableOf M.2.2.2.2)
def kEnd (X : Nat × (Nat → Int32)) (M : kMi) (G : kG) (b : Nat) (Q : kQ) (p : Program) (l : Launch) (e : Env) (R : Room) (s : State) (m : MethodId) (args : Array Value) (below : List Frame) (meth : Method) (c : Code) (Z : State → Prop) : Prop :=
  (M.1.name ≠ "law" ∧ (X.1 ≠ 0 → va_X (G.2.2.1 9) (X.1 - 1) X.2 s s.heap ∧ G.2.2.1 9 < s.heap.size ∧ ¬ b ≤ G.2.2.1 9) ∧ Z = vx_MQ below (kQc G b Q) (kXC G b Q) args s R.cells R.slots (fun q => b ≤ q)) ∨
  (M.1.name = "law" ∧ (va_X (G.2.2.1 9) X.1 X.2 s s.heap ∧ G.2.2.1 9 < s.heap.size ∧ ¬ b ≤ G.2.2.1 9) ∧
    ∀ (pc : Nat) (ls : Array Slot) (w' : kM) (n' : Nat) (H' : Heap) (locs' : List Loc) (cells' slots' : Nat), decode M.2.1 pc = .ok (.ireturn, 1) → Q (.inl (some (.int 1))) w' n' → va_S (fun q => b ≤ q) s.heap H' locs' → cells' ≤ R.cells → slots' ≤ R.slots →
      W p l e R s m args below meth c H' locs' cells' slots' Z (F0 m pc ls [.int 1]))
/-- the method M stands at pc, over the memory w of n cells, with the locals L and the stack st, and may still make rc cells of rs slots: it comes to an end of which Q speaks -/
def kW (X : Nat × (Nat → Int32)) (M : kMi) (d : Nat) (Q : kQ) (rc rs n : Nat) (w : kM) (pc : Nat) (L : List (Nat × Value)) (st : List Value) : Prop :=
  ∀ (G : kG) (b : Nat) (p : Program) (l : Launch) (e : Env) (R : Room) (s : State) (m : MethodId) (args : Array Value) (below : List Frame) (meth : Method) (c : Code) (H : Heap) (locs : List Loc) (cells slots : Nat) (ls : Array Slot) (Z : State → Prop),
    kOK M G b d p l R s m args meth c → kEnd X M G b Q p l e R s m args below meth c Z → kRp G b n w H → va_S (fun q => b ≤ q) s.heap H locs → cells + rc ≤ R.cells → slots + rs ≤ R.slots → lv_has ls M.2.2.1 (L.map fun q => (q.1, kcv G b q.2)) →
    W p l e R s m args below meth c H locs cells slots Z (F0 m pc ls (st.map (kcv G b)))
/-- .. with an exception of the class E thrown over it -/
def kWX (X : Nat × (Nat → Int32)) (M : kMi) (d : Nat) (Q : kQ) (rc rs n : Nat) (w : kM) (pc : Nat) (L : List (Nat × Value)) (E : String) : Prop :=
  ∀ (G : kG) (b : Nat) (p : Program) (l : Launch) (e : Env) (R : Room) (s : State) (m : MethodId) (args : Array Value) (below : List Frame) (meth : Method) (c : Code) (H : Heap) (locs : List Loc) (cells slots : Nat) (ls : Array Slot) (Z : State → Prop) (q : Addr) (ce : Cell) (rest : List Value),
    kOK M G b d p l R s m args meth c → kEnd X M G b Q p l e R s m args below meth c Z → kRp G b n w H → va_S (fun q => b ≤ q) s.heap H locs → cells + rc ≤ R.cells → slots + rs ≤ R.slots → lv_has ls M.2.2.1 (L.map fun q => (q.1, kcv G b q.2)) →
    H[q]? = some ce → ce.vm = .none → s.vm.findClass E = some ce.cls → vx_W p l e R s m args below meth c H locs cells slots Z (F0 m pc ls rest) q
theorem k_args (G : kG) (b : Nat) : ∀ (As : List Value) (i : Nat), lv_args i (As.map (kcv G b)) = (lv_args i As).map fun q => (q.1, kcv G b q.2)
  | [], _ => rfl
  | v :: vs, i => by
    simp only [List.map_cons, lv_args, kcv_cat]
    rw [k_args G b vs]
theorem k_sl (G : kG) (b : Nat) (As : List Value) : (lg_sl (As.map (kcv G b))).length = (lg_sl As).length := by
  induction As with
  | nil => rfl
  | cons v vs ih =>
    simp only [lg_sl, List.map_cons, List.flatMap_cons, List.length_append] at ih ⊢
    rw [ih, kcv_cat]
    by_cases h : v.category = 2 <;> simp [h]
theorem kPc_blind (G : kG) (b : Nat) (As : List Value) (w : kM) (n : Nat) : FrameBlind (kPc G b As w n) := by
  intro a U g mk h
  obtain ⟨h1, h2, h3, h4⟩ := h
  exact ⟨h1, h2, kK.warm (s := U) (U := U.calling g mk a) (State.WarmedH.refl U) h3, kSt.moved (u := U) (U := U.calling g mk a) (Vm.Alike.refl U.vm) h4⟩
theorem kCtr.of {X : Nat × (Nat → Int32)} {M : kMi} {d mc ms : Nat} {As : List Value} {w : kM} {n : Nat} {Q : kQ} (hy : plainName M.1.cls = true) (hn : M.1.name ≠ "law") (hh : M.2.2.2.2 = []) (hl : (lg_sl As).length ≤ M.2.2.1)
    (h : kW X M d Q mc ms n w 0 (lv_args 0 As) []) (hX : X.1 = 0 := by rfl) : kCtr M d mc ms As w n Q := by
  intro l hst G b
  have hcw : kcw M = .code M.1 M.2.1 M.2.2.1 M.2.2.2.1 := by unfold kcw; rw [hh]
  refine vx_ofW (cc := M.2.1) (maxL := M.2.2.1) (ret := M.2.2.2.1) (ws' := kTb) hy (by unfold kws; rw [hcw]) ?_
  intro p e s m args below meth c s₁ B hml ht hv
  obtain ⟨rfl, hR, hK, hS⟩ := hv
  have hts := atoms_spec (ws := kws M) B.pre
  have htab : c.exceptionTable.toList = tableOf M.2.2.2.2 := by
    rw [hh]
    cases hc : c.exceptionTable.toList with
    | nil => rfl
    | cons x t => exact (ht x (by rw [hc]; exact List.mem_cons_self)).elim
  have hl1 := lv_entry (As.map (kcv G b)) (n := M.2.2.1) (by rw [k_sl]; exact hl)
  rw [k_args] at hl1
  rw [lg_entry_eq]
  exact h G b p l e (kRm d mc ms) s m _ below meth c s.heap [] 0 0 _ _
    ⟨B.exec, B.bytes, hml, findClass_of_methodNamed B.named, hts, B.returns, B.notSynchronized, (name_of_methodNamed B.named B.method).1, hst, hK, hS, Nat.le_refl _, Nat.le_refl _, by rw [hR.1]; exact Nat.le_add_right _ _, fun _ => htab⟩
    (Or.inl ⟨hn, fun q => absurd hX q, rfl⟩) hR va_S.rf (by rw [Nat.zero_add]; exact Nat.le_refl mc) (by rw [Nat.zero_add]; exact Nat.le_refl ms) hl1
theorem kCtr.ofH {X : Nat × (Nat → Int32)} {M : kMi} {d mc ms : Nat} {As : List Value} {w : kM} {n : Nat} {Q : kQ} (hy : plainName M.1.cls = true) (hn : M.1.name ≠ "law") (hh : M.2.2.2.2 ≠ []) (hl : (lg_sl As).length ≤ M.2.2.1)
    (h : kW X M d Q mc ms n w 0 (lv_args 0 As) []) (hX : X.1 = 0 := by rfl) : kCtr M d mc ms As w n Q := by
  intro l hst G b
  have hcw : kcw M = .codeWith M.1 M.2.1 M.2.2.1 M.2.2.2.1 M.2.2.2.2 := by
    unfold kcw
    cases h : M.2.2.2.2 with
    | nil => exact absurd h hh
    | cons x t => rfl
  refine vx_ofWH (cc := M.2.1) (maxL := M.2.2.1) (ret := M.2.2.2.1) (hh := M.2.2.2.2) (ws' := kTb) hy (by unfold kws; rw [hcw]) ?_
  intro p e s m args below meth c s₁ B hml hv
  obtain ⟨rfl, hR, hK, hS⟩ := hv
  have hts := atoms_spec (ws := kws M) B.pre
  have htab : c.exceptionTable.toList = tableOf M.2.2.2.2 := vx_table (x := M.1) B (by rw [← hcw]; exact hts _ List.mem_cons_self)
  have hl1 := lv_entry (As.map (kcv G b)) (n := M.2.2.1) (by rw [k_sl]; exact hl)
  rw [k_args] at hl1
  rw [lg_entry_eq]
  exact h G b p l e (kRm d mc ms) s m _ below meth c s.heap [] 0 0 _ _
    ⟨B.exec, B.bytes, hml, findClass_of_methodNamed B.named, hts, B.returns, B.notSynchronized, (name_of_methodNamed B.named B.method).1, hst, hK, hS, Nat.le_refl _, Nat.le_refl _, by rw [hR.1]; exact Nat.le_add_right _ _, fun _ => htab⟩
    (Or.inl ⟨hn, fun q => absurd hX q, rfl⟩) hR va_S.rf (by rw [Nat.zero_add]; exact Nat.le_refl mc) (by rw [Nat.zero_add]; exact Nat.le_refl ms) hl1
