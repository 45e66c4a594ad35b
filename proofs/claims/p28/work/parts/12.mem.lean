section KMEM
variable {X : Nat × (Nat → Int32)} {M : kMi} {dd : Nat} {Q : kQ} {rc rs n : Nat} {w : kM} {L : List (Nat × Value)} {st : List Value}
def kuF (F : Nat → Value) (k : Nat) (v : Value) : Nat → Value := fun j => if j = k then v else F j
def kuf (f : Nat → Int32) (k : Nat) (v : Int32) : Nat → Int32 := fun j => if j = k then v else f j
theorem kcv_uF (G : kG) (b : Nat) (F : Nat → Value) (k : Nat) (v : Value) : (fun j => kcv G b (kuF F k v j)) = updV (fun j => kcv G b (F j)) k (kcv G b v) := by
  funext j
  unfold kuF updV
  by_cases h : j = k <;> simp [h]
theorem kint_uf (f : Nat → Int32) (k : Nat) (v : Int32) : (fun j => Value.int (kuf f k v j)) = updV (fun j => Value.int (f j)) k (.int v) := by
  funext j
  unfold kuf updV
  by_cases h : j = k <;> simp [h]
/-- what the tables say of a field of the class ci, read or written by own's code at idx -/
def kFl (own : String) (idx ci k : Nat) (fin : Bool) (ty : FieldType) : Prop := ∃ r : vw_C, kcl[ci]? = some r ∧ k < r.2.2 ∧ Cond.fieldLink own idx (r.2.1 k).1 (r.2.1 k).2.1 (r.2.1 k).2.2.1 ∈ kTb ∧ (r.2.1 k).2.2.2 = fin ∧ (r.2.1 k).1 = r.1 ∧ parseFieldDescriptor (r.2.1 k).2.2.1 = some ty
def kFW : Prop := ∀ (ci : Nat) (r : vw_C), kcl[ci]? = some r → (∀ w ∈ u_ws r.1 r.2.1 r.2.2, w ∈ kTb) ∧ (∀ a, a < r.2.2 → ∀ b, b < r.2.2 → a ≠ b → (r.2.1 a).2.1 ≠ (r.2.1 b).2.1) ∧ ∃ ty0 : Nat → FieldType, ∀ k, k < r.2.2 → parseFieldDescriptor (r.2.1 k).2.2.1 = some (ty0 k)
theorem kw_getfield {pc idx o ci k : Nat} {fin : Bool} {ty : FieldType} {F : Nat → Value} {v : Value} (hFW : kFW) (d : decode M.2.1 pc = .ok (.getfield idx, 3)) (hf : kFl M.1.cls idx ci k fin ty) (h : w o = kO ci F) (hv : F k = v) (kk : kW X M dd Q rc rs n w (pc + 3) L (v :: st)) : kW X M dd Q rc rs n w pc L (.ref o :: st) := by
  intro G b p l e R s m args below meth c H locs cells slots ls Z hO hE hR hS hc hs hl
  obtain ⟨r, hr1, hk, hlink, -, -, -⟩ := hf
  have hts := hO.2.2.2.2.1
  have hK := hO.2.2.2.2.2.2.2.2.2.1
  have hA := hR.2.2 o
  rw [h] at hA
  obtain ⟨r', h1, cell, q1, q2, q3, q4⟩ := hA
  cases hr1.symm.trans h1
  obtain ⟨hSl, hfc, kC', hkC, hkind⟩ := hK.1 ci _ hr1
  obtain ⟨cf, kf, fi, f, hi, hsl⟩ := hSl k hk
  refine W.getf hO.1 hO.2.1 hO.2.2.2.1 (hts _ (List.mem_cons_of_mem _ hlink)) hi (u_facts hfc hkC (u_lays hts (fun z hz => List.mem_cons_of_mem _ ((hFW ci r hr1).1 z hz)) hk) hi).1 q1 (by rw [q3]; exact fun h => by cases h) (v := kcv G b v) ?_ rfl rfl d (kk G b p l e R s m args below meth c H locs cells slots ls Z hO hE hR hS hc hs hl)
  rw [hsl]
  exact (q4 k hk).trans (by show some (kcv G b (F k)) = _; rw [hv])
theorem kw_putfield {pc idx o ci k : Nat} {ty : FieldType} {F : Nat → Value} {v : Value} (hFW : kFW) (d : decode M.2.1 pc = .ok (.putfield idx, 3)) (hf : kFl M.1.cls idx ci k false ty) (h : w o = kO ci F) (hn : ∀ G b, narrow ty (kcv G b v) = kcv G b v) (hfit : ∀ G b, fits ty (kcv G b v) = true) (kk : kW X M dd Q rc rs n (kup w o (kO ci (kuF F k v))) (pc + 3) L st) : kW X M dd Q rc rs n w pc L (v :: .ref o :: st) := by
  intro G b p l e R s m args below meth c H locs cells slots ls Z hO hE hR hS hc hs hl
  obtain ⟨r, hr1, hk, hlink, hfin, -, hd⟩ := hf
  have hts := hO.2.2.2.2.1
  have hK := hO.2.2.2.2.2.2.2.2.2.1
  obtain ⟨hin0, hnm, ty0, hty⟩ := hFW ci r hr1
  have hin : ∀ z ∈ u_ws r.1 r.2.1 r.2.2, z ∈ kws M := fun z hz => List.mem_cons_of_mem _ (hin0 z hz)
  have hlt : o < n := hR.lt (by rw [h]; intro q; cases q)
  have hA := hR.2.2 o
  rw [h] at hA
  obtain ⟨r', h1, cell, q1, q2, q3, q4⟩ := hA
  cases hr1.symm.trans h1
  have hap : ∀ x y, x < r.2.2 → y < r.2.2 → x ≠ y → (G.1.2 ci) x ≠ (G.1.2 ci) y := by
    intro x y hx hy hne
    obtain ⟨hS0, -⟩ := hK.1 ci _ hr1
    obtain ⟨_, _, _, fa, hia, ea⟩ := hS0 x hx
    obtain ⟨_, _, _, fb, hib, eb⟩ := hS0 y hy
    rw [← ea, ← eb]
    refine u_apart (u_lays hts hin hx) (u_lays hts hin hy) hia hib ?_
    rw [(State.fieldFound?_type hia (hty x hx)).1, (State.fieldFound?_type hib (hty y hy)).1]
    exact hnm x hx y hy hne
  obtain ⟨hSl, hfc, kC', hkC, hkind⟩ := hK.1 ci _ hr1
  obtain ⟨cf, kf, fi, f, hi, hsl⟩ := hSl k hk
  have hlay := hts _ (hin _ (u_in_lay hk))
  unfold u_lay at hlay
  rw [if_neg (by rw [hfin]; decide)] at hlay
  have hst := (u_facts hfc hkC (u_lays hts hin hk) hi).1
  have h6 := u_store hfc hkC hkind hlay hi hd (hn G b) (hfit G b)
  refine W.putK hO.1 hO.2.1 (f := f) ⟨hO.2.2.2.1, hts _ (List.mem_cons_of_mem _ hlink), ⟨_, _, _, hi⟩, hst⟩ (by rw [q2]; exact h6) q1 q3 (by rw [hsl]; exact k2_hasslot (q4 k hk)) rfl rfl d fun H' e1 e2 e3 => ?_
  rw [hsl] at e1 ⊢
  refine kk G b p l e R s m args below meth c H' _ cells slots ls Z hO hE (hR.put hlt ⟨r, hr1, ?_⟩ e2 e3) (hS.put e2 e3 (Nat.le_add_right _ _)) hc hs hl
  show t_OB (b + o) (G.1.1 ci) r.2.2 (G.1.2 ci) H' (fun j => kcv G b (kuF F k v j))
  rw [kcv_uF]
  exact ⟨_, e1, q2, q3, t_set q4 hap hk _⟩
theorem kw_putfieldF {pc idx o ci k : Nat} {ty : FieldType} {F : Nat → Value} {v : Value} (hFW : kFW) (d : decode M.2.1 pc = .ok (.putfield idx, 3)) (hf : kFl M.1.cls idx ci k true ty) (hini : M.1.name = "<init>") (hdecl : (kcl[ci]?).map (fun r => r.1) = some M.1.cls) (h : w o = kO ci F) (hn : ∀ G b, narrow ty (kcv G b v) = kcv G b v) (hfit : ∀ G b, fits ty (kcv G b v) = true) (kk : kW X M dd Q rc rs n (kup w o (kO ci (kuF F k v))) (pc + 3) L st) : kW X M dd Q rc rs n w pc L (v :: .ref o :: st) := by
  intro G b p l e R s m args below meth c H locs cells slots ls Z hO hE hR hS hc hs hl
  obtain ⟨r, hr1, hk, hlink, hfin, hown1, hd⟩ := hf
  rw [hr1] at hdecl
  have hdecl : r.1 = M.1.cls := Option.some.inj hdecl
  have hts := hO.2.2.2.2.1
  have hown := hO.2.2.2.1
  have hK := hO.2.2.2.2.2.2.2.2.2.1
  obtain ⟨hin0, hnm, ty0, hty⟩ := hFW ci r hr1
  have hin : ∀ z ∈ u_ws r.1 r.2.1 r.2.2, z ∈ kws M := fun z hz => List.mem_cons_of_mem _ (hin0 z hz)
  have hlt : o < n := hR.lt (by rw [h]; intro q; cases q)
  have hA := hR.2.2 o
  rw [h] at hA
  obtain ⟨r', h1, cell, q1, q2, q3, q4⟩ := hA
  cases hr1.symm.trans h1
  have hap : ∀ x y, x < r.2.2 → y < r.2.2 → x ≠ y → (G.1.2 ci) x ≠ (G.1.2 ci) y := by
    intro x y hx hy hne
    obtain ⟨hS0, -⟩ := hK.1 ci _ hr1
    obtain ⟨_, _, _, fa, hia, ea⟩ := hS0 x hx
    obtain ⟨_, _, _, fb, hib, eb⟩ := hS0 y hy
    rw [← ea, ← eb]
    refine u_apart (u_lays hts hin hx) (u_lays hts hin hy) hia hib ?_
    rw [(State.fieldFound?_type hia (hty x hx)).1, (State.fieldFound?_type hib (hty y hy)).1]
    exact hnm x hx y hy hne
  obtain ⟨hSl, hfc, kC', hkC, hkind⟩ := hK.1 ci _ hr1
  obtain ⟨cf, kf, fi, f, hi, hsl⟩ := hSl k hk
  have hlay := hts _ (hin _ (u_in_lay hk))
  unfold u_lay at hlay
  rw [if_pos hfin] at hlay
  have hst := (u_facts hfc hkC (u_lays hts hin hk) hi).1
  have hcf : m.cls = cf := by
    obtain ⟨_, _, c', _, _, _, -, -, hf', -, -, -, hown2, -⟩ := Cond.laysFinal_spec hlay
    have e1 : c' = cf := by have := hi.symm.trans hf'; simp at this; exact this.1.symm
    rw [hown1, hdecl] at hown2
    rw [← e1]; exact Option.some.inj (hown.symm.trans hown2)
  have h6 := u_fits hfc hkC hkind (Or.inr hlay) hi hd (hn G b) (hfit G b)
  refine W.putFinK hO.1 hO.2.1 hown (hts _ (List.mem_cons_of_mem _ hlink)) hi hst hcf (hO.2.2.2.2.2.2.2.1.trans hini) (by rw [q2]; exact h6) q1 q3 (by rw [hsl]; exact k2_hasslot (q4 k hk)) rfl rfl d fun H' e1 e2 e3 => ?_
  rw [hsl] at e1 ⊢
  refine kk G b p l e R s m args below meth c H' _ cells slots ls Z hO hE (hR.put hlt ⟨r, hr1, ?_⟩ e2 e3) (hS.put e2 e3 (Nat.le_add_right _ _)) hc hs hl
  show t_OB (b + o) (G.1.1 ci) r.2.2 (G.1.2 ci) H' (fun j => kcv G b (kuF F k v j))
  rw [kcv_uF]
  exact ⟨_, e1, q2, q3, t_set q4 hap hk _⟩
theorem kw_iaload {pc a N : Nat} {f : Nat → Int32} {j : Int32} (d : decode M.2.1 pc = .ok (.iaload, 1)) (h : w a = kI 0 N f) (hin : vp_in j N) (kk : kW X M dd Q rc rs n w (pc + 1) L (.int (f j.toNatClampNeg) :: st)) : kW X M dd Q rc rs n w pc L (.int j :: .ref a :: st) := by
  intro G b p l e R s m args below meth c H locs cells slots ls Z hO hE hR hS hc hs hl
  have hK := hO.2.2.2.2.2.2.2.2.2.1
  have hlt : j.toNatClampNeg < N := Nat.not_le.mp fun q => hin (Or.inr q)
  have hA := hR.2.2 a
  rw [h] at hA
  exact W.iald (v := .int (f j.toNatClampNeg)) hO.1 hO.2.1 hA.2 ((hK.2.1 0 (by decide)).1 N (fun j => .int (f j))) (fun q => by cases q) (by show ¬ (j < 0 ∨ (arrV _ _ _).slots.size ≤ _); rw [arrV_size]; exact hin) (by show (arrV _ _ _).slots[_]? = _; rw [arrV_read _ _ hlt]) rfl rfl d (kk G b p l e R s m args below meth c H locs cells slots ls Z hO hE hR hS hc hs hl)
theorem kw_zaload {pc a N : Nat} {f : Nat → Int32} {j : Int32} (d : decode M.2.1 pc = .ok (.baload, 1)) (h : w a = kI 1 N f) (hin : vp_in j N) (kk : kW X M dd Q rc rs n w (pc + 1) L (.int (f j.toNatClampNeg) :: st)) : kW X M dd Q rc rs n w pc L (.int j :: .ref a :: st) := by
  intro G b p l e R s m args below meth c H locs cells slots ls Z hO hE hR hS hc hs hl
  have hK := hO.2.2.2.2.2.2.2.2.2.1
  have hlt : j.toNatClampNeg < N := Nat.not_le.mp fun q => hin (Or.inr q)
  have hA := hR.2.2 a
  rw [h] at hA
  exact W.zald (v := .int (f j.toNatClampNeg)) hO.1 hO.2.1 hA.2 ((hK.2.1 1 (by decide)).1 N (fun j => .int (f j))) (fun q => by cases q) (by show ¬ (j < 0 ∨ (arrV _ _ _).slots.size ≤ _); rw [arrV_size]; exact hin) (by show (arrV _ _ _).slots[_]? = _; rw [arrV_read _ _ hlt]) rfl rfl d (kk G b p l e R s m args below meth c H locs cells slots ls Z hO hE hR hS hc hs hl)
theorem kw_iastore {pc a N : Nat} {f : Nat → Int32} {j x : Int32} (d : decode M.2.1 pc = .ok (.iastore, 1)) (h : w a = kI 0 N f) (hin : vp_in j N) (kk : kW X M dd Q rc rs n (kup w a (kI 0 N (kuf f j.toNatClampNeg x))) (pc + 1) L st) : kW X M dd Q rc rs n w pc L (.int x :: .int j :: .ref a :: st) := by
  intro G b p l e R s m args below meth c H locs cells slots ls Z hO hE hR hS hc hs hl
  have hK := hO.2.2.2.2.2.2.2.2.2.1
  have hlt : j.toNatClampNeg < N := Nat.not_le.mp fun q => hin (Or.inr q)
  have hal : a < n := hR.lt (by rw [h]; intro q; cases q)
  have hA := hR.2.2 a
  rw [h] at hA
  refine W.iast (x := x) hO.1 hO.2.1 hA.2 ((hK.2.1 0 (by decide)).1 N (fun j => .int (f j))) (fun q => by cases q) (by show ¬ (j < 0 ∨ (arrV _ _ _).slots.size ≤ _); rw [arrV_size]; exact hin) rfl rfl d fun H' e1 e2 e3 => ?_
  refine kk G b p l e R s m args below meth c H' _ cells slots ls Z hO hE (hR.put hal ⟨hA.1, ?_⟩ e2 e3) (hS.put e2 e3 (Nat.le_add_right _ _)) hc hs hl
  rw [e1]
  skip
  show some ((arrV _ _ _).setSlot _ _) = some (arrV _ _ _)
  rw [arrV_store, kint_uf]
theorem kw_zastore {pc a N : Nat} {f : Nat → Int32} {j x : Int32} (d : decode M.2.1 pc = .ok (.bastore, 1)) (h : w a = kI 1 N f) (hin : vp_in j N) (hz : narrow .boolean (.int x) = .int x) (kk : kW X M dd Q rc rs n (kup w a (kI 1 N (kuf f j.toNatClampNeg x))) (pc + 1) L st) : kW X M dd Q rc rs n w pc L (.int x :: .int j :: .ref a :: st) := by
  intro G b p l e R s m args below meth c H locs cells slots ls Z hO hE hR hS hc hs hl
  have hK := hO.2.2.2.2.2.2.2.2.2.1
  have hlt : j.toNatClampNeg < N := Nat.not_le.mp fun q => hin (Or.inr q)
  have hal : a < n := hR.lt (by rw [h]; intro q; cases q)
  have hA := hR.2.2 a
  rw [h] at hA
  refine W.zast (x := x) hO.1 hO.2.1 hA.2 ((hK.2.1 1 (by decide)).1 N (fun j => .int (f j))) (fun q => by cases q) (by show ¬ (j < 0 ∨ (arrV _ _ _).slots.size ≤ _); rw [arrV_size]; exact hin) rfl rfl d fun H' e1 e2 e3 => ?_
  refine kk G b p l e R s m args below meth c H' _ cells slots ls Z hO hE (hR.put hal ⟨hA.1, ?_⟩ e2 e3) (hS.put e2 e3 (Nat.le_add_right _ _)) hc hs hl
  rw [e1]
  rw [hz]
  show some ((arrV _ _ _).setSlot _ _) = some (arrV _ _ _)
  rw [arrV_store, kint_uf]
theorem kw_aaload {pc a N t o : Nat} {f : Nat → Value} {j : Int32} (d : decode M.2.1 pc = .ok (.aaload, 1)) (h : w a = kV t N f) (ht : (kaT t).isReference = true) (hin : vp_in j N) (ho : f j.toNatClampNeg = .ref o) (kk : kW X M dd Q rc rs n w (pc + 1) L (.ref o :: st)) : kW X M dd Q rc rs n w pc L (.int j :: .ref a :: st) := by
  intro G b p l e R s m args below meth c H locs cells slots ls Z hO hE hR hS hc hs hl
  have hK := hO.2.2.2.2.2.2.2.2.2.1
  have hlt : j.toNatClampNeg < N := Nat.not_le.mp fun q => hin (Or.inr q)
  have hA := hR.2.2 a
  rw [h] at hA
  exact W.aald (v := .ref (b + o)) hO.1 hO.2.1 hA.2 ((hK.2.1 t hA.1).1 N _) ht (fun q => by cases q) (by show ¬ (j < 0 ∨ (arrV _ _ _).slots.size ≤ _); rw [arrV_size]; exact hin) (by show (arrV _ _ _).slots[_]? = _; rw [arrV_read _ _ hlt]; show some (kcv G b (f _)) = _; rw [ho]; rfl) rfl rfl d (kk G b p l e R s m args below meth c H locs cells slots ls Z hO hE hR hS hc hs hl)
/-- a reference to an object into an array of its class -/
theorem kw_aastore {pc a N t o ci : Nat} {r : vw_C} {f F : Nat → Value} {j : Int32} (d : decode M.2.1 pc = .ok (.aastore, 1)) (h : w a = kV t N f) (hr : kcl[ci]? = some r) (ht : kaT t = .object r.1) (hin : vp_in j N) (ho : w o = kO ci F) (kk : kW X M dd Q rc rs n (kup w a (kV t N (kuF f j.toNatClampNeg (.ref o)))) (pc + 1) L st) : kW X M dd Q rc rs n w pc L (.ref o :: .int j :: .ref a :: st) := by
  intro G b p l e R s m args below meth c H locs cells slots ls Z hO hE hR hS hc hs hl
  have hK := hO.2.2.2.2.2.2.2.2.2.1
  have hlt : j.toNatClampNeg < N := Nat.not_le.mp fun q => hin (Or.inr q)
  have h0 : ¬ j < 0 := fun q => hin (Or.inl q)
  have hal : a < n := hR.lt (by rw [h]; intro q; cases q)
  have hA := hR.2.2 a
  rw [h] at hA
  have hB := hR.2.2 o
  rw [ho] at hB
  obtain ⟨r', h1, cellV, g1, g2, g3, -⟩ := hB
  have hcls := (hK.1 ci r hr).2
  have hra := (hK.2.1 t hA.1).2
  rw [ht] at hra
  obtain ⟨kA, comp, k1, k2, k3, -⟩ := hra
  have hcomp : comp = G.1.1 ci := Option.some.inj (k3.symm.trans hcls.1)
  subst hcomp
  obtain ⟨kC, hkC, -⟩ := hcls.2
  refine W.aast hO.1 hO.2.1 hA.2 (fun q h => by cases h) (fun h => by cases h) k1 k2 rfl hkC ⟨h0, by show _ < (arrV _ _ _).slots.size; rw [arrV_size]; exact hlt⟩ g1 (fun q h => by rw [g3] at h; cases h) (by rw [g2]; exact hkC) (by rw [g2]; exact va_assign hcls) rfl rfl d fun H' e1 e2 e3 => ?_
  refine kk G b p l e R s m args below meth c H' _ cells slots ls Z hO hE (hR.put hal ⟨hA.1, ?_⟩ e2 e3) (hS.put e2 e3 (Nat.le_add_right _ _)) hc hs hl
  rw [e1]
  show some ((arrV _ _ _).setSlot _ _) = some (arrV _ _ _)
  rw [arrV_store]
  show _ = some (arrV _ _ (fun j => kcv G b (kuF f _ _ j)))
  rw [kcv_uF]
  rfl
theorem kw_alenI {pc a t N : Nat} {f : Nat → Int32} {v : Int32} (d : decode M.2.1 pc = .ok (.arraylength, 1)) (h : w a = kI t N f) (hv : Int32.ofNat N = v) (kk : kW X M dd Q rc rs n w (pc + 1) L (.int v :: st)) : kW X M dd Q rc rs n w pc L (.ref a :: st) := by
  intro G b p l e R s m args below meth c H locs cells slots ls Z hO hE hR hS hc hs hl
  have hK := hO.2.2.2.2.2.2.2.2.2.1
  have hA := hR.2.2 a
  rw [h] at hA
  exact W.alen (n := v) hO.1 hO.2.1 hA.2 ((hK.2.1 t hA.1).1 N _) (by rw [arrV_size]; exact hv) rfl rfl d (kk G b p l e R s m args below meth c H locs cells slots ls Z hO hE hR hS hc hs hl)
theorem kw_alenV {pc a t N : Nat} {f : Nat → Value} {v : Int32} (d : decode M.2.1 pc = .ok (.arraylength, 1)) (h : w a = kV t N f) (hv : Int32.ofNat N = v) (kk : kW X M dd Q rc rs n w (pc + 1) L (.int v :: st)) : kW X M dd Q rc rs n w pc L (.ref a :: st) := by
  intro G b p l e R s m args below meth c H locs cells slots ls Z hO hE hR hS hc hs hl
  have hK := hO.2.2.2.2.2.2.2.2.2.1
  have hA := hR.2.2 a
  rw [h] at hA
  exact W.alen (n := v) hO.1 hO.2.1 hA.2 ((hK.2.1 t hA.1).1 N _) (by rw [arrV_size]; exact hv) rfl rfl d (kk G b p l e R s m args below meth c H locs cells slots ls Z hO hE hR hS hc hs hl)
/-- a static array -/
theorem kw_getstatic {pc idx i : Nat} {q : kSt1} (d : decode M.2.1 pc = .ok (.getstatic idx, 3)) (hq : kSta[i]? = some q) (hid : q.2.2.2.1 = i) (hlink : Cond.fieldLink M.1.cls idx q.1 q.2.1 q.2.2.1 ∈ kTb) (kk : kW X M dd Q rc rs n w (pc + 3) L (.retAddr i :: st)) : kW X M dd Q rc rs n w pc L st := by
  intro G b p l e R s m args below meth c H locs cells slots ls Z hO hE hR hS hc hs hl
  have hts := hO.2.2.2.2.1
  have hSt := hO.2.2.2.2.2.2.2.2.2.2.1
  have hz := (hSt.1 q (List.mem_of_getElem? hq)).1
  rw [hid] at hz
  exact va_gets hO.1 hO.2.1 hz hS hO.2.2.2.1 (hts _ (List.mem_cons_of_mem _ hlink)) (fun _ h => h) d (kk G b p l e R s m args below meth c H locs cells slots ls Z hO hE hR hS hc hs hl)
theorem kw_getstaticN {pc idx i : Nat} {q : kSt1} {host : String} (d : decode M.2.1 pc = .ok (.getstatic idx, 3)) (hq : kSta[i]? = some q) (hid : q.2.2.2.1 = i) (hlink : Cond.fieldLinkNest M.1.cls idx q.1 q.2.1 q.2.2.1 host ∈ kNest) (kk : kW X M dd Q rc rs n w (pc + 3) L (.retAddr i :: st)) : kW X M dd Q rc rs n w pc L st := by
  intro G b p l e R s m args below meth c H locs cells slots ls Z hO hE hR hS hc hs hl
  have hK := hO.2.2.2.2.2.2.2.2.2.1
  have hSt := hO.2.2.2.2.2.2.2.2.2.2.1
  have hz := (hSt.1 q (List.mem_of_getElem? hq)).1
  rw [hid] at hz
  exact va_getsN hO.1 hO.2.1 hz hS hO.2.2.2.1 (va_Nw.use rfl (hK.2.2.1 _ hlink)) (fun _ h => h) d (kk G b p l e R s m args below meth c H locs cells slots ls Z hO hE hR hS hc hs hl)
theorem kw_ialoadS {pc i : Nat} {q : kSt1} {j : Int32} (d : decode M.2.1 pc = .ok (.iaload, 1)) (hq : kSta[i]? = some q) (hid : q.2.2.2.1 = i) (hty : q.2.2.2.2.1 = .int) (hin : vp_in j q.2.2.2.2.2.1) (kk : kW X M dd Q rc rs n w (pc + 1) L (.int (q.2.2.2.2.2.2 j.toNatClampNeg) :: st)) : kW X M dd Q rc rs n w pc L (.int j :: .retAddr i :: st) := by
  intro G b p l e R s m args below meth c H locs cells slots ls Z hO hE hR hS hc hs hl
  have hSt := hO.2.2.2.2.2.2.2.2.2.2.1
  have hz := (hSt.1 q (List.mem_of_getElem? hq)).2
  rw [hid, hty] at hz
  exact va_ti hO.1 hO.2.1 hz hS hin rfl d (kk G b p l e R s m args below meth c H locs cells slots ls Z hO hE hR hS hc hs hl)
theorem kw_caloadS {pc i : Nat} {q : kSt1} {j : Int32} (d : decode M.2.1 pc = .ok (.caload, 1)) (hq : kSta[i]? = some q) (hid : q.2.2.2.1 = i) (hty : q.2.2.2.2.1 = .char) (hin : vp_in j q.2.2.2.2.2.1) (kk : kW X M dd Q rc rs n w (pc + 1) L (.int (q.2.2.2.2.2.2 j.toNatClampNeg) :: st)) : kW X M dd Q rc rs n w pc L (.int j :: .retAddr i :: st) := by
  intro G b p l e R s m args below meth c H locs cells slots ls Z hO hE hR hS hc hs hl
  have hSt := hO.2.2.2.2.2.2.2.2.2.2.1
  have hz := (hSt.1 q (List.mem_of_getElem? hq)).2
  rw [hid, hty] at hz
  exact va_tc hO.1 hO.2.1 hz hS hin rfl d (kk G b p l e R s m args below meth c H locs cells slots ls Z hO hE hR hS hc hs hl)
theorem kw_alenS {pc i : Nat} {q : kSt1} {v : Int32} (d : decode M.2.1 pc = .ok (.arraylength, 1)) (hq : kSta[i]? = some q) (hid : q.2.2.2.1 = i) (hv : Int32.ofNat q.2.2.2.2.2.1 = v) (kk : kW X M dd Q rc rs n w (pc + 1) L (.int v :: st)) : kW X M dd Q rc rs n w pc L (.retAddr i :: st) := by
  intro G b p l e R s m args below meth c H locs cells slots ls Z hO hE hR hS hc hs hl
  have hSt := hO.2.2.2.2.2.2.2.2.2.2.1
  have hz := (hSt.1 q (List.mem_of_getElem? hq)).2
  rw [hid] at hz
  exact va_tlen hO.1 hO.2.1 hz hS hv d (kk G b p l e R s m args below meth c H locs cells slots ls Z hO hE hR hS hc hs hl)
/-- the script -/
theorem kw_sld {pc : Nat} {j : Int32} (hM : M.1.name = "law") (d : decode M.2.1 pc = .ok (.iaload, 1)) (hin : vp_in j X.1) (kk : kW X M dd Q rc rs n w (pc + 1) L (.int (X.2 j.toNatClampNeg) :: st)) : kW X M dd Q rc rs n w pc L (.int j :: .retAddr 9 :: st) := by
  intro G b p l e R s m args below meth c H locs cells slots ls Z hO hE hR hS hc hs hl
  rcases id hE with ⟨h, -⟩ | ⟨-, ⟨h1, h2, h3⟩, -⟩
  · exact absurd hM h
  · exact va_sld hO.1 hO.2.1 h1 h2 h3 hS hin d (kk G b p l e R s m args below meth c H locs cells slots ls Z hO hE hR hS hc hs hl)
theorem kw_slen {pc : Nat} {v : Int32} (hM : M.1.name = "law") (d : decode M.2.1 pc = .ok (.arraylength, 1)) (hv : Int32.ofNat X.1 = v) (kk : kW X M dd Q rc rs n w (pc + 1) L (.int v :: st)) : kW X M dd Q rc rs n w pc L (.retAddr 9 :: st) := by
  intro G b p l e R s m args below meth c H locs cells slots ls Z hO hE hR hS hc hs hl
  subst hv
  rcases id hE with ⟨h, -⟩ | ⟨-, ⟨h1, h2, h3⟩, -⟩
  · exact absurd hM h
  · exact va_slen hO.1 hO.2.1 h1 h2 h3 hS d (kk G b p l e R s m args below meth c H locs cells slots ls Z hO hE hR hS hc hs hl)
end KMEM
