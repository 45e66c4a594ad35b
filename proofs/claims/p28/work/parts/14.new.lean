section KNEW
variable {X : Nat × (Nat → Int32)} {M : kMi} {dd : Nat} {Q : kQ} {rc rs n : Nat} {w : kM} {L : List (Nat × Value)} {st : List Value}
theorem kcv_def (G : kG) (b : Nat) (t : FieldType) : kcv G b (defaultValue t) = defaultValue t := by cases t <;> rfl
theorem kw_new {pc idx ci N : Nat} {C : String} {T : u_T} (ty : Nat → FieldType) (hFW : kFW) (d : decode M.2.1 pc = .ok (.new idx, 3)) (hci : kcl[ci]? = some (C, T, N)) (hty : ∀ k, k < N → parseFieldDescriptor (T k).2.2.1 = some (ty k)) (h1 : Cond.classLink M.1.cls idx C ∈ kTb) (h2 : Cond.instantiable C N ∈ kTb) (h3 : Cond.initialized C ∈ kTb) (hrc : 1 ≤ rc) (hrs : N ≤ rs) (kk : kW X M dd Q (rc - 1) (rs - N) (n + 1) (kup w n (kO ci (fun k => defaultValue (ty k)))) (pc + 3) L (.ref n :: st)) : kW X M dd Q rc rs n w pc L st := by
  intro G b p l e R s m args below meth c H locs cells slots ls Z hO hE hR hS hc hs hl
  obtain ⟨hx, hb, hml, hown, hts, hret, hlk, -, hstt, hK, hSt, hdR, hlR, hbs, htab⟩ := id hO
  have hKn := hK.1 ci _ hci
  refine W.newcK hx hb hown (hts _ (List.mem_cons_of_mem _ h1)) (hts _ (List.mem_cons_of_mem _ h2)) (hts _ (List.mem_cons_of_mem _ h3)) rfl d (by omega) (by omega) hKn.2.1 rfl fun H1 kC hkC e1 z1 o1 => ?_
  have hbn : H.size = b + n := hR.1
  have hat : kAt G b n (kO ci (fun k => defaultValue (ty k))) H1 := by
    refine ⟨_, hci, ?_⟩
    rw [← hbn]
    refine (u_born (iS := G.1.2 ci) ty hts (fun z hz => List.mem_cons_of_mem _ ((hFW ci _ hci).1 z hz)) hKn hkC e1 hty).to (fun k hk => ?_)
    exact (kcv_def G b (ty k)).symm
  have hk := kk G b p l e R s m args below meth c H1 locs (cells + 1) (slots + N) ls Z hO hE (hR.push hat (by omega) o1) ⟨Nat.le_trans hS.1 (by omega), fun x y1 y2 => (o1 x (Nat.lt_of_lt_of_le y1 hS.1)).trans (hS.2.1 x y1 y2), hS.2.2⟩ (by omega) (by omega) hl
  rw [hbn]
  exact hk
theorem kw_newarray {pc t N : Nat} {atype : ArrayType} {z : Int32} (d : decode M.2.1 pc = .ok (.newarray atype, 2)) (ht7 : t < 3) (hat0 : newarray.typeOf atype = kaT t) (h1 : Cond.arrayClass (newarray.typeOf atype) ∈ kTb) (hz0 : ¬ z < 0) (hz : z.toNatClampNeg = N) (hbytes : N * componentBytes (newarray.typeOf atype) ≤ 536870912) (hrc : 1 ≤ rc) (hrs : N ≤ rs) (kk : kW X M dd Q (rc - 1) (rs - N) (n + 1) (kup w n (kI t N (fun _ => 0))) (pc + 2) L (.ref n :: st)) : kW X M dd Q rc rs n w pc L (.int z :: st) := by
  intro G b p l e R s m args below meth c H locs cells slots ls Z hO hE hR hS hc hs hl
  obtain ⟨hx, hb, hml, hown, hts, hret, hlk, -, hstt, hK, hSt, hdR, hlR, hbs, htab⟩ := id hO
  have hbn : H.size = b + n := hR.1
  subst hz
  refine W.newa hx hb (hts _ (List.mem_cons_of_mem _ h1)) rfl d rfl hz0 hbytes (by omega) (by omega) fun cA kA comp g1 g2 g3 => ?_
  have hcA : cA = G.2.1 t := by
    have h9 := (hK.2.1 t (by omega)).2
    rw [hat0] at g1
    match t, ht7, h9, g1 with
    | 0, _, h9, g1 => exact Option.some.inj (g1.symm.trans h9)
    | 1, _, h9, g1 => exact Option.some.inj (g1.symm.trans h9)
    | 2, _, h9, g1 => exact Option.some.inj (g1.symm.trans h9)
  have hdv : defaultValue (newarray.typeOf atype) = .int 0 := by
    rw [hat0]
    match t, ht7 with
    | 0, _ => rfl
    | 1, _ => rfl
    | 2, _ => rfl
  have hat : kAt G b n (kI t z.toNatClampNeg (fun _ => 0)) (H.push { cls := cA, slots := Array.replicate z.toNatClampNeg (defaultValue (newarray.typeOf atype)), vm := .none }) := by
    refine ⟨by show t < 7; omega, ?_⟩
    show (H.push _)[b + n]? = some (arrV (G.2.1 t) _ (fun _ => .int 0))
    rw [← hbn, ← hcA, hdv, arrV_new]
    simp
  have hk := kk G b p l e R s m args below meth c _ locs (cells + 1) (slots + z.toNatClampNeg) ls Z hO hE (hR.push hat (by simp) (fun q hq => by rw [Array.getElem?_push, if_neg (Nat.ne_of_lt hq)])) ⟨Nat.le_trans hS.1 (by simp), fun x y1 y2 => by rw [Array.getElem?_push, if_neg (Nat.ne_of_lt (Nat.lt_of_lt_of_le y1 hS.1))]; exact hS.2.1 x y1 y2, hS.2.2⟩ (by omega) (by omega) hl
  show W p l e R s m args below meth c _ locs _ _ Z (F0 m (pc + 2) ls (.ref H.size :: st.map (kcv G b)))
  rw [hbn]
  exact hk
/-- an array of references to objects of the class C -/
theorem kw_anewarray {pc idx t N : Nat} {C : String} {z : Int32} (d : decode M.2.1 pc = .ok (.anewarray idx, 3)) (ht7 : t < 7) (hat0 : kaT t = .object C) (h1 : Cond.classLink M.1.cls idx C ∈ kTb) (h2 : C = "StringRates$Parcel" ∨ C = "StringRates$Office") (hz0 : ¬ z < 0) (hz : z.toNatClampNeg = N) (hbytes : N * 4 ≤ 536870912) (hrc : 1 ≤ rc) (hrs : N ≤ rs) (kk : kW X M dd Q (rc - 1) (rs - N) (n + 1) (kup w n (kV t N (fun _ => .null))) (pc + 3) L (.ref n :: st)) : kW X M dd Q rc rs n w pc L (.int z :: st) := by
  intro G b p l e R s m args below meth c H locs cells slots ls Z hO hE hR hS hc hs hl
  obtain ⟨hx, hb, hml, hown, hts, hret, hlk, -, hstt, hK, hSt, hdR, hlR, hbs, htab⟩ := id hO
  have hbn : H.size = b + n := hR.1
  subst hz
  have hao : va_AO C s := by
    rcases h2 with rfl | rfl
    · exact hK.2.2.2.1.1
    · exact hK.2.2.2.1.2.1
  refine W.anew hx hb hown (hts _ (List.mem_cons_of_mem _ h1)) (va_AO.use hao) rfl d rfl hz0 hbytes (by omega) (by omega) fun cA kA comp g1 g2 g3 g4 => ?_
  have hcA : cA = G.2.1 t := by
    have h9 := (hK.2.1 t ht7).2
    rw [hat0] at h9
    obtain ⟨kA2, comp2, j1, j2, j3, j4⟩ := h9
    exact Option.some.inj (g1.symm.trans j4)
  have hat : kAt G b n (kV t z.toNatClampNeg (fun _ => .null)) (H.push { cls := cA, slots := Array.replicate z.toNatClampNeg .null, vm := .none }) := by
    refine ⟨ht7, ?_⟩
    show (H.push _)[b + n]? = some (arrV (G.2.1 t) _ (fun _ => .null))
    rw [← hbn, ← hcA, arrV_new]
    simp
  have hk := kk G b p l e R s m args below meth c _ locs (cells + 1) (slots + z.toNatClampNeg) ls Z hO hE (hR.push hat (by simp) (fun q hq => by rw [Array.getElem?_push, if_neg (Nat.ne_of_lt hq)])) ⟨Nat.le_trans hS.1 (by simp), fun x y1 y2 => by rw [Array.getElem?_push, if_neg (Nat.ne_of_lt (Nat.lt_of_lt_of_le y1 hS.1))]; exact hS.2.1 x y1 y2, hS.2.2⟩ (by omega) (by omega) hl
  show W p l e R s m args below meth c _ locs _ _ Z (F0 m (pc + 3) ls (.ref H.size :: st.map (kcv G b)))
  rw [hbn]
  exact hk
/-- java.lang.Math -/
def kLM (own : String) (idx : Nat) (y : MethodName) (code : ByteArray) (nL : Nat) : Prop := Cond.methodLink own idx y ∈ kTb ∧ Cond.static y ∈ kTb ∧ Cond.initialized "java/lang/Math" ∈ kTb ∧ Cond.code y code nL (some .int) ∈ kTb
theorem kw_mmax {pc idx : Nat} {x y : Int32} (d : decode M.2.1 pc = .ok (.invokestatic idx, 3)) (hw : kLM M.1.cls idx Lib.Math.max.name Lib.Math.max.code 2) (hd1 : 1 ≤ dd) (hcat : (st.map fun v => v.category).sum ≤ 40) (k : kW X M dd Q rc rs n w (pc + 3) L (.int (if x < y then y else x) :: st)) : kW X M dd Q rc rs n w pc L (.int y :: .int x :: st) := by
  intro G b p l e R s m args below meth c H locs cells slots ls Z hO hE hR hS hc hs hl
  obtain ⟨hx, hb, hml, hown, hts, -, -, -, hstt, hK, hSt, hdR, hlR, -, -⟩ := id hO
  exact va_mmax hx hb (by rw [hml]; exact hl.1.symm) hown (hts _ (List.mem_cons_of_mem _ hw.1)) (hts _ (List.mem_cons_of_mem _ hw.2.1)) (hts _ (List.mem_cons_of_mem _ hw.2.2.1)) (hts _ (List.mem_cons_of_mem _ hw.2.2.2)) (by omega) (by rw [kcats]; omega) (by omega) (by omega) d (k G b p l e R s m args below meth c H locs cells slots ls Z hO hE hR hS hc hs hl)
theorem kw_mmin {pc idx : Nat} {x y : Int32} (d : decode M.2.1 pc = .ok (.invokestatic idx, 3)) (hw : kLM M.1.cls idx Lib.Math.min.name Lib.Math.min.code 2) (hd1 : 1 ≤ dd) (hcat : (st.map fun v => v.category).sum ≤ 40) (k : kW X M dd Q rc rs n w (pc + 3) L (.int (if y < x then y else x) :: st)) : kW X M dd Q rc rs n w pc L (.int y :: .int x :: st) := by
  intro G b p l e R s m args below meth c H locs cells slots ls Z hO hE hR hS hc hs hl
  obtain ⟨hx, hb, hml, hown, hts, -, -, -, hstt, hK, hSt, hdR, hlR, -, -⟩ := id hO
  exact va_mmin hx hb (by rw [hml]; exact hl.1.symm) hown (hts _ (List.mem_cons_of_mem _ hw.1)) (hts _ (List.mem_cons_of_mem _ hw.2.1)) (hts _ (List.mem_cons_of_mem _ hw.2.2.1)) (hts _ (List.mem_cons_of_mem _ hw.2.2.2)) (by omega) (by rw [kcats]; omega) (by omega) (by omega) d (k G b p l e R s m args below meth c H locs cells slots ls Z hO hE hR hS hc hs hl)
theorem kw_mabs {pc idx : Nat} {x : Int32} (d : decode M.2.1 pc = .ok (.invokestatic idx, 3)) (hw : kLM M.1.cls idx Lib.Math.abs.name Lib.Math.abs.code 1) (hd1 : 1 ≤ dd) (hcat : (st.map fun v => v.category).sum ≤ 40) (k : kW X M dd Q rc rs n w (pc + 3) L (.int (if 0 ≤ x then x else 0 - x) :: st)) : kW X M dd Q rc rs n w pc L (.int x :: st) := by
  intro G b p l e R s m args below meth c H locs cells slots ls Z hO hE hR hS hc hs hl
  obtain ⟨hx, hb, hml, hown, hts, -, -, -, hstt, hK, hSt, hdR, hlR, -, -⟩ := id hO
  exact va_mabs hx hb (by rw [hml]; exact hl.1.symm) hown (hts _ (List.mem_cons_of_mem _ hw.1)) (hts _ (List.mem_cons_of_mem _ hw.2.1)) (hts _ (List.mem_cons_of_mem _ hw.2.2.1)) (hts _ (List.mem_cons_of_mem _ hw.2.2.2)) (by omega) (by rw [kcats]; omega) (by omega) (by omega) d (k G b p l e R s m args below meth c H locs cells slots ls Z hO hE hR hS hc hs hl)
theorem kw_ldc2 {pc idx : Nat} {v : Int64} (d : decode M.2.1 pc = .ok (.ldc2_w idx, 3)) (hw : Cond.constantLong M.1.cls idx v ∈ kTb) (k : kW X M dd Q rc rs n w (pc + 3) L (.long v :: st)) : kW X M dd Q rc rs n w pc L st := by
  intro G b p l e R s m args below meth c H locs cells slots ls Z hO hE hR hS hc hs hl
  obtain ⟨hx, hb, hml, hown, hts, -⟩ := id hO
  exact lv_ldc2 hx hb hown (hts _ (List.mem_cons_of_mem _ hw)) d (k G b p l e R s m args below meth c H locs cells slots ls Z hO hE hR hS hc hs hl)
theorem kw_ldc2d {pc idx : Nat} {v : UInt64} (d : decode M.2.1 pc = .ok (.ldc2_w idx, 3)) (hw : Cond.constantDouble M.1.cls idx v ∈ kTb) (k : kW X M dd Q rc rs n w (pc + 3) L (.double v :: st)) : kW X M dd Q rc rs n w pc L st := by
  intro G b p l e R s m args below meth c H locs cells slots ls Z hO hE hR hS hc hs hl
  obtain ⟨hx, hb, hml, hown, hts, -⟩ := id hO
  exact lv_ldc2d hx hb hown (hts _ (List.mem_cons_of_mem _ hw)) d (k G b p l e R s m args below meth c H locs cells slots ls Z hO hE hR hS hc hs hl)
/-- System.arraycopy of ints between two arrays -/
theorem kw_acopy {pc idx a0 a1 n0 n1 : Nat} {f g : Nat → Int32} {sp dp z : Int32} (d : decode M.2.1 pc = .ok (.invokestatic idx, 3)) (w1 : Cond.methodLink M.1.cls idx arraycopyName ∈ kTb) (w2 : Cond.native arraycopyName ∈ kTb) (w3 : Cond.static arraycopyName ∈ kTb) (w4 : Cond.initialized "java/lang/System" ∈ kTb)
    (ha0 : w a0 = kI 0 n0 f) (ha1 : w a1 = kI 0 n1 g) (hne : a0 ≠ a1) (h1 : ¬ sp < 0) (h2 : ¬ dp < 0) (h3 : ¬ z < 0) (h4 : sp.toNatClampNeg + z.toNatClampNeg ≤ n0) (h5 : dp.toNatClampNeg + z.toNatClampNeg ≤ n1) (hd1 : 1 ≤ dd) (hcat : (st.map fun v => v.category).sum + (nativeFrameWords "java/lang/System" "arraycopy" 5 + 11) ≤ 60)
    (kk : kW X M dd Q rc rs n (kup w a1 (kI 0 n1 (va_cpy f g sp.toNatClampNeg dp.toNatClampNeg z.toNatClampNeg))) (pc + 3) L st) : kW X M dd Q rc rs n w pc L (.int z :: .int dp :: .ref a1 :: .int sp :: .ref a0 :: st) := by
  intro G b p l e R s m args below meth c H locs cells slots ls Z hO hE hR hS hc hs hl
  obtain ⟨hx, hb, hml, hown, hts, -, -, -, hstt, hK, hSt, hdR, hlR, -, -⟩ := id hO
  have hA0 := hR.2.2 a0
  rw [ha0] at hA0
  have hA1 := hR.2.2 a1
  rw [ha1] at hA1
  have hal : a1 < n := hR.lt (by rw [ha1]; intro q; cases q)
  have nn : ∀ y : Int32, ¬ y < 0 → y.toInt = (y.toNatClampNeg : Int) := by
    intro y hz
    have hz0 : (0 : Int) ≤ y.toInt := by
      have := Int32.not_lt.mp hz
      simpa using Int32.le_iff_toInt_le.mp this
    show y.toInt = ((y.toInt.toNat : Nat) : Int)
    omega
  have hA0 : H[b + a0]? = some (arrV (G.2.1 0) n0 (fun j => .int (f j))) := hA0.2
  have hA1 : H[b + a1]? = some (arrV (G.2.1 0) n1 (fun j => .int (g j))) := hA1.2
  obtain ⟨-, k0, hk0, cm0, hkk0⟩ := (hK.2.1 0 (by decide)).1 n0 (fun j => .int (f j))
  obtain ⟨-, k1, hk1, cm1, hkk1⟩ := (hK.2.1 0 (by decide)).1 n1 (fun j => .int (g j))
  intro T hT X0
  obtain ⟨vm', X', step⟩ := X0.arraycopy hx hown (hts _ (List.mem_cons_of_mem _ w1)) (hts _ (List.mem_cons_of_mem _ w2)) (hts _ (List.mem_cons_of_mem _ w3)) (hts _ (List.mem_cons_of_mem _ w4)) (src := b + a0) (dst := b + a1) (cs := arrV (G.2.1 0) n0 (fun j => .int (f j))) (cd := arrV (G.2.1 0) n1 (fun j => .int (g j))) (srcPos := sp) (destPos := dp) (n := z) (by rw [hT]; exact hA0) (by rw [hT]; exact hA1)
    (fun _ h => by cases h) (fun _ h => by cases h) (fun h => by cases h) (fun h => by cases h) hk0 hk1 hkk0 hkk1 (by simp [kaT, refKind]) h1 h2 h3
    (by rw [nn sp h1, nn z h3]; show ¬ _ > ((arrV _ n0 (fun j => .int (f j))).slots.size : Int); rw [arrV_size]; omega)
    (by rw [nn dp h2, nn z h3]; show ¬ _ > ((arrV _ n1 (fun j => .int (g j))).slots.size : Int); rw [arrV_size]; omega)
    (fun vm₁ _ i hi => by
      have e : (arrV (G.2.1 0) n0 (fun j => .int (f j))).slots.getD (sp.toNatClampNeg + i) .null = .int (f (sp.toNatClampNeg + i)) := by
        rw [Array.getD_eq_getD_getElem?, arrV_read _ _ (by omega)]
        rfl
      refine ⟨?_, ?_⟩
      · rw [e]
        rfl
      · rw [e]
        exact trivial)
    (g := F0 m pc ls (.int z :: .int dp :: .ref (b + a1) :: .int sp :: .ref (b + a0) :: st.map (kcv G b))) rfl (by rw [hml]; exact hl.1) (rest := st.map (kcv G b)) rfl (by rw [hb]; exact d) (by omega) (by rw [kcats]; show 2 * 0 + _ + _ ≤ _; omega)
  have e1 : copied (arrV (G.2.1 0) n0 (fun j => .int (f j))) (arrV (G.2.1 0) n1 (fun j => .int (g j))) sp dp z = arrV (G.2.1 0) n1 (fun j => .int (va_cpy f g sp.toNatClampNeg dp.toNatClampNeg z.toNatClampNeg j)) := va_copied (fun z => .int z) _ _ f g h4
  rw [e1] at X' step
  have hl1 : b + a1 < H.size := (Array.getElem?_eq_some_iff.mp hA1).1
  have hheap : ((T.setVm vm').setCell (b + a1) (arrV (G.2.1 0) n1 (fun j => .int (va_cpy f g sp.toNatClampNeg dp.toNatClampNeg z.toNatClampNeg j)))).heap = H.setIfInBounds (b + a1) (arrV (G.2.1 0) n1 (fun j => .int (va_cpy f g sp.toNatClampNeg dp.toNatClampNeg z.toNatClampNeg j))) := by rw [← hT]; rfl
  have oq : ∀ q : Nat, q ≠ b + a1 → (H.setIfInBounds (b + a1) (arrV (G.2.1 0) n1 (fun j => .int (va_cpy f g sp.toNatClampNeg dp.toNatClampNeg z.toNatClampNeg j))))[q]? = H[q]? := fun q hq => by simp [Array.getElem?_setIfInBounds, Ne.symm hq]
  have hR1 := hR.put (H1 := H.setIfInBounds (b + a1) (arrV (G.2.1 0) n1 (fun j => .int (va_cpy f g sp.toNatClampNeg dp.toNatClampNeg z.toNatClampNeg j)))) (c := kI 0 n1 (va_cpy f g sp.toNatClampNeg dp.toNatClampNeg z.toNatClampNeg)) hal ⟨by show 0 < 7; decide, by show (H.setIfInBounds (b + a1) _)[b + a1]? = some _; simp [Array.getElem?_setIfInBounds, hl1]⟩ (by simp) oq
  obtain ⟨t, y1, y2⟩ := kk G b p l e R s m args below meth c _ _ cells slots ls Z hO hE hR1 ⟨by simp; exact hS.1, fun q g1 g2 => by
      rw [oq q (fun e => g2 (by rw [e]; exact Nat.le_add_right _ _))]
      exact hS.2.1 q g1 g2, fun q hq => by
      rcases List.mem_append.mp hq with h | h
      · exact hS.2.2 q h
      · obtain ⟨y, -, hz⟩ := List.mem_map.mp h
        rw [← hz]
        exact Nat.le_add_right _ _⟩ hc hs hl _ hheap X'
  exact ⟨t, step t y1, y2⟩
end KNEW
