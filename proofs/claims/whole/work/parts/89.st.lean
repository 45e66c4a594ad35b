theorem tyM_ok : ∀ k, k < 9 → parseFieldDescriptor (TX6 k).2.2.1 = some (tyM k) := by decide +kernel
theorem xF0_F : (fun k => defaultValue (tyX k)) = xF0 := rfl
theorem mF0_F : (fun k => defaultValue (tyM k)) = mF0 := rfl
set_option maxRecDepth 100000 in
set_option maxHeartbeats 4000000 in
/-- the law from its entry, over nothing made -/
theorem law_start {X : Nat × (Nat → Int32)} (hX : X.1 ≤ 3072) : kW X mL_law 14 QL 4000 40000 0 (fun _ => kX) 0 [(0, .retAddr 9)] [] := by
  refine kw_new (pc := 0) tyX kfw dL_law_0 (ci := 5) rfl tyX_ok nL_8 ki_5 kj_5 (by decide) (Nat.le_of_ble_eq_true rfl) ?_
  rw [xF0_F]
  refine kw_dup (pc := 3) dL_law_3 rfl ?_
  refine kw_callIi (pc := 4) dL_law_4 lL_80 (c5_init (kup_self _ _ _)) (kup_self _ _ _) rfl rfl ⟨by decide, by decide, Nat.le_of_ble_eq_true rfl, Nat.le_of_ble_eq_true rfl, Nat.le_of_ble_eq_true rfl⟩ (fun w1 hw1 => ?_)
  obtain ⟨C1, F1⟩ := hw1
  refine kw_astore_n (pc := 7) dL_law_7 (by decide) rfl ?_
  refine kw_new (pc := 8) tyM kfw dL_law_8 (ci := 6) rfl tyM_ok nL_81 ki_6 kj_6 (Nat.le_of_ble_eq_true rfl) (Nat.le_of_ble_eq_true rfl) ?_
  rw [mF0_F]
  refine kw_dup (pc := 11) dL_law_11 rfl ?_
  refine kw_callIi (P := fun w' => w' = mM (kup w1 128 (kO 6 mF0)) 128 iniS 0 z0 z0 0 0 z0 z0 0) (pc := 12) dL_law_12 lL_83 (c_init6 (kup_self _ _ _)) (kup_self _ _ _) rfl rfl ⟨by decide, by decide, Nat.le_of_ble_eq_true rfl, Nat.le_of_ble_eq_true rfl, Nat.le_of_ble_eq_true rfl⟩ (fun w2 hw2 => ?_)
  refine kw_astore_n (pc := 15) dL_law_15 (by decide) rfl ?_
  refine kw_iconst (v := 1) (pc := 16) dL_law_16 (by decide) ?_
  refine kw_newlongs (pc := 17) (N := 1) dL_law_17 ka_long (by decide) rfl (by decide) (Nat.le_of_ble_eq_true rfl) (Nat.le_of_ble_eq_true rfl) (kgen (fun w3 hw3 => ?_))
  refine kw_astore_n (pc := 19) dL_law_19 (by decide) rfl ?_
  refine kw_iconst (v := 0) (pc := 20) dL_law_20 (by decide) ?_
  refine kw_istore (pc := 21) dL_law_21 (by decide) rfl ?_
  have F3 : ∀ a, a ≠ 134 → w3 a = w2 a := fun a h => by rw [hw3]; exact kup_ne h
  have F2 : ∀ a, a < 128 → w2 a = w1 a := fun a h => by rw [hw2, mM_o (Or.inl h)]; exact kup_ne (by omega)
  have J : JS w3 iniS 0 z0 z0 0 0 := by
    refine ⟨C1.fr (fun a h => (F3 a (by omega)).trans (F2 a h)), mdl.fr (w := w2) ⟨0, z0, z0, 0, mdl.of hw2⟩ (fun a h1 h2 => F3 a (by omega)), ⟨fun _ => 0, by rw [hw3]; exact kup_self _ _ _⟩, ⟨iniS_ok, fun i hi => absurd hi (Nat.not_lt_zero i), fun b _ h => absurd rfl h⟩, Nat.zero_le _, fun j hj => absurd hj (Nat.not_lt_zero j)⟩
  exact kW.locs (law_loop hX (X.1 - 0) 0 rfl (Nat.zero_le _) _ _ _ w3 iniS 0 z0 z0 0 0 J (Nat.le_trans (Nat.sub_le _ _) (Nat.le_trans hX (Nat.le_of_ble_eq_true rfl))) (Nat.le_trans (Nat.mul_le_mul_left 6 (Nat.le_trans (Nat.sub_le _ _) hX)) (Nat.le_of_ble_eq_true rfl))) ⟨rfl, rfl, rfl, rfl, rfl, trivial⟩
/-! ===== what the start is given ===== -/
theorem tin_all {l : List Cond} (ps : List Nat) (h : (ps.map fun i => tables_1[i]?) = l.map some) : ∀ w ∈ l, w ∈ lw_tbl := by
  intro w hw
  obtain ⟨k, hk⟩ := List.getElem?_of_mem hw
  have h1 : (ps.map fun i => tables_1[i]?)[k]? = some (some w) := by rw [h, List.getElem?_map, hk]; rfl
  rw [List.getElem?_map] at h1
  cases hi : ps[k]? with
  | none => rw [hi] at h1; cases h1
  | some i =>
    rw [hi] at h1
    exact List.mem_append_right _ (List.mem_of_getElem? (Option.some.inj h1))
theorem tin {w : Cond} (i : Nat) (h : tables_1[i]? = some w) : w ∈ lw_tbl := List.mem_append_right _ (List.mem_of_getElem? h)
theorem kNest_in : ∀ w ∈ kNest, w ∈ lw_tbl := tin_all [34, 71, 132, 153, 158, 342, 457, 638, 343, 344, 345, 346, 347, 348] (by decide +kernel)
theorem kNest_on : ∀ w ∈ kNest, w.onTables = true := List.all_eq_true.mp kt7
section ST
variable {s : State} {b : Nat}
theorem st_kn (hts : ∀ w ∈ lw_tbl, w.before #[Value.ref b] s = true) : ∃ (dC : Nat → ClassId) (dI : Nat → Nat → Nat), ∀ (c : Nat) (q : vw_C), kcl[c]? = some q → u_Kn s q.1 q.2.1 q.2.2 (dC c) (dI c) := by
  have hk : ∀ w ∈ kTb, w.before #[Value.ref b] s = true := fun w hw => hts w (List.mem_filter.mp hw).1
  have one : ∀ (c : Nat) (q : vw_C), kcl[c]? = some q → (Cond.instantiable q.1 q.2.2) ∈ kTb → ∃ (cC : ClassId) (iS : Nat → Nat), u_Kn s q.1 q.2.1 q.2.2 cC iS := fun c q hq hi => u_known hk (kfw c q hq).1 (hk _ hi)
  have all : ∀ c : Nat, ∃ (r : ClassId × (Nat → Nat)), ∀ q : vw_C, kcl[c]? = some q → u_Kn s q.1 q.2.1 q.2.2 r.1 r.2 := by
    intro c
    cases h : kcl[c]? with
    | none => exact ⟨(0, fun _ => 0), fun q hq => by cases hq⟩
    | some q =>
      have hi : Cond.instantiable q.1 q.2.2 ∈ kTb := by
        match c, h with
        | 0, h => cases h; exact ki_0
        | 1, h => cases h; exact ki_1
        | 2, h => cases h; exact ki_2
        | 3, h => cases h; exact ki_3
        | 4, h => cases h; exact ki_4
        | 5, h => cases h; exact ki_5
        | 6, h => cases h; exact ki_6
        | c + 7, h => simp [kcl] at h
      obtain ⟨cC, iS, hK⟩ := one c q h hi
      exact ⟨(cC, iS), fun q' hq' => by cases hq'; exact hK⟩
  obtain ⟨f, hf⟩ := Classical.skolem.mp all
  exact ⟨fun c => (f c).1, fun c => (f c).2, fun c q hq => hf c q hq⟩
theorem st_prim {ty : FieldType} (h : (Cond.arrayClass ty).before #[Value.ref b] s = true) (hr : ∀ cA, s.vm.findClass ("[" ++ ty.toString) = some cA → va_RA s cA ty) : ∃ cA, ArrOfT s cA ty ∧ va_RA s cA ty := by
  obtain ⟨c, k, comp, h1, h2, h3⟩ := Cond.arrayClass_spec h
  exact ⟨c, fun n z => ⟨fun k h => (by cases h), k, h2, comp, h3⟩, hr c h1⟩
theorem st_obj {C : String} (h : (Cond.arrayOver (.object C)).before #[Value.ref b] s = true) : ∃ cA, ArrOfT s cA (.object C) ∧ va_RA s cA (.object C) := by
  obtain ⟨comp, c, k, h1, -, h2, h3, h4⟩ := Cond.arrayOver_spec h
  exact ⟨c, fun n z => ⟨fun k h => (by cases h), k, h2, comp, h3⟩, k, comp, h2, h3, h1, h4⟩
theorem st_arr (hts : ∀ w ∈ lw_tbl, w.before #[Value.ref b] s = true) : ∃ aC : Nat → ClassId, ∀ t, t < 7 → ArrOfT s (aC t) (kaT t) ∧ va_RA s (aC t) (kaT t) := by
  have all : ∀ t : Nat, ∃ cA : ClassId, t < 7 → ArrOfT s cA (kaT t) ∧ va_RA s cA (kaT t) := by
    intro t
    by_cases ht : t < 7
    · match t, ht with
      | 0, _ => obtain ⟨c, h⟩ := st_prim (ty := .int) (hts _ (tin 70 (by decide +kernel))) (fun _ h => h); exact ⟨c, fun _ => h⟩
      | 1, _ => obtain ⟨c, h⟩ := st_prim (ty := .boolean) (hts _ (tin 129 (by decide +kernel))) (fun _ h => h); exact ⟨c, fun _ => h⟩
      | 2, _ => obtain ⟨c, h⟩ := st_prim (ty := .char) (hts _ (tin 778 (by decide +kernel))) (fun _ h => h); exact ⟨c, fun _ => h⟩
      | 3, _ => obtain ⟨c, h⟩ := st_prim (ty := .long) (hts _ (tin 1073 (by decide +kernel))) (fun _ h => h); exact ⟨c, fun _ => h⟩
      | 4, _ =>
        obtain ⟨comp, c, k, h1, -, h2, h3, h4⟩ := arrayOverA_spec (t := .int) (hts _ (tin 160 (by decide +kernel)))
        exact ⟨c, fun _ => ⟨fun n z => ⟨fun k h => (by cases h), k, h2, comp, h3⟩, h4⟩⟩
      | 5, _ => obtain ⟨c, h⟩ := st_obj (C := "StringRates$Parcel") (hts _ (tin 32 (by decide +kernel))); exact ⟨c, fun _ => h⟩
      | 6, _ => obtain ⟨c, h⟩ := st_obj (C := "StringRates$Office") (hts _ (tin 112 (by decide +kernel))); exact ⟨c, fun _ => h⟩
    · exact ⟨0, fun h => absurd h ht⟩
  obtain ⟨f, hf⟩ := Classical.skolem.mp all
  exact ⟨f, hf⟩
theorem st_str {k : Nat} {tx : String} (h1 : (Cond.stringRef RX5 k tx).before #[Value.ref b] s = true) (h2 : (Cond.exactly (.string RX5 k) "java/lang/String").before #[Value.ref b] s = true) : ∃ a, vk_R RX5 k tx a s := by
  obtain ⟨a, c, cell, kk, h3, -⟩ := Cond.exactly_spec h2
  exact ⟨a, vk_R.of h1 h3⟩
theorem st_sta {C n d : String} {ty : FieldType} {f : Nat → Int32} (hl : (Cond.laysStatic C n d).before #[Value.ref b] s = true) (hini : (Cond.initialized C).before #[Value.ref b] s = true) (harr : (Cond.arrayOf (.static C n d) ty).before #[Value.ref b] s = true) (hlen : (Cond.eq (.length (.static C n d)) (.int 4)).before #[Value.ref b] s = true)
    (hel : ∀ j : Nat, j < 4 → (Cond.eq (.elem (.static C n d) (.int (Int32.ofNat j))) (.int (f j))).before #[Value.ref b] s = true) : ∃ t, va_Z C n d (.ref t) (fun a => s.heap.size ≤ a) s s.heap ∧ va_T ty t 4 (fun j => .int (f j)) (fun a => s.heap.size ≤ a) s s.heap := by
  have hA : ∀ a : Nat, a < s.heap.size → ¬ (fun a => s.heap.size ≤ a) a := fun a h q => absurd h (Nat.not_lt.mpr q)
  obtain ⟨t, h1, h2⟩ := va_Tof (N := 4) (f := fun j => .int (f j)) (by decide) harr (va_eqt hlen) (fun j hj => va_eqt (hel j hj)) hA
  exact ⟨t, va_Zof hl hini h1 hA, h2⟩
end ST
