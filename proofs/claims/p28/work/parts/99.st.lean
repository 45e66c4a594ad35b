/-! ===== the law from its entry; what the start is given ===== -/
theorem xF0_F : (fun k => defaultValue (tyX k)) = xF0 := rfl
set_option maxRecDepth 100000 in
set_option maxHeartbeats 40000000 in
theorem law_start {X : Nat × (Nat → Int32)} (hX : X.1 ≤ 3072) : kW X mL_law 15 QL 4000 40000 0 (fun _ => kX) 0 [(0, .retAddr 9)] [] := by
  refine kw_new (pc := 0) tyX kfw dL_law_0 (ci := 5) rfl tyX_ok nL_11 ki_5 kj_5 (by decide) (Nat.le_of_ble_eq_true rfl) ?_
  rw [xF0_F]
  refine kw_dup (pc := 3) dL_law_3 rfl ?_
  refine kw_callIi (pc := 4) dL_law_4 lL_133 (c5_init (kup_self _ _ _)) (kup_self _ _ _) rfl rfl ⟨by decide, by decide, Nat.le_of_ble_eq_true rfl, Nat.le_of_ble_eq_true rfl, Nat.le_of_ble_eq_true rfl⟩ (fun w1 hw1 => ?_)
  obtain ⟨C1, -⟩ := hw1
  have G0 : okG 0 iniS 0 := ⟨iniS_ok, fun k hk => absurd hk (Nat.not_lt_zero k), 0, 0, by decide, by decide, Nat.le_refl _, Nat.le_refl _, by decide⟩
  have H1 : K 0 iniS 0 w1 := J.k ⟨C1, G0, fun i hi => absurd hi (Nat.not_lt_zero i)⟩
  refine kw_astore_n (pc := 7) dL_law_7 (by decide) rfl ?_
  refine kW.locs (L' := [(0, _), (1, _)]) ?_ ⟨rfl, rfl, trivial⟩
  refine kw_aload_n (pc := 8) dL_law_8 rfl ?_
  refine kw_callSw1 (pc := 9) dL_law_9 lL_134 H1.hangs rfl rfl ⟨by decide, by decide, Nat.le_of_ble_eq_true rfl⟩ (fun w2 H2 => ?_)
  refine kw_if_eq (tgt := 26) (pc := 12) dL_law_12 (by decide) (fun h12 => ?_) (fun h12 => ?_)
  · exact absurd h12 (by decide)
  · refine kw_aload_n (pc := 15) dL_law_15 rfl ?_
    refine kw_callSw1 (pc := 16) dL_law_16 lL_138 H2.rates rfl rfl ⟨by decide, by decide, Nat.le_of_ble_eq_true rfl⟩ (fun w3 H3 => ?_)
    refine kw_if_eq (tgt := 26) (pc := 19) dL_law_19 (by decide) (fun h19 => ?_) (fun h19 => ?_)
    · exact absurd h19 (by decide)
    · refine kw_iconst (v := 1) (pc := 22) dL_law_22 (by decide) ?_
      refine kw_goto (tgt := 27) (pc := 23) dL_law_23 (by decide) ?_
      refine kw_istore_n (pc := 27) dL_law_27 (by decide) rfl ?_
      refine kW.locs (L' := [(0, _), (1, _), (2, _)]) ?_ ⟨rfl, rfl, rfl, trivial⟩
      refine kw_iconst (v := 0) (pc := 28) dL_law_28 (by decide) ?_
      refine kw_istore_n (pc := 29) dL_law_29 (by decide) rfl ?_
      exact kW.locs (law_loop hX (42 - 0) 0 _ _ _ _ iniS 0 rfl (Nat.zero_le _) H3 (Nat.le_of_ble_eq_true rfl) (Nat.le_of_ble_eq_true rfl)) ⟨rfl, rfl, rfl, rfl, trivial⟩
theorem tin_all {l : List Cond} (ps : List Nat) (h : (ps.map fun i => tables_1[i]?) = l.map some) : ∀ w ∈ l, w ∈ lw_tbl := by
  intro w hw
  obtain ⟨k, hk⟩ := List.getElem?_of_mem hw
  have h1 : (ps.map fun i => tables_1[i]?)[k]? = some (some w) := by rw [h, List.getElem?_map, hk]; rfl
  rw [List.getElem?_map] at h1
  cases hi : ps[k]? with
  | none => rw [hi] at h1; cases h1
  | some i =>
    rw [hi] at h1
    exact List.mem_append_right _ (List.mem_of_getElem? (Option.some.inj h1))
theorem tin {w : Cond} (i : Nat) (h : tables_1[i]? = some w) : w ∈ lw_tbl := List.mem_append_right _ (List.mem_of_getElem? h)
theorem kNest_in : ∀ w ∈ kNest, w ∈ lw_tbl := tin_all [32, 69, 129, 146, 151, 214, 406, 328, 215, 216, 217, 218, 219, 220] (by decide +kernel)
theorem kNest_on : ∀ w ∈ kNest, w.onTables = true := List.all_eq_true.mp kt7
section ST
variable {s : State} {b : Nat}
theorem st_kn (hts : ∀ w ∈ lw_tbl, w.before #[Value.ref b] s = true) : ∃ (dC : Nat → ClassId) (dI : Nat → Nat → Nat), ∀ (c : Nat) (q : vw_C), kcl[c]? = some q → u_Kn s q.1 q.2.1 q.2.2 (dC c) (dI c) := by
  have hk : ∀ w ∈ kTb, w.before #[Value.ref b] s = true := fun w hw => hts w (List.mem_filter.mp hw).1
  have one : ∀ (c : Nat) (q : vw_C), kcl[c]? = some q → (Cond.instantiable q.1 q.2.2) ∈ kTb → ∃ (cC : ClassId) (iS : Nat → Nat), u_Kn s q.1 q.2.1 q.2.2 cC iS := fun c q hq hi => u_known hk (kfw c q hq).1 (hk _ hi)
  have all : ∀ c : Nat, ∃ (r : ClassId × (Nat → Nat)), ∀ q : vw_C, kcl[c]? = some q → u_Kn s q.1 q.2.1 q.2.2 r.1 r.2 := by
    intro c
    cases h : kcl[c]? with
    | none => exact ⟨(0, fun _ => 0), fun q hq => by cases hq⟩
    | some q =>
      have hi : Cond.instantiable q.1 q.2.2 ∈ kTb := by
        match c, h with
        | 0, h => cases h; exact ki_0
        | 1, h => cases h; exact ki_1
        | 2, h => cases h; exact ki_2
        | 3, h => cases h; exact ki_3
        | 4, h => cases h; exact ki_4
        | 5, h => cases h; exact ki_5
        | c + 6, h => simp [kcl] at h
      obtain ⟨cC, iS, hK⟩ := one c q h hi
      exact ⟨(cC, iS), fun q' hq' => by cases hq'; exact hK⟩
  obtain ⟨f, hf⟩ := Classical.skolem.mp all
  exact ⟨fun c => (f c).1, fun c => (f c).2, fun c q hq => hf c q hq⟩
theorem st_prim {ty : FieldType} (h : (Cond.arrayClass ty).before #[Value.ref b] s = true) (hr : ∀ cA, s.vm.findClass ("[" ++ ty.toString) = some cA → va_RA s cA ty) : ∃ cA, ArrOfT s cA ty ∧ va_RA s cA ty := by
  obtain ⟨c, k, comp, h1, h2, h3⟩ := Cond.arrayClass_spec h
  exact ⟨c, fun n z => ⟨fun k h => (by cases h), k, h2, comp, h3⟩, hr c h1⟩
theorem st_obj {C : String} (h : (Cond.arrayOver (.object C)).before #[Value.ref b] s = true) : ∃ cA, ArrOfT s cA (.object C) ∧ va_RA s cA (.object C) := by
  obtain ⟨comp, c, k, h1, -, h2, h3, h4⟩ := Cond.arrayOver_spec h
  exact ⟨c, fun n z => ⟨fun k h => (by cases h), k, h2, comp, h3⟩, k, comp, h2, h3, h1, h4⟩
theorem st_arr (hts : ∀ w ∈ lw_tbl, w.before #[Value.ref b] s = true) : ∃ aC : Nat → ClassId, ∀ t, t < 7 → ArrOfT s (aC t) (kaT t) ∧ va_RA s (aC t) (kaT t) := by
  have all : ∀ t : Nat, ∃ cA : ClassId, t < 7 → ArrOfT s cA (kaT t) ∧ va_RA s cA (kaT t) := by
    intro t
    by_cases ht : t < 7
    · match t, ht with
      | 0, _ => obtain ⟨c, h⟩ := st_prim (ty := .int) (hts _ (tin 68 (by decide +kernel))) (fun _ h => h); exact ⟨c, fun _ => h⟩
      | 1, _ => obtain ⟨c, h⟩ := st_prim (ty := .boolean) (hts _ (tin 126 (by decide +kernel))) (fun _ h => h); exact ⟨c, fun _ => h⟩
      | 2, _ => obtain ⟨c, h⟩ := st_prim (ty := .int) (hts _ (tin 68 (by decide +kernel))) (fun _ h => h); exact ⟨c, fun _ => h⟩
      | 3, _ => obtain ⟨c, h⟩ := st_prim (ty := .int) (hts _ (tin 68 (by decide +kernel))) (fun _ h => h); exact ⟨c, fun _ => h⟩
      | 4, _ =>
        obtain ⟨comp, c, k, h1, -, h2, h3, h4⟩ := arrayOverA_spec (t := .int) (hts _ (tin 153 (by decide +kernel)))
        exact ⟨c, fun _ => ⟨fun n z => ⟨fun k h => (by cases h), k, h2, comp, h3⟩, h4⟩⟩
      | 5, _ => obtain ⟨c, h⟩ := st_obj (C := "StringRates$Parcel") (hts _ (tin 30 (by decide +kernel))); exact ⟨c, fun _ => h⟩
      | 6, _ => obtain ⟨c, h⟩ := st_obj (C := "StringRates$Office") (hts _ (tin 109 (by decide +kernel))); exact ⟨c, fun _ => h⟩
    · exact ⟨0, fun h => absurd h ht⟩
  obtain ⟨f, hf⟩ := Classical.skolem.mp all
  exact ⟨f, hf⟩
theorem st_str {k : Nat} {tx : String} (h1 : (Cond.stringRef RX5 k tx).before #[Value.ref b] s = true) (h2 : (Cond.exactly (.string RX5 k) "java/lang/String").before #[Value.ref b] s = true) : ∃ a, vk_R RX5 k tx a s := by
  obtain ⟨a, c, cell, kk, h3, -⟩ := Cond.exactly_spec h2
  exact ⟨a, vk_R.of h1 h3⟩
theorem st_sta {C n d : String} {ty : FieldType} {f : Nat → Int32} (hl : (Cond.laysStatic C n d).before #[Value.ref b] s = true) (hini : (Cond.initialized C).before #[Value.ref b] s = true) (harr : (Cond.arrayOf (.static C n d) ty).before #[Value.ref b] s = true) (hlen : (Cond.eq (.length (.static C n d)) (.int 4)).before #[Value.ref b] s = true)
    (hel : ∀ j : Nat, j < 4 → (Cond.eq (.elem (.static C n d) (.int (Int32.ofNat j))) (.int (f j))).before #[Value.ref b] s = true) : ∃ t, va_Z C n d (.ref t) (fun a => s.heap.size ≤ a) s s.heap ∧ va_T ty t 4 (fun j => .int (f j)) (fun a => s.heap.size ≤ a) s s.heap := by
  have hA : ∀ a : Nat, a < s.heap.size → ¬ (fun a => s.heap.size ≤ a) a := fun a h q => absurd h (Nat.not_lt.mpr q)
  obtain ⟨t, h1, h2⟩ := va_Tof (N := 4) (f := fun j => .int (f j)) (by decide) harr (va_eqt hlen) (fun j hj => va_eqt (hel j hj)) hA
  exact ⟨t, va_Zof hl hini h1 hA, h2⟩
end ST
