/-! ===== an array of arrays ===== -/
def mulW (w : kM) (n N K : Nat) : kM := fun a => if a = n then kV 4 N (tv N (fun j => .ref (n + 1 + j))) else if n < a ∧ a ≤ n + N then kI 0 K (fun _ => 0) else w a
theorem outer_arr (c : ClassId) (N h0 : Nat) : ∀ i, Jvm.Free.Multi.outerC c N h0 i = arrV c N (fun j => if j < i then .ref (h0 + 1 + j) else .null)
  | 0 => by
    show ({ cls := c, slots := Array.replicate N .null, vm := .none } : Cell) = _
    rw [arrV_new]
    congr 1
  | i + 1 => by
    show (Jvm.Free.Multi.outerC c N h0 i).setSlot i (.ref (h0 + 1 + i)) = _
    rw [outer_arr c N h0 i, arrV_store]
    congr 1
    funext j
    unfold updV
    by_cases h : j = i
    · subst h; simp
    · by_cases h2 : j < i
      · simp [h, h2, Nat.lt_succ_of_lt h2]
      · simp [h, h2, show ¬ j < i + 1 by omega]
section KMU
variable {X : Nat × (Nat → Int32)} {M : kMi} {dd : Nat} {Q : kQ} {rc rs n : Nat} {w : kM} {L : List (Nat × Value)} {st : List Value}
theorem kw_multi {pc idx N K : Nat} {y z : Int32} (d : decode M.2.1 pc = .ok (.multianewarray idx 2, 4)) (h1 : Cond.classLink M.1.cls idx "[[I" ∈ kTb) (h2 : Cond.arrayClass .int ∈ kTb) (hy0 : ¬ y < 0) (hz0 : ¬ z < 0) (hy : y.toNatClampNeg = N) (hz : z.toNatClampNeg = K) (hN : N ≤ 1000) (hK : K ≤ 1000) (hrc : 1 + N ≤ rc) (hrs : N + N * K ≤ rs)
    (kk : kW X M dd Q (rc - (1 + N)) (rs - (N + N * K)) (n + 1 + N) (mulW w n N K) (pc + 4) L (.ref n :: st)) : kW X M dd Q rc rs n w pc L (.int z :: .int y :: st) := by
  intro G b p l e R s m args below meth c H locs cells slots ls Z hO hE hR hS hc hs hl T hT XX
  obtain ⟨hx, hb, hml, hown, hts, hret, hlk, -, hstt, hKK, hSt, hdR, hlR, hbs, htab⟩ := id hO
  subst hT
  subst hy
  subst hz
  have hbn : T.heap.size = b + n := hR.1
  obtain ⟨vm₁, cA, comp, hW, hfA, hfC, -, -, X1, step⟩ := XX.multianewarray2F hx (own := M.1.cls) (index := idx) (ty := .int) hown (hts _ (List.mem_cons_of_mem _ h1)) (va_AOA.use hKK.2.2.2.1.2.2) (hts _ (List.mem_cons_of_mem _ h2))
    (g := F0 m pc ls (.int z :: .int y :: st.map (kcv G b))) rfl (by rw [hb]; exact d) (n := y) (k := z) (rest := st.map (kcv G b)) rfl hy0 hz0 (by omega) (by show z.toNatClampNeg * 4 ≤ _; omega) (by omega) rfl rfl (by omega) (by omega)
  have hA : cA = G.2.1 4 := Option.some.inj (hfA.symm.trans (hKK.2.1 4 (by decide)).2)
  have hC : comp = G.2.1 0 := Option.some.inj (hfC.symm.trans (hKK.2.1 0 (by decide)).2)
  obtain ⟨f1, f2, -, -⟩ := Jvm.Free.Multi.fill_facts (T.setVm vm₁) cA comp y.toNatClampNeg z.toNatClampNeg (defaultValue .int) y.toNatClampNeg
  have fo : ∀ q : Nat, q < T.heap.size → (Jvm.Free.Multi.fill (T.setVm vm₁) cA comp y.toNatClampNeg z.toNatClampNeg (defaultValue .int) y.toNatClampNeg).heap[q]? = T.heap[q]? := fun q hq => Jvm.Free.Multi.fill_old (T.setVm vm₁) cA comp _ _ _ hq _
  have fi : ∀ j, j < y.toNatClampNeg → (Jvm.Free.Multi.fill (T.setVm vm₁) cA comp y.toNatClampNeg z.toNatClampNeg (defaultValue .int) y.toNatClampNeg).heap[T.heap.size + 1 + j]? = some (Jvm.Free.Multi.innerC comp z.toNatClampNeg (defaultValue .int)) := fun j hj => Jvm.Free.Multi.fill_inner (T.setVm vm₁) cA comp _ _ _ _ j hj
  have hR1 : kRp G b (n + 1 + y.toNatClampNeg) (mulW w n y.toNatClampNeg z.toNatClampNeg) (Jvm.Free.Multi.fill (T.setVm vm₁) cA comp y.toNatClampNeg z.toNatClampNeg (defaultValue .int) y.toNatClampNeg).heap := by
    refine ⟨?_, fun k hk => ?_, fun k => ?_⟩
    · rw [f1]
      show T.heap.size + 1 + _ = _
      omega
    · unfold mulW
      rw [if_neg (by omega), if_neg (by omega)]
      exact hR.2.1 k (by omega)
    · unfold mulW
      by_cases e1 : k = n
      · subst e1
        rw [if_pos rfl]
        refine ⟨by show 4 < 7; decide, ?_⟩
        show (Jvm.Free.Multi.fill _ _ _ _ _ _ _).heap[b + k]? = some (arrV (G.2.1 4) _ _)
        rw [← hbn]
        refine f2.trans (congrArg some ?_)
        rw [outer_arr, hA]
        congr 1
        funext j
        unfold tv
        by_cases hj : j < y.toNatClampNeg
        · rw [if_pos hj]
          show _ = kcv G b (if j < y.toNatClampNeg then .ref (k + 1 + j) else .null)
          rw [if_pos hj]
          exact congrArg Value.ref (show T.heap.size + 1 + j = b + (k + 1 + j) by omega)
        · rw [if_neg hj]
          show _ = kcv G b (if j < y.toNatClampNeg then .ref (k + 1 + j) else .null)
          rw [if_neg hj]
          rfl
      · rw [if_neg e1]
        by_cases e2 : n < k ∧ k ≤ n + y.toNatClampNeg
        · rw [if_pos e2]
          refine ⟨by show 0 < 7; decide, ?_⟩
          show (Jvm.Free.Multi.fill _ _ _ _ _ _ _).heap[b + k]? = some (arrV (G.2.1 0) _ _)
          have := fi (k - n - 1) (by omega)
          rw [show T.heap.size + 1 + (k - n - 1) = b + k by omega] at this
          rw [this, ← hC]
          refine congrArg some ?_
          show ({ cls := comp, slots := Array.replicate _ (.int 0), vm := .none } : Cell) = _
          rw [arrV_new]
        · rw [if_neg e2]
          exact (hR.2.2 k).grow fo
  obtain ⟨t, a1, b1⟩ := kk G b p l e R s m args below meth c _ locs (cells + 1 + y.toNatClampNeg) (slots + y.toNatClampNeg + y.toNatClampNeg * z.toNatClampNeg) ls Z hO hE hR1 ⟨Nat.le_trans hS.1 (by rw [f1]; show T.heap.size ≤ T.heap.size + 1 + _; omega), fun q h3 h4 => (fo q (Nat.lt_of_lt_of_le h3 hS.1)).trans (hS.2.1 q h3 h4), hS.2.2⟩ (by omega) (by omega) hl _ rfl X1
  refine ⟨t, step t ?_, b1⟩
  have ee : (.ref T.heap.size :: st.map (kcv G b) : List Value) = (.ref n :: st).map (kcv G b) := by
    show _ = Value.ref (b + n) :: _
    rw [hbn]
  rw [← ee] at a1
  exact a1
end KMU
