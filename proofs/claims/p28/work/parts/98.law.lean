/-! ===== the law's loop ===== -/
abbrev QL : kQ := fun o _ _ => o = .inl (some (.int 1))
theorem cls.count9 {w : kM} {s : Nat → Int32} {q c : Nat} (C : cls w s q z0 z0 0) (N : okN s c) : kCtrR mL_count 12 [.ref 0, .int 9] w (.int (nI q)) := hL_count_T (by decide) C.1 (c5_count C N.2.1 N.1 (j := 9) (by decide))
theorem cls.v {w : kM} {s : Nat → Int32} {q c : Nat} (C : cls w s q z0 z0 0) (N : okN s c) : V0 s c w := ⟨s, q, C, N, fun _ _ => rfl⟩
theorem undo_at {w : kM} {s s' : Nat → Int32} {q : Nat} (C : cls w s' (svN q) z0 z0 0) (h : ∀ i, 75 ≤ i → s' i = svS s q i) (hq : q < 6) : kCtrW mL_undo 12 [.ref 0] w (some (.int (nI q))) (fun w' => cls w' s q z0 z0 0) := by
  obtain ⟨b1, b2, -⟩ := bk (by omega) h
  have e : svN q = q + 1 := if_neg (by omega)
  rw [e] at C b1 b2
  refine hL_undo_T (by decide) C.1 (kCtrW.weak (c5_undo C) (fun w' hw => hw.1.rows (fun i hi => (b1 i hi).symm) (fun i hi j hj => ?_)))
  obtain ⟨i', -, e1, e2⟩ := b2 i (by omega)
  have e3 := e1 hq
  subst e3
  exact (e2 j hj).symm
theorem J.next {m q c q' c' : Nat} {w w' : kM} {s s' : Nat → Int32} {v : Int32} (h : J m w s q c) (hA : actOK m s q c v s' q' c') (C' : cls w' s' q' z0 z0 0) (hm : m < 100000) : K (m + 1) s' c' w' := by
  obtain ⟨C, G, R⟩ := h
  have h6 := C.q6
  rcases hA with ⟨-, rfl, rfl, rfl⟩ | ⟨-, rfl, hs, G'⟩
  · exact J.k ⟨C', G.up (Nat.le_succ m) (by omega), fun i hi => by
      obtain ⟨d, hd⟩ := R i hi
      exact ⟨d, hd.up (Nat.le_succ m) (by omega)⟩⟩
  · refine J.k ⟨C', G', fun i hi => ?_⟩
    have r1 : ∀ j, j < 75 → rw75 s' (i + 1) j = svR (fun i => rw75 s (i + 1)) q s i j := fun j hj => (hs _ (by omega)).trans (svS_row h6 hi hj)
    unfold svR at r1
    unfold svN at hi
    by_cases e6 : q = 6
    · rw [if_pos e6] at hi r1
      by_cases e5 : i < 5
      · rw [if_pos e5] at r1
        obtain ⟨d, hd⟩ := R (i + 1) (by omega)
        exact ⟨d, (hd.cg r1).up (Nat.le_succ m) (by omega)⟩
      · rw [if_neg e5] at r1
        exact ⟨c, (G.cg r1).up (Nat.le_succ m) (by omega)⟩
    · rw [if_neg e6] at hi r1
      by_cases e5 : i < q
      · rw [if_pos e5] at r1
        obtain ⟨d, hd⟩ := R i e5
        exact ⟨d, (hd.cg r1).up (Nat.le_succ m) (by omega)⟩
      · rw [if_neg e5] at r1
        exact ⟨c, (G.cg r1).up (Nat.le_succ m) (by omega)⟩
theorem K.sendsE {m c : Nat} {s0 : Nat → Int32} {w : kM} (h : K m s0 c w) {x b : Int32} {p y : Nat} (hx : x = nI p) (hb : b = nI y) (hp : p < 7) (hy : y < 61) : kCtrG mL_sends 14 3 18 [.ref 0, .int x, .int (b - 30)] w (.int 1) (K m s0 c) := by
  subst hx
  subst hb
  exact h.sends (by omega) (by omega)
theorem K.tiesE {m c : Nat} {s0 : Nat → Int32} {w : kM} (h : K m s0 c w) {x b : Int32} {p o : Nat} (hx : x = nI p) (hb : b = nI o) (hp : p < 7) (hy : o < 7) : kCtrG mL_ties 14 1 6 [.ref 0, .int x, .int b] w (.int 1) (K m s0 c) := by
  subst hx
  subst hb
  exact h.ties (by omega) (by omega)
theorem hL_atE {X : Nat × (Nat → Int32)} {w : kM} (hX : X.1 ≤ 3072) {x : Int32} {k : Nat} (hx : x = nI k) (hk : k < 1000) : ∃ v, kCtrA X mL_at 0 [.retAddr 9, .int x] w v := by
  subst hx
  exact hL_at hX hk
section LW
variable {X : Nat × (Nat → Int32)}
set_option maxRecDepth 100000 in
set_option maxHeartbeats 40000000 in
theorem law_loop (hX : X.1 ≤ 3072) : ∀ (mm k : Nat) (w : kM) (n rc rs : Nat) (s0 : Nat → Int32) (c : Nat), mm = 42 - k → k ≤ 42 → K k s0 c w → 6 * (42 - k) ≤ rc → 36 * (42 - k) ≤ rs → kW X mL_law 15 QL rc rs n w 30 [(0, .retAddr 9), (1, .ref 0), (2, .int 1), (3, .int (nI k))] [] := by
  intro mm
  induction mm using Nat.strongRecOn with
  | _ mm ih =>
    intro k w n rc rs s0 c hm hk HK hrc hrs
    have Lk : k < 2147483648 := by omega
    by_cases hk2 : k < 42
    · obtain ⟨s, q, hJ, -⟩ := HK
      have C := hJ.1
      have G := hJ.2.1
      have N := G.1
      have h6 := C.q6
      have Lq : q < 2147483648 := by omega
      have t278 : ∀ (s' : Nat → Int32) (c' : Nat) (w1 : kM) (n1 rc1 rs1 : Nat) (x y : Int32), K (k + 1) s' c' w1 → 6 * (42 - (k + 1)) + 4 ≤ rc1 → 36 * (42 - (k + 1)) + 24 ≤ rs1 → kW X mL_law 15 QL rc1 rs1 n1 w1 278 [(0, .retAddr 9), (1, .ref 0), (2, .int 1), (3, .int (nI k)), (4, .int x), (5, .int y)] [] := by
        intro s' c' w1 n1 rc1 rs1 x y H1 hc1 hs1
        obtain ⟨p, hp, ep⟩ := lwV_E (y >>> ((3 : Int32) &&& 31)) (x := 7) (n := 7) rfl (by decide) (by decide)
        obtain ⟨yb, hb, eb⟩ := lwV_E (x >>> ((6 : Int32) &&& 31)) (x := 61) (n := 61) rfl (by decide) (by decide)
        obtain ⟨t, ht, et⟩ := lwV_E (x >>> ((5 : Int32) &&& 31)) (x := 7) (n := 7) rfl (by decide) (by decide)
        obtain ⟨o, ho, eo⟩ := lwV_E (y >>> ((6 : Int32) &&& 31)) (x := 7) (n := 7) rfl (by decide) (by decide)
        refine kw_iload_n (pc := 278) dL_law_278 rfl ?_
        refine kw_if_eq (tgt := 361) (pc := 279) dL_law_279 (by decide) (fun h279 => ?_) (fun h279 => ?_)
        · exact absurd h279 (by decide)
        · refine kw_aload_n (pc := 282) dL_law_282 rfl ?_
          refine kw_callSw1 (pc := 283) dL_law_283 lL_134 H1.hangs rfl rfl ⟨by decide, by decide, Nat.le_of_ble_eq_true rfl⟩ (fun w2 H2 => ?_)
          refine kw_if_eq (tgt := 361) (pc := 286) dL_law_286 (by decide) (fun h286 => ?_) (fun h286 => ?_)
          · exact absurd h286 (by decide)
          · refine kw_aload_n (pc := 289) dL_law_289 rfl ?_
            refine kw_iload (pc := 290) dL_law_290 rfl ?_
            refine kw_iconst (v := 3) (pc := 292) dL_law_292 (by decide) ?_
            refine kw_ishr (pc := 293) dL_law_293 ?_
            refine kw_bipush (v := 7) (pc := 294) dL_law_294 (by decide) ?_
            refine kw_callSr (pc := 296) dL_law_296 lL_73 (hL_low (y >>> ((3 : Int32) &&& 31)) 7 (by decide)) rfl rfl ⟨by decide, by decide, Nat.le_of_ble_eq_true rfl⟩ ?_
            refine kw_iload (pc := 299) dL_law_299 rfl ?_
            refine kw_bipush (v := 6) (pc := 301) dL_law_301 (by decide) ?_
            refine kw_ishr (pc := 303) dL_law_303 ?_
            refine kw_bipush (v := 61) (pc := 304) dL_law_304 (by decide) ?_
            refine kw_callSr (pc := 306) dL_law_306 lL_73 (hL_low (x >>> ((6 : Int32) &&& 31)) 61 (by decide)) rfl rfl ⟨by decide, by decide, Nat.le_of_ble_eq_true rfl⟩ ?_
            refine kw_bipush (v := 30) (pc := 309) dL_law_309 (by decide) ?_
            refine kw_isub (pc := 311) dL_law_311 ?_
            refine kw_callSg (pc := 312) dL_law_312 lL_149 (H2.sendsE ep eb hp hb) rfl rfl ⟨by decide, by decide, Nat.le_of_ble_eq_true rfl, by omega, by omega⟩ (fun w3 n3 H3 => ?_)
            refine kw_if_eq (tgt := 361) (pc := 315) dL_law_315 (by decide) (fun h315 => ?_) (fun h315 => ?_)
            · exact absurd h315 (by decide)
            · refine kw_aload_n (pc := 318) dL_law_318 rfl ?_
              refine kw_iload (pc := 319) dL_law_319 rfl ?_
              refine kw_iconst (v := 5) (pc := 321) dL_law_321 (by decide) ?_
              refine kw_ishr (pc := 322) dL_law_322 ?_
              refine kw_bipush (v := 7) (pc := 323) dL_law_323 (by decide) ?_
              refine kw_callSr (pc := 325) dL_law_325 lL_73 (hL_low (x >>> ((5 : Int32) &&& 31)) 7 (by decide)) rfl rfl ⟨by decide, by decide, Nat.le_of_ble_eq_true rfl⟩ ?_
              refine kw_iload (pc := 328) dL_law_328 rfl ?_
              refine kw_bipush (v := 6) (pc := 330) dL_law_330 (by decide) ?_
              refine kw_ishr (pc := 332) dL_law_332 ?_
              refine kw_bipush (v := 7) (pc := 333) dL_law_333 (by decide) ?_
              refine kw_callSr (pc := 335) dL_law_335 lL_73 (hL_low (y >>> ((6 : Int32) &&& 31)) 7 (by decide)) rfl rfl ⟨by decide, by decide, Nat.le_of_ble_eq_true rfl⟩ ?_
              refine kw_callSg (pc := 338) dL_law_338 lL_153 (H3.tiesE et eo ht ho) rfl rfl ⟨by decide, by decide, Nat.le_of_ble_eq_true rfl, by omega, by omega⟩ (fun w4 n4 H4 => ?_)
              refine kw_if_eq (tgt := 361) (pc := 341) dL_law_341 (by decide) (fun h341 => ?_) (fun h341 => ?_)
              · exact absurd h341 (by decide)
              · refine kw_iload_n (pc := 344) dL_law_344 rfl ?_
                refine kw_iconst (v := 5) (pc := 345) dL_law_345 (by decide) ?_
                refine kw_irem (pc := 346) dL_law_346 (by decide) ?_
                refine kw_if_gt (tgt := 357) (pc := 347) dL_law_347 (by decide) (fun h347 => ?_) (fun h347 => ?_)
                · have h347 := (kLtI (a := 0) (b := (k % 5)) (by decide) (by omega) (rfl : (0 : Int32) = nI 0) (kRe (a := k) (b := 5) rfl (rfl : (5 : Int32) = nI 5) (by omega) (by omega) (by omega))).mp h347
                  refine kw_iconst (v := 1) (pc := 357) dL_law_357 (by decide) ?_
                  refine kw_goto (tgt := 362) (pc := 358) dL_law_358 (by decide) ?_
                  refine kw_istore_n (pc := 362) dL_law_362 (by decide) rfl ?_
                  refine kW.locs (L' := [(0, _), (1, _), (2, _), (3, _)]) ?_ ⟨rfl, rfl, rfl, rfl, trivial⟩
                  refine kw_iinc (pc := 363) dL_law_363 (by decide) rfl rfl rfl ?_
                  refine kw_goto (tgt := 30) (pc := 366) dL_law_366 (by decide) ?_
                  exact kW.locs (ih (42 - (k + 1)) (by omega) (k + 1) w4 n4 _ _ _ _ rfl (by omega) H4 (by omega) (by omega)) ⟨rfl, rfl, rfl, kgE rfl (kA (a := k) (b := 1) rfl (rfl : (Int32.ofInt 1) = nI 1)), trivial⟩
                · have h347 := mt (kLtI (a := 0) (b := (k % 5)) (by decide) (by omega) (rfl : (0 : Int32) = nI 0) (kRe (a := k) (b := 5) rfl (rfl : (5 : Int32) = nI 5) (by omega) (by omega) (by omega))).mpr h347
                  refine kw_aload_n (pc := 350) dL_law_350 rfl ?_
                  refine kw_callSw1 (pc := 351) dL_law_351 lL_138 H4.rates rfl rfl ⟨by decide, by decide, Nat.le_of_ble_eq_true rfl⟩ (fun w5 H5 => ?_)
                  refine kw_if_eq (tgt := 361) (pc := 354) dL_law_354 (by decide) (fun h354 => ?_) (fun h354 => ?_)
                  · exact absurd h354 (by decide)
                  · refine kw_iconst (v := 1) (pc := 357) dL_law_357 (by decide) ?_
                    refine kw_goto (tgt := 362) (pc := 358) dL_law_358 (by decide) ?_
                    refine kw_istore_n (pc := 362) dL_law_362 (by decide) rfl ?_
                    refine kW.locs (L' := [(0, _), (1, _), (2, _), (3, _)]) ?_ ⟨rfl, rfl, rfl, rfl, trivial⟩
                    refine kw_iinc (pc := 363) dL_law_363 (by decide) rfl rfl rfl ?_
                    refine kw_goto (tgt := 30) (pc := 366) dL_law_366 (by decide) ?_
                    exact kW.locs (ih (42 - (k + 1)) (by omega) (k + 1) w5 n4 _ _ _ _ rfl (by omega) H5 (by omega) (by omega)) ⟨rfl, rfl, rfl, kgE rfl (kA (a := k) (b := 1) rfl (rfl : (Int32.ofInt 1) = nI 1)), trivial⟩
      have t145 : ∀ (v : Int32) (s' : Nat → Int32) (q' c' mc ms : Nat) (w1 : kM) (n1 rc1 rs1 : Nat) (x y : Int32), actOK k s q c v s' q' c' → cls w1 s' q' z0 z0 0 → mc ≤ 1 → ms ≤ 6 → (3 < k → ∀ w, cls w s q z0 z0 0 → kCtrG mL_act 13 mc ms [.ref 0, .int x, .int y] w (.int v) (fun w' => cls w' s' q' z0 z0 0)) → 6 * (42 - (k + 1)) + 5 ≤ rc1 → 36 * (42 - (k + 1)) + 30 ≤ rs1 → kW X mL_law 15 QL rc1 rs1 n1 w1 145 [(0, .retAddr 9), (1, .ref 0), (3, .int (nI k)), (4, .int x), (5, .int y), (6, .int (nI q)), (7, .long (PR s c)), (9, .int v)] [] := by
        intro v s' q' c' mc ms w1 n1 rc1 rs1 x y hA0 C1 hmc hms hF hc1 hs1
        rcases id hA0 with ⟨hv, f1, f2, f3⟩ | ⟨hv, rfl, hs, hA⟩
        · have g1 := f1.symm
          have g2 := f2.symm
          have g3 := f3.symm
          subst g1 g2 g3
          refine kw_iload (pc := 145) dL_law_145 rfl ?_
          refine kw_ldc (pc := 147) dL_law_147 gLc_148 ?_
          refine kw_icmp_gt (tgt := 182) (pc := 149) dL_law_149 (by decide) (fun h149 => ?_) (fun h149 => ?_)
          · exact absurd hv (Int32.not_le.mpr h149)
          · refine kw_aload_n (pc := 152) dL_law_152 rfl ?_
            refine kw_bipush (v := 9) (pc := 153) dL_law_153 (by decide) ?_
            refine kw_callSr (pc := 155) dL_law_155 lL_98 (C1.count9 N) rfl rfl ⟨by decide, by decide, Nat.le_of_ble_eq_true rfl⟩ ?_
            refine kw_iload (pc := 158) dL_law_158 rfl ?_
            refine kw_icmp_ne (tgt := 177) (pc := 160) dL_law_160 (by decide) (fun h160 => ?_) (fun h160 => ?_)
            · have h160 := mt (kEqI (a := q) (b := q) Lq Lq rfl rfl).mpr h160
              exfalso; omega
            · have h160 := (kEqI (a := q) (b := q) Lq Lq rfl rfl).mp h160
              refine kw_aload_n (pc := 163) dL_law_163 rfl ?_
              refine kw_callSr (pc := 164) dL_law_164 lL_127 (C1.v N).print rfl rfl ⟨by decide, by decide, Nat.le_of_ble_eq_true rfl⟩ ?_
              refine kw_lload (pc := 167) dL_law_167 rfl ?_
              refine kw_lcmp (pc := 169) dL_law_169 ?_
              refine kw_if_ne (tgt := 177) (pc := 170) dL_law_170 (by decide) (fun h170 => ?_) (fun h170 => ?_)
              · exact absurd lgc0 h170
              · refine kw_iconst (v := 1) (pc := 173) dL_law_173 (by decide) ?_
                refine kw_goto (tgt := 178) (pc := 174) dL_law_174 (by decide) ?_
                refine kw_istore_n (pc := 178) dL_law_178 (by decide) rfl ?_
                refine kW.locs (L' := [(0, _), (1, _), (2, _), (3, _), (4, _), (5, _)]) ?_ ⟨rfl, rfl, rfl, rfl, rfl, rfl, trivial⟩
                refine kw_goto (tgt := 278) (pc := 179) dL_law_179 (by decide) ?_
                exact kW.locs (t278 _ _ w1 n1 _ _ x y (hJ.next hA0 C1 (by omega)) (by omega) (by omega)) ⟨rfl, rfl, rfl, rfl, rfl, rfl, trivial⟩
        · have hsv : (q = 6 → svN q = 6) ∧ (¬ q = 6 → svN q = q + 1) := ⟨fun z => if_pos z, fun z => if_neg z⟩
          refine kw_iload (pc := 145) dL_law_145 rfl ?_
          refine kw_ldc (pc := 147) dL_law_147 gLc_148 ?_
          refine kw_icmp_gt (tgt := 182) (pc := 149) dL_law_149 (by decide) (fun h149 => ?_) (fun h149 => ?_)
          · refine kw_aload_n (pc := 182) dL_law_182 rfl ?_
            refine kw_bipush (v := 9) (pc := 183) dL_law_183 (by decide) ?_
            refine kw_callSr (pc := 185) dL_law_185 lL_98 (C1.count9 hA.1) rfl rfl ⟨by decide, by decide, Nat.le_of_ble_eq_true rfl⟩ ?_
            refine kw_iload (pc := 188) dL_law_188 rfl ?_
            refine kw_bipush (v := 6) (pc := 190) dL_law_190 (by decide) ?_
            refine kw_icmp_ge (tgt := 202) (pc := 192) dL_law_192 (by decide) (fun h192 => ?_) (fun h192 => ?_)
            · have h192 := (kLeI (a := 6) (b := q) (by decide) Lq (rfl : (6 : Int32) = nI 6) rfl).mp h192
              refine kw_bipush (v := 6) (pc := 202) dL_law_202 (by decide) ?_
              refine kw_icmp_ne (tgt := 211) (pc := 204) dL_law_204 (by decide) (fun h204 => ?_) (fun h204 => ?_)
              · have h204 := mt (kEqI (a := (svN q)) (b := 6) (by omega) (by decide) rfl (rfl : (6 : Int32) = nI 6)).mpr h204
                exfalso; omega
              · have h204 := (kEqI (a := (svN q)) (b := 6) (by omega) (by decide) rfl (rfl : (6 : Int32) = nI 6)).mp h204
                refine kw_iconst (v := 1) (pc := 207) dL_law_207 (by decide) ?_
                refine kw_goto (tgt := 212) (pc := 208) dL_law_208 (by decide) ?_
                refine kw_istore_n (pc := 212) dL_law_212 (by decide) rfl ?_
                refine kW.locs (L' := [(0, _), (1, _), (2, _), (3, _), (4, _), (5, _), (6, _), (7, _), (9, _)]) ?_ ⟨rfl, rfl, rfl, rfl, rfl, rfl, rfl, rfl, rfl, trivial⟩
                refine kw_iload_n (pc := 213) dL_law_213 rfl ?_
                refine kw_if_eq (tgt := 278) (pc := 214) dL_law_214 (by decide) (fun h214 => ?_) (fun h214 => ?_)
                · exact absurd h214 (by decide)
                · refine kw_iload_n (pc := 217) dL_law_217 rfl ?_
                  refine kw_iconst (v := 3) (pc := 218) dL_law_218 (by decide) ?_
                  refine kw_icmp_le (tgt := 278) (pc := 219) dL_law_219 (by decide) (fun h219 => ?_) (fun h219 => ?_)
                  · have h219 := (kLeI (a := k) (b := 3) Lk (by decide) rfl (rfl : (3 : Int32) = nI 3)).mp h219
                    exact kW.locs (t278 _ _ w1 n1 _ _ x y (hJ.next hA0 C1 (by omega)) (by omega) (by omega)) ⟨rfl, rfl, rfl, rfl, rfl, rfl, trivial⟩
                  · have h219 := mt (kLeI (a := k) (b := 3) Lk (by decide) rfl (rfl : (3 : Int32) = nI 3)).mpr h219
                    refine kw_iload (pc := 222) dL_law_222 rfl ?_
                    refine kw_bipush (v := 6) (pc := 224) dL_law_224 (by decide) ?_
                    refine kw_icmp_ge (tgt := 278) (pc := 226) dL_law_226 (by decide) (fun h226 => ?_) (fun h226 => ?_)
                    · have h226 := (kLeI (a := 6) (b := q) (by decide) Lq (rfl : (6 : Int32) = nI 6) rfl).mp h226
                      exact kW.locs (t278 _ _ w1 n1 _ _ x y (hJ.next hA0 C1 (by omega)) (by omega) (by omega)) ⟨rfl, rfl, rfl, rfl, rfl, rfl, trivial⟩
                    · have h226 := mt (kLeI (a := 6) (b := q) (by decide) Lq (rfl : (6 : Int32) = nI 6) rfl).mpr h226
                      refine kw_iload (pc := 229) dL_law_229 rfl ?_
                      refine kw_iconst (v := 5) (pc := 231) dL_law_231 (by decide) ?_
                      refine kw_ishr (pc := 232) dL_law_232 ?_
                      refine kw_iconst (v := 3) (pc := 233) dL_law_233 (by decide) ?_
                      refine kw_callSr (pc := 234) dL_law_234 lL_73 (hL_low (y >>> ((5 : Int32) &&& 31)) 3 (by decide)) rfl rfl ⟨by decide, by decide, Nat.le_of_ble_eq_true rfl⟩ ?_
                      refine kw_if_ne (tgt := 278) (pc := 237) dL_law_237 (by decide) (fun h237 => ?_) (fun h237 => ?_)
                      · exact kW.locs (t278 _ _ w1 n1 _ _ x y (hJ.next hA0 C1 (by omega)) (by omega) (by omega)) ⟨rfl, rfl, rfl, rfl, rfl, rfl, trivial⟩
                      · refine kw_aload_n (pc := 240) dL_law_240 rfl ?_
                        refine kw_callSw1 (pc := 241) dL_law_241 lL_121 (undo_at C1 hs (by omega)) rfl rfl ⟨by decide, by decide, Nat.le_of_ble_eq_true rfl⟩ (fun w2 C2 => ?_)
                        refine kw_iload (pc := 244) dL_law_244 rfl ?_
                        refine kw_icmp_ne (tgt := 276) (pc := 246) dL_law_246 (by decide) (fun h246 => ?_) (fun h246 => ?_)
                        · have h246 := mt (kEqI (a := q) (b := q) Lq Lq rfl rfl).mpr h246
                          exfalso; omega
                        · have h246 := (kEqI (a := q) (b := q) Lq Lq rfl rfl).mp h246
                          refine kw_aload_n (pc := 249) dL_law_249 rfl ?_
                          refine kw_callSr (pc := 250) dL_law_250 lL_127 (C2.v N).print rfl rfl ⟨by decide, by decide, Nat.le_of_ble_eq_true rfl⟩ ?_
                          refine kw_lload (pc := 253) dL_law_253 rfl ?_
                          refine kw_lcmp (pc := 255) dL_law_255 ?_
                          refine kw_if_ne (tgt := 276) (pc := 256) dL_law_256 (by decide) (fun h256 => ?_) (fun h256 => ?_)
                          · exact absurd lgc0 h256
                          · refine kw_aload_n (pc := 259) dL_law_259 rfl ?_
                            refine kw_iload (pc := 260) dL_law_260 rfl ?_
                            refine kw_iload (pc := 262) dL_law_262 rfl ?_
                            refine kw_callSg (pc := 264) dL_law_264 lL_145 (hF (by omega) w2 C2) rfl rfl ⟨by decide, by decide, Nat.le_of_ble_eq_true rfl, by omega, by omega⟩ (fun w3 n3 C3 => ?_)
                            refine kw_iload (pc := 267) dL_law_267 rfl ?_
                            refine kw_icmp_ne (tgt := 276) (pc := 269) dL_law_269 (by decide) (fun h269 => ?_) (fun h269 => ?_)
                            · exact (h269 rfl).elim
                            · refine kw_iconst (v := 1) (pc := 272) dL_law_272 (by decide) ?_
                              refine kw_goto (tgt := 277) (pc := 273) dL_law_273 (by decide) ?_
                              refine kw_istore_n (pc := 277) dL_law_277 (by decide) rfl ?_
                              exact kW.locs (t278 _ _ w3 n3 _ _ x y (hJ.next hA0 C3 (by omega)) (by omega) (by omega)) ⟨rfl, rfl, rfl, rfl, rfl, rfl, trivial⟩
            · have h192 := mt (kLeI (a := 6) (b := q) (by decide) Lq (rfl : (6 : Int32) = nI 6) rfl).mpr h192
              refine kw_iload (pc := 195) dL_law_195 rfl ?_
              refine kw_iconst (v := 1) (pc := 197) dL_law_197 (by decide) ?_
              refine kw_iadd (pc := 198) dL_law_198 ?_
              refine kw_goto (tgt := 204) (pc := 199) dL_law_199 (by decide) ?_
              refine kw_icmp_ne (tgt := 211) (pc := 204) dL_law_204 (by decide) (fun h204 => ?_) (fun h204 => ?_)
              · have h204 := mt (kEqI (a := (svN q)) (b := (q + 1)) (by omega) (by omega) rfl (kA (a := q) (b := 1) rfl (rfl : (1 : Int32) = nI 1))).mpr h204
                exfalso; omega
              · have h204 := (kEqI (a := (svN q)) (b := (q + 1)) (by omega) (by omega) rfl (kA (a := q) (b := 1) rfl (rfl : (1 : Int32) = nI 1))).mp h204
                refine kw_iconst (v := 1) (pc := 207) dL_law_207 (by decide) ?_
                refine kw_goto (tgt := 212) (pc := 208) dL_law_208 (by decide) ?_
                refine kw_istore_n (pc := 212) dL_law_212 (by decide) rfl ?_
                refine kW.locs (L' := [(0, _), (1, _), (2, _), (3, _), (4, _), (5, _), (6, _), (7, _), (9, _)]) ?_ ⟨rfl, rfl, rfl, rfl, rfl, rfl, rfl, rfl, rfl, trivial⟩
                refine kw_iload_n (pc := 213) dL_law_213 rfl ?_
                refine kw_if_eq (tgt := 278) (pc := 214) dL_law_214 (by decide) (fun h214 => ?_) (fun h214 => ?_)
                · exact absurd h214 (by decide)
                · refine kw_iload_n (pc := 217) dL_law_217 rfl ?_
                  refine kw_iconst (v := 3) (pc := 218) dL_law_218 (by decide) ?_
                  refine kw_icmp_le (tgt := 278) (pc := 219) dL_law_219 (by decide) (fun h219 => ?_) (fun h219 => ?_)
                  · have h219 := (kLeI (a := k) (b := 3) Lk (by decide) rfl (rfl : (3 : Int32) = nI 3)).mp h219
                    exact kW.locs (t278 _ _ w1 n1 _ _ x y (hJ.next hA0 C1 (by omega)) (by omega) (by omega)) ⟨rfl, rfl, rfl, rfl, rfl, rfl, trivial⟩
                  · have h219 := mt (kLeI (a := k) (b := 3) Lk (by decide) rfl (rfl : (3 : Int32) = nI 3)).mpr h219
                    refine kw_iload (pc := 222) dL_law_222 rfl ?_
                    refine kw_bipush (v := 6) (pc := 224) dL_law_224 (by decide) ?_
                    refine kw_icmp_ge (tgt := 278) (pc := 226) dL_law_226 (by decide) (fun h226 => ?_) (fun h226 => ?_)
                    · have h226 := (kLeI (a := 6) (b := q) (by decide) Lq (rfl : (6 : Int32) = nI 6) rfl).mp h226
                      exact kW.locs (t278 _ _ w1 n1 _ _ x y (hJ.next hA0 C1 (by omega)) (by omega) (by omega)) ⟨rfl, rfl, rfl, rfl, rfl, rfl, trivial⟩
                    · have h226 := mt (kLeI (a := 6) (b := q) (by decide) Lq (rfl : (6 : Int32) = nI 6) rfl).mpr h226
                      refine kw_iload (pc := 229) dL_law_229 rfl ?_
                      refine kw_iconst (v := 5) (pc := 231) dL_law_231 (by decide) ?_
                      refine kw_ishr (pc := 232) dL_law_232 ?_
                      refine kw_iconst (v := 3) (pc := 233) dL_law_233 (by decide) ?_
                      refine kw_callSr (pc := 234) dL_law_234 lL_73 (hL_low (y >>> ((5 : Int32) &&& 31)) 3 (by decide)) rfl rfl ⟨by decide, by decide, Nat.le_of_ble_eq_true rfl⟩ ?_
                      refine kw_if_ne (tgt := 278) (pc := 237) dL_law_237 (by decide) (fun h237 => ?_) (fun h237 => ?_)
                      · exact kW.locs (t278 _ _ w1 n1 _ _ x y (hJ.next hA0 C1 (by omega)) (by omega) (by omega)) ⟨rfl, rfl, rfl, rfl, rfl, rfl, trivial⟩
                      · refine kw_aload_n (pc := 240) dL_law_240 rfl ?_
                        refine kw_callSw1 (pc := 241) dL_law_241 lL_121 (undo_at C1 hs (by omega)) rfl rfl ⟨by decide, by decide, Nat.le_of_ble_eq_true rfl⟩ (fun w2 C2 => ?_)
                        refine kw_iload (pc := 244) dL_law_244 rfl ?_
                        refine kw_icmp_ne (tgt := 276) (pc := 246) dL_law_246 (by decide) (fun h246 => ?_) (fun h246 => ?_)
                        · have h246 := mt (kEqI (a := q) (b := q) Lq Lq rfl rfl).mpr h246
                          exfalso; omega
                        · have h246 := (kEqI (a := q) (b := q) Lq Lq rfl rfl).mp h246
                          refine kw_aload_n (pc := 249) dL_law_249 rfl ?_
                          refine kw_callSr (pc := 250) dL_law_250 lL_127 (C2.v N).print rfl rfl ⟨by decide, by decide, Nat.le_of_ble_eq_true rfl⟩ ?_
                          refine kw_lload (pc := 253) dL_law_253 rfl ?_
                          refine kw_lcmp (pc := 255) dL_law_255 ?_
                          refine kw_if_ne (tgt := 276) (pc := 256) dL_law_256 (by decide) (fun h256 => ?_) (fun h256 => ?_)
                          · exact absurd lgc0 h256
                          · refine kw_aload_n (pc := 259) dL_law_259 rfl ?_
                            refine kw_iload (pc := 260) dL_law_260 rfl ?_
                            refine kw_iload (pc := 262) dL_law_262 rfl ?_
                            refine kw_callSg (pc := 264) dL_law_264 lL_145 (hF (by omega) w2 C2) rfl rfl ⟨by decide, by decide, Nat.le_of_ble_eq_true rfl, by omega, by omega⟩ (fun w3 n3 C3 => ?_)
                            refine kw_iload (pc := 267) dL_law_267 rfl ?_
                            refine kw_icmp_ne (tgt := 276) (pc := 269) dL_law_269 (by decide) (fun h269 => ?_) (fun h269 => ?_)
                            · exact (h269 rfl).elim
                            · refine kw_iconst (v := 1) (pc := 272) dL_law_272 (by decide) ?_
                              refine kw_goto (tgt := 277) (pc := 273) dL_law_273 (by decide) ?_
                              refine kw_istore_n (pc := 277) dL_law_277 (by decide) rfl ?_
                              exact kW.locs (t278 _ _ w3 n3 _ _ x y (hJ.next hA0 C3 (by omega)) (by omega) (by omega)) ⟨rfl, rfl, rfl, rfl, rfl, rfl, trivial⟩
          · exact absurd (Int32.not_lt.mp h149) hv
      refine kw_iload_n (pc := 30) dL_law_30 rfl ?_
      refine kw_bipush (v := 42) (pc := 31) dL_law_31 (by decide) ?_
      refine kw_icmp_ge (tgt := 369) (pc := 33) dL_law_33 (by decide) (fun h33 => ?_) (fun h33 => ?_)
      · have h33 := (kLeI (a := 42) (b := k) (by decide) Lk (rfl : (42 : Int32) = nI 42) rfl).mp h33
        exfalso; omega
      · have h33 := mt (kLeI (a := 42) (b := k) (by decide) Lk (rfl : (42 : Int32) = nI 42) rfl).mpr h33
        refine kw_iload_n (pc := 36) dL_law_36 rfl ?_
        refine kw_if_eq (tgt := 369) (pc := 37) dL_law_37 (by decide) (fun h37 => ?_) (fun h37 => ?_)
        · exact absurd h37 (by decide)
        · refine kw_aload_nS (pc := 40) dL_law_40 rfl ?_
          refine kw_iconst (v := 2) (pc := 41) dL_law_41 (by decide) ?_
          refine kw_iload_n (pc := 42) dL_law_42 rfl ?_
          refine kw_imul (pc := 43) dL_law_43 ?_
          obtain ⟨x, hx⟩ := hL_atE (X := X) (w := w) hX (kMu (a := 2) (b := k) (rfl : (2 : Int32) = nI 2) rfl) (by omega)
          refine kw_callA rfl rfl (pc := 44) dL_law_44 lL_141 hx rfl rfl ⟨by decide, by decide, Nat.le_of_ble_eq_true rfl⟩ ?_
          refine kw_istore (pc := 47) dL_law_47 (by decide) rfl ?_
          refine kW.locs (L' := [(0, _), (1, _), (3, _), (4, _)]) ?_ ⟨rfl, rfl, rfl, rfl, trivial⟩
          refine kw_aload_nS (pc := 49) dL_law_49 rfl ?_
          refine kw_iconst (v := 2) (pc := 50) dL_law_50 (by decide) ?_
          refine kw_iload_n (pc := 51) dL_law_51 rfl ?_
          refine kw_imul (pc := 52) dL_law_52 ?_
          refine kw_iconst (v := 1) (pc := 53) dL_law_53 (by decide) ?_
          refine kw_iadd (pc := 54) dL_law_54 ?_
          obtain ⟨y, hy⟩ := hL_atE (X := X) (w := w) hX (kA (a := (2 * k)) (b := 1) (kMu (a := 2) (b := k) (rfl : (2 : Int32) = nI 2) rfl) (rfl : (1 : Int32) = nI 1)) (by omega)
          refine kw_callA rfl rfl (pc := 55) dL_law_55 lL_141 hy rfl rfl ⟨by decide, by decide, Nat.le_of_ble_eq_true rfl⟩ ?_
          refine kw_istore (pc := 58) dL_law_58 (by decide) rfl ?_
          refine kW.locs (L' := [(0, _), (1, _), (3, _), (4, _), (5, _)]) ?_ ⟨rfl, rfl, rfl, rfl, rfl, trivial⟩
          refine kw_aload_n (pc := 60) dL_law_60 rfl ?_
          refine kw_bipush (v := 9) (pc := 61) dL_law_61 (by decide) ?_
          refine kw_callSr (pc := 63) dL_law_63 lL_98 (C.count9 N) rfl rfl ⟨by decide, by decide, Nat.le_of_ble_eq_true rfl⟩ ?_
          refine kw_istore (pc := 66) dL_law_66 (by decide) rfl ?_
          refine kW.locs (L' := [(0, _), (1, _), (3, _), (4, _), (5, _), (6, _)]) ?_ ⟨rfl, rfl, rfl, rfl, rfl, rfl, trivial⟩
          refine kw_aload_n (pc := 68) dL_law_68 rfl ?_
          refine kw_callSr (pc := 69) dL_law_69 lL_127 (C.v N).print rfl rfl ⟨by decide, by decide, Nat.le_of_ble_eq_true rfl⟩ ?_
          refine kw_lstore (pc := 72) dL_law_72 (by decide) rfl ?_
          refine kW.locs (L' := [(0, _), (1, _), (3, _), (4, _), (5, _), (6, _), (7, _)]) ?_ ⟨rfl, rfl, rfl, rfl, rfl, rfl, rfl, trivial⟩
          refine kw_iload_n (pc := 74) dL_law_74 rfl ?_
          refine kw_iconst (v := 4) (pc := 75) dL_law_75 (by decide) ?_
          refine kw_icmp_ge (tgt := 135) (pc := 76) dL_law_76 (by decide) (fun h76 => ?_) (fun h76 => ?_)
          · have h76 := (kLeI (a := 4) (b := k) (by decide) Lk (rfl : (4 : Int32) = nI 4) rfl).mp h76
            refine kw_aload_n (pc := 135) dL_law_135 rfl ?_
            refine kw_iload (pc := 136) dL_law_136 rfl ?_
            refine kw_iload (pc := 138) dL_law_138 rfl ?_
            obtain ⟨v, s', q', c', mc, ms, hA, h1, h2, F⟩ := act_ok (q := q) G (by omega) x y
            refine kw_callSg (pc := 140) dL_law_140 lL_145 (F w C) rfl rfl ⟨by decide, by decide, Nat.le_of_ble_eq_true rfl, by omega, by omega⟩ (fun w1 n1 C1 => ?_)
            refine kw_istore (pc := 143) dL_law_143 (by decide) rfl ?_
            exact kW.locs (t145 v s' q' c' mc ms w1 n1 _ _ x y hA C1 h1 h2 (fun _ => F) (by omega) (by omega)) ⟨rfl, rfl, rfl, rfl, rfl, rfl, rfl, rfl, trivial⟩
          · have h76 := mt (kLeI (a := 4) (b := k) (by decide) Lk (rfl : (4 : Int32) = nI 4) rfl).mpr h76
            refine kw_aload_n (pc := 79) dL_law_79 rfl ?_
            refine kw_iconst (v := 1) (pc := 80) dL_law_80 (by decide) ?_
            refine kw_iload (pc := 81) dL_law_81 rfl ?_
            refine kw_bipush (v := 30) (pc := 83) dL_law_83 (by decide) ?_
            refine kw_callSr (pc := 85) dL_law_85 lL_73 (hL_low x 30 (by decide)) rfl rfl ⟨by decide, by decide, Nat.le_of_ble_eq_true rfl⟩ ?_
            refine kw_iadd (pc := 88) dL_law_88 ?_
            refine kw_iconst (v := 1) (pc := 89) dL_law_89 (by decide) ?_
            refine kw_iload (pc := 90) dL_law_90 rfl ?_
            refine kw_iconst (v := 5) (pc := 92) dL_law_92 (by decide) ?_
            refine kw_ishr (pc := 93) dL_law_93 ?_
            refine kw_bipush (v := 30) (pc := 94) dL_law_94 (by decide) ?_
            refine kw_callSr (pc := 96) dL_law_96 lL_73 (hL_low (x >>> ((5 : Int32) &&& 31)) 30 (by decide)) rfl rfl ⟨by decide, by decide, Nat.le_of_ble_eq_true rfl⟩ ?_
            refine kw_iadd (pc := 99) dL_law_99 ?_
            refine kw_iconst (v := 1) (pc := 100) dL_law_100 (by decide) ?_
            refine kw_iload (pc := 101) dL_law_101 rfl ?_
            refine kw_bipush (v := 10) (pc := 103) dL_law_103 (by decide) ?_
            refine kw_ishr (pc := 105) dL_law_105 ?_
            refine kw_bipush (v := 30) (pc := 106) dL_law_106 (by decide) ?_
            refine kw_callSr (pc := 108) dL_law_108 lL_73 (hL_low (x >>> ((10 : Int32) &&& 31)) 30 (by decide)) rfl rfl ⟨by decide, by decide, Nat.le_of_ble_eq_true rfl⟩ ?_
            refine kw_iadd (pc := 111) dL_law_111 ?_
            refine kw_iconst (v := 1) (pc := 112) dL_law_112 (by decide) ?_
            refine kw_iload (pc := 113) dL_law_113 rfl ?_
            refine kw_bipush (v := 30) (pc := 115) dL_law_115 (by decide) ?_
            refine kw_callSr (pc := 117) dL_law_117 lL_73 (hL_low y 30 (by decide)) rfl rfl ⟨by decide, by decide, Nat.le_of_ble_eq_true rfl⟩ ?_
            refine kw_iadd (pc := 120) dL_law_120 ?_
            refine kw_iload (pc := 121) dL_law_121 rfl ?_
            refine kw_iconst (v := 5) (pc := 123) dL_law_123 (by decide) ?_
            refine kw_ishr (pc := 124) dL_law_124 ?_
            refine kw_iconst (v := 2) (pc := 125) dL_law_125 (by decide) ?_
            refine kw_callSr (pc := 126) dL_law_126 lL_73 (hL_low (y >>> ((5 : Int32) &&& 31)) 2 (by decide)) rfl rfl ⟨by decide, by decide, Nat.le_of_ble_eq_true rfl⟩ ?_
            obtain ⟨v, s', q', c', mc, ms, hA, h1, h2, F⟩ := og_bring (q := q) G (by omega) (1 + lwV x 30) (1 + lwV (x >>> ((5 : Int32) &&& 31)) 30) (1 + lwV (x >>> ((10 : Int32) &&& 31)) 30) (1 + lwV y 30) (lwV (y >>> ((5 : Int32) &&& 31)) 2)
            refine kw_callSg (pc := 129) dL_law_129 lL_78 (F w C) rfl rfl ⟨by decide, by decide, Nat.le_of_ble_eq_true rfl, by omega, by omega⟩ (fun w1 n1 C1 => ?_)
            refine kw_goto (tgt := 143) (pc := 132) dL_law_132 (by decide) ?_
            refine kw_istore (pc := 143) dL_law_143 (by decide) rfl ?_
            exact kW.locs (t145 v s' q' c' mc ms w1 n1 _ _ x y hA C1 h1 h2 (fun z => absurd z (by omega)) (by omega) (by omega)) ⟨rfl, rfl, rfl, rfl, rfl, rfl, rfl, rfl, trivial⟩
    · obtain rfl : k = 42 := by omega
      refine kw_iload_n (pc := 30) dL_law_30 rfl ?_
      refine kw_bipush (v := 42) (pc := 31) dL_law_31 (by decide) ?_
      refine kw_icmp_ge (tgt := 369) (pc := 33) dL_law_33 (by decide) (fun h33 => ?_) (fun h33 => ?_)
      · have h33 := (kLeI (a := 42) (b := 42) (by decide) (by decide) (rfl : (42 : Int32) = nI 42) rfl).mp h33
        refine kw_iload_n (pc := 369) dL_law_369 rfl ?_
        exact kw_lawReturn rfl dL_law_370 rfl
      · have h33 := mt (kLeI (a := 42) (b := 42) (by decide) (by decide) (rfl : (42 : Int32) = nI 42) rfl).mpr h33
        exfalso; omega
end LW
