theorem wyF_eq {s P : Nat → Int32} : (wyR s P 3).1 = wyF s P := by
  unfold wyF
  rfl
theorem wyR_0 {s P : Nat → Int32} : (wyR s P 0).1 = -1 := rfl
theorem leN_0 {s P : Nat → Int32} : leN s P 0 = -1 := by
  unfold leN
  exact if_pos wyR_0
section TY
variable {m c : Nat} {s0 : Nat → Int32} {w : kM}
set_option maxRecDepth 100000 in
set_option maxHeartbeats 40000000 in
theorem K.tiesP (h : K m s0 c w) {p o : Nat} (hp : p < c) (ho : o < c) (hne : p ≠ o) : kCtrG mL_ties 14 1 6 [.ref 0, .int (nI p), .int (nI o)] w (.int 1) (K m s0 c) := by
  refine kCtrG.of plLw nlL_ties rfl (Nat.le_of_ble_eq_true rfl) (fun n => ?_)
  have N0 := h.ok.1
  have h7 := N0.1
  have Lc : c < 2147483648 := by omega
  have Lp : p < 2147483648 := by omega
  have Lo : o < 2147483648 := by omega
  obtain ⟨a, b, d, wt, z, co, vv, x0, x1, x2, gi, Z, R, W, B, r, ⟨-, -, -, hwt, -, -, hv⟩, -, ⟨-, -, -, -, -, hwt2, -, -, hv2, -⟩, -⟩ := pview h.ok hp
  obtain ⟨a', b', d', wt', z', co', vv', x0', x1', x2', gi', Z', R', W', B', r', ⟨-, -, -, hwt', -⟩, -, ⟨-, -, -, -, -, hwt2', -⟩, -⟩ := pview h.ok ho
  have Lvv : vv < 2147483648 := by omega
  have t237 : ∀ w4 : kM, K m s0 c w4 → kW (0, fun _ => 0) mL_ties 14 (fun o' w' _ => o' = .inl (some (.int 1)) ∧ (K m s0 c) w') 1 6 n w4 237 [(0, .ref 0), (1, .int (nI p)), (2, .int (nI o)), (3, .int (nI c)), (4, .long (PR s0 c)), (9, .int 1), (10, .int (bdS s0 p o))] [] := by
    intro w4 H4
    by_cases hOK : bOK s0 (pa s0 (21 + 7 * p)) (pa s0 (21 + 7 * o))
    · obtain ⟨hb4, hbR1, hbR2, hbw, -⟩ := id hOK
      have hbw2 : wt + wt' ≤ 99 := by
        rw [hwt, hwt', nI_add] at hbw
        exact (kLeI (a := wt + wt') (b := 99) (by omega) (by decide) rfl rfl).mp hbw
      have Lw1 : wt < 2147483648 := by omega
      have Lw2 : wt' < 2147483648 := by omega
      obtain ⟨bb, hbb, hB⟩ : ∃ bb, bb ≤ 2000 ∧ bdS s0 p o = nI bb := by
        rcases N0.bd hp ho with q | ⟨bb, q1, q2⟩
        · exfalso
          unfold bdS bdF at q
          rw [if_pos hOK] at q
          obtain ⟨A, a1, a2⟩ : ∃ A, A ≤ 2000 ∧ pP s0 (bnP _ _) = nI A := natP.pw N0 ((N0.2.2.2.2.2 p hp).bundle (N0.2.2.2.2.2 o ho)) (((N0.2.2.2.2.2 p hp).bundle (N0.2.2.2.2.2 o ho)).fine (by decide) N0.2.2.1.1).2 |>.imp (fun A q => ⟨q.1, q.2⟩)
          rw [a2] at q
          exact nI_nm1 (by omega) q
        · exact ⟨bb, q1, q2⟩
      have Lbb : bb < 2147483648 := by omega
      obtain ⟨V, S, hV, -, -, hVS, -, hS2⟩ := both_min N0
      have hV2 : V ≤ 14000 := by omega
      have LV : V < 2147483648 := by omega
      by_cases hpo : o < p
      · have hxy : o < p := hpo
        have hyc : p < c := hp
        have hB2 : bdS s0 o p = nI bb := (show bdS s0 o p = bdS s0 p o from bdF_comm).trans hB
        refine kw_iload (pc := 237) dL_ties_237 rfl ?_
        refine kw_if_eq (tgt := 399) (pc := 239) dL_ties_239 (by decide) (fun h239 => ?_) (fun h239 => ?_)
        · exact absurd h239 (by decide)
        · refine kw_iload (pc := 242) dL_ties_242 rfl ?_
          refine kw_if_lt (tgt := 399) (pc := 244) dL_ties_244 (by decide) (fun h244 => ?_) (fun h244 => ?_)
          · have h244 := (kLtI (a := bb) (b := 0) Lbb (by decide) hB (rfl : (0 : Int32) = nI 0)).mp h244
            exfalso; omega
          · have h244 := mt (kLtI (a := bb) (b := 0) Lbb (by decide) hB (rfl : (0 : Int32) = nI 0)).mpr h244
            refine kw_aload_n (pc := 247) dL_ties_247 rfl ?_
            refine kw_iconst (v := 0) (pc := 248) dL_ties_248 (by decide) ?_
            refine kw_callSw1 (pc := 249) dL_ties_249 lL_108 (K.cheapest (u := 0) H4 hV (by decide)) rfl rfl ⟨by decide, by decide, Nat.le_of_ble_eq_true rfl⟩ (fun w5 H5 => ?_)
            refine kw_istore (pc := 252) dL_ties_252 (by decide) rfl ?_
            refine kW.locs (L' := [(0, _), (1, _), (2, _), (3, _), (4, _), (10, _), (11, _)]) ?_ ⟨rfl, rfl, rfl, rfl, rfl, rfl, rfl, trivial⟩
            refine kw_iload_n (pc := 254) dL_ties_254 rfl ?_
            refine kw_iload_n (pc := 255) dL_ties_255 rfl ?_
            refine kw_icmp_le (tgt := 263) (pc := 256) dL_ties_256 (by decide) (fun h256 => ?_) (fun h256 => ?_)
            · have h256 := (kLeI (a := p) (b := o) Lp Lo rfl rfl).mp h256
              exfalso; omega
            · have h256 := mt (kLeI (a := p) (b := o) Lp Lo rfl rfl).mpr h256
              refine kw_iload_n (pc := 259) dL_ties_259 rfl ?_
              refine kw_goto (tgt := 264) (pc := 260) dL_ties_260 (by decide) ?_
              refine kw_istore (pc := 264) dL_ties_264 (by decide) rfl ?_
              refine kW.locs (L' := [(0, _), (1, _), (2, _), (3, _), (4, _), (10, _), (11, _), (12, _)]) ?_ ⟨rfl, rfl, rfl, rfl, rfl, rfl, rfl, rfl, trivial⟩
              refine kw_iload_n (pc := 266) dL_ties_266 rfl ?_
              refine kw_iload_n (pc := 267) dL_ties_267 rfl ?_
              refine kw_icmp_le (tgt := 275) (pc := 268) dL_ties_268 (by decide) (fun h268 => ?_) (fun h268 => ?_)
              · have h268 := (kLeI (a := p) (b := o) Lp Lo rfl rfl).mp h268
                exfalso; omega
              · have h268 := mt (kLeI (a := p) (b := o) Lp Lo rfl rfl).mpr h268
                refine kw_iload_n (pc := 271) dL_ties_271 rfl ?_
                refine kw_goto (tgt := 276) (pc := 272) dL_ties_272 (by decide) ?_
                refine kw_istore (pc := 276) dL_ties_276 (by decide) rfl ?_
                refine kW.locs (L' := [(0, _), (1, _), (2, _), (3, _), (4, _), (10, _), (11, _), (12, _), (13, _)]) ?_ ⟨rfl, rfl, rfl, rfl, rfl, rfl, rfl, rfl, rfl, trivial⟩
                refine kw_aload_n (pc := 278) dL_ties_278 rfl ?_
                refine kw_iload (pc := 279) dL_ties_279 rfl ?_
                refine kw_callSw1 (pc := 281) dL_ties_281 lL_90 (H5.take hyc) rfl rfl ⟨by decide, by decide, Nat.le_of_ble_eq_true rfl⟩ (fun w6 hw6 => ?_)
                obtain ⟨s1, H6, g1⟩ := hw6
                refine kw_istore (pc := 284) dL_ties_284 (by decide) rfl ?_
                refine kW.locs (L' := [(0, _), (1, _), (2, _), (3, _), (4, _), (10, _), (11, _), (13, _)]) ?_ ⟨rfl, rfl, rfl, rfl, rfl, rfl, rfl, rfl, trivial⟩
                refine kw_aload_n (pc := 286) dL_ties_286 rfl ?_
                refine kw_iload (pc := 287) dL_ties_287 rfl ?_
                refine kw_callSw1 (pc := 289) dL_ties_289 lL_90 (H6.take (by omega)) rfl rfl ⟨by decide, by decide, Nat.le_of_ble_eq_true rfl⟩ (fun w7 hw7 => ?_)
                obtain ⟨s2, H7, g2⟩ := hw7
                have N2 : okN s2 (c - 2) := by
                  obtain ⟨s1x, q1, -, -, -, -, -, -, -, N⟩ := H7
                  exact N
                refine kw_istore (pc := 292) dL_ties_292 (by decide) rfl ?_
                refine kW.locs (L' := [(0, _), (1, _), (2, _), (3, _), (4, _), (10, _), (11, _), (14, _)]) ?_ ⟨rfl, rfl, rfl, rfl, rfl, rfl, rfl, rfl, trivial⟩
                refine kw_iload (pc := 294) dL_ties_294 rfl ?_
                refine kw_iload_n (pc := 296) dL_ties_296 rfl ?_
                refine kw_iconst (v := 2) (pc := 297) dL_ties_297 (by decide) ?_
                refine kw_isub (pc := 298) dL_ties_298 ?_
                refine kw_icmp_ne (tgt := 396) (pc := 299) dL_ties_299 (by decide) (fun h299 => ?_) (fun h299 => ?_)
                · have h299 := mt (kEqI (a := (c - 1 - 1)) (b := (c - 2)) (by omega) (Nat.lt_of_le_of_lt (Nat.sub_le _ _) Lc) rfl (kS (a := c) (b := 2) rfl (rfl : (2 : Int32) = nI 2) (by omega))).mpr h299
                  exfalso; omega
                · have h299 := (kEqI (a := (c - 1 - 1)) (b := (c - 2)) (by omega) (Nat.lt_of_le_of_lt (Nat.sub_le _ _) Lc) rfl (kS (a := c) (b := 2) rfl (rfl : (2 : Int32) = nI 2) (by omega))).mp h299
                  refine kw_aload_n (pc := 302) dL_ties_302 rfl ?_
                  refine kw_iconst (v := 1) (pc := 303) dL_ties_303 (by decide) ?_
                  obtain ⟨V', hV', hVV, hV2'⟩ := two_less N0 N2 hxy hyc g1 g2 hV hV2 hB2 (by omega)
                  have LV' : V' < 2147483648 := by omega
                  refine kw_callSw1 (pc := 304) dL_ties_304 lL_108 (Tw.cheapest (u := 1) H7 hV' (by decide)) rfl rfl ⟨by decide, by decide, Nat.le_of_ble_eq_true rfl⟩ (fun w8 H8 => ?_)
                  obtain ⟨u8, hu8, HU8⟩ := H8.undo
                  refine kw_iload (pc := 307) dL_ties_307 rfl ?_
                  refine kw_iadd (pc := 309) dL_ties_309 ?_
                  refine kw_iload (pc := 310) dL_ties_310 rfl ?_
                  refine kw_icmp_lt (tgt := 396) (pc := 312) dL_ties_312 (by decide) (fun h312 => ?_) (fun h312 => ?_)
                  · have h312 := (kLtI (a := (V' + bb)) (b := V) (by omega) LV (kA (a := V') (b := bb) rfl hB) rfl).mp h312
                    exfalso; omega
                  · have h312 := mt (kLtI (a := (V' + bb)) (b := V) (by omega) LV (kA (a := V') (b := bb) rfl hB) rfl).mpr h312
                    refine kw_aload_n (pc := 315) dL_ties_315 rfl ?_
                    refine kw_callSw1 (pc := 316) dL_ties_316 lL_121 HU8 rfl rfl ⟨by decide, by decide, Nat.le_of_ble_eq_true rfl⟩ (fun w9 H9 => ?_)
                    obtain ⟨u9, hu9, HU9⟩ := H9.undo
                    refine kw_if_lt (tgt := 396) (pc := 319) dL_ties_319 (by decide) (fun h319 => ?_) (fun h319 => ?_)
                    · have h319 := (kLtI (a := u8) (b := 0) (by omega) (by decide) rfl (rfl : (0 : Int32) = nI 0)).mp h319
                      exfalso; omega
                    · have h319 := mt (kLtI (a := u8) (b := 0) (by omega) (by decide) rfl (rfl : (0 : Int32) = nI 0)).mpr h319
                      refine kw_aload_n (pc := 322) dL_ties_322 rfl ?_
                      refine kw_callSw1 (pc := 323) dL_ties_323 lL_121 HU9 rfl rfl ⟨by decide, by decide, Nat.le_of_ble_eq_true rfl⟩ (fun w10 H10 => ?_)
                      refine kw_if_lt (tgt := 396) (pc := 326) dL_ties_326 (by decide) (fun h326 => ?_) (fun h326 => ?_)
                      · have h326 := (kLtI (a := u9) (b := 0) (by omega) (by decide) rfl (rfl : (0 : Int32) = nI 0)).mp h326
                        exfalso; omega
                      · have h326 := mt (kLtI (a := u9) (b := 0) (by omega) (by decide) rfl (rfl : (0 : Int32) = nI 0)).mpr h326
                        refine kw_aload_n (pc := 329) dL_ties_329 rfl ?_
                        refine kw_callSr (pc := 330) dL_ties_330 lL_127 (V0.print H10.v) rfl rfl ⟨by decide, by decide, Nat.le_of_ble_eq_true rfl⟩ ?_
                        refine kw_lload (pc := 333) dL_ties_333 rfl ?_
                        refine kw_lcmp (pc := 335) dL_ties_335 ?_
                        refine kw_if_ne (tgt := 396) (pc := 336) dL_ties_336 (by decide) (fun h336 => ?_) (fun h336 => ?_)
                        · exact absurd lgc0 h336
                        · refine kw_aload_n (pc := 339) dL_ties_339 rfl ?_
                          refine kw_iload_n (pc := 340) dL_ties_340 rfl ?_
                          refine kw_iconst (v := 4) (pc := 341) dL_ties_341 (by decide) ?_
                          refine kw_callSr (pc := 342) dL_ties_342 lL_100 (V0.parcelE (k := p) (j := 4) H10.v rfl (rfl : (4 : Int32) = nI 4) hp (by decide)) rfl rfl ⟨by decide, by decide, Nat.le_of_ble_eq_true rfl⟩ ?_
                          refine kw_aload_n (pc := 345) dL_ties_345 rfl ?_
                          refine kw_iload_n (pc := 346) dL_ties_346 rfl ?_
                          refine kw_iconst (v := 4) (pc := 347) dL_ties_347 (by decide) ?_
                          refine kw_callSr (pc := 348) dL_ties_348 lL_100 (V0.parcelE (k := o) (j := 4) H10.v rfl (rfl : (4 : Int32) = nI 4) ho (by decide)) rfl rfl ⟨by decide, by decide, Nat.le_of_ble_eq_true rfl⟩ ?_
                          refine kw_icmp_ne (tgt := 396) (pc := 351) dL_ties_351 (by decide) (fun h351 => ?_) (fun h351 => ?_)
                          · exact (h351 hb4).elim
                          · refine kw_aload_n (pc := 354) dL_ties_354 rfl ?_
                            refine kw_iload_n (pc := 355) dL_ties_355 rfl ?_
                            refine kw_bipush (v := 10) (pc := 356) dL_ties_356 (by decide) ?_
                            refine kw_callSr (pc := 358) dL_ties_358 lL_100 (V0.parcelE (k := p) (j := 10) H10.v rfl (rfl : (10 : Int32) = nI 10) hp (by decide)) rfl rfl ⟨by decide, by decide, Nat.le_of_ble_eq_true rfl⟩ ?_
                            refine kw_if_ne (tgt := 396) (pc := 361) dL_ties_361 (by decide) (fun h361 => ?_) (fun h361 => ?_)
                            · exact (h361 hbR1).elim
                            · refine kw_aload_n (pc := 364) dL_ties_364 rfl ?_
                              refine kw_iload_n (pc := 365) dL_ties_365 rfl ?_
                              refine kw_bipush (v := 10) (pc := 366) dL_ties_366 (by decide) ?_
                              refine kw_callSr (pc := 368) dL_ties_368 lL_100 (V0.parcelE (k := o) (j := 10) H10.v rfl (rfl : (10 : Int32) = nI 10) ho (by decide)) rfl rfl ⟨by decide, by decide, Nat.le_of_ble_eq_true rfl⟩ ?_
                              refine kw_if_ne (tgt := 396) (pc := 371) dL_ties_371 (by decide) (fun h371 => ?_) (fun h371 => ?_)
                              · exact (h371 hbR2).elim
                              · refine kw_aload_n (pc := 374) dL_ties_374 rfl ?_
                                refine kw_iload_n (pc := 375) dL_ties_375 rfl ?_
                                refine kw_iconst (v := 3) (pc := 376) dL_ties_376 (by decide) ?_
                                refine kw_callSr (pc := 377) dL_ties_377 lL_100 (V0.parcelE (k := p) (j := 3) H10.v rfl (rfl : (3 : Int32) = nI 3) hp (by decide)) rfl rfl ⟨by decide, by decide, Nat.le_of_ble_eq_true rfl⟩ ?_
                                refine kw_aload_n (pc := 380) dL_ties_380 rfl ?_
                                refine kw_iload_n (pc := 381) dL_ties_381 rfl ?_
                                refine kw_iconst (v := 3) (pc := 382) dL_ties_382 (by decide) ?_
                                refine kw_callSr (pc := 383) dL_ties_383 lL_100 (V0.parcelE (k := o) (j := 3) H10.v rfl (rfl : (3 : Int32) = nI 3) ho (by decide)) rfl rfl ⟨by decide, by decide, Nat.le_of_ble_eq_true rfl⟩ ?_
                                refine kw_iadd (pc := 386) dL_ties_386 ?_
                                refine kw_bipush (v := 100) (pc := 387) dL_ties_387 (by decide) ?_
                                refine kw_icmp_ge (tgt := 396) (pc := 389) dL_ties_389 (by decide) (fun h389 => ?_) (fun h389 => ?_)
                                · have h389 := (kLeI (a := 100) (b := (wt + wt')) (by decide) (by omega) (rfl : (100 : Int32) = nI 100) (kA (a := wt) (b := wt') hwt hwt')).mp h389
                                  exfalso; omega
                                · have h389 := mt (kLeI (a := 100) (b := (wt + wt')) (by decide) (by omega) (rfl : (100 : Int32) = nI 100) (kA (a := wt) (b := wt') hwt hwt')).mpr h389
                                  refine kw_iconst (v := 1) (pc := 392) dL_ties_392 (by decide) ?_
                                  refine kw_goto (tgt := 397) (pc := 393) dL_ties_393 (by decide) ?_
                                  refine kw_istore (pc := 397) dL_ties_397 (by decide) rfl ?_
                                  refine kW.locs (L' := [(9, _)]) ?_ ⟨rfl, trivial⟩
                                  refine kw_iload (pc := 399) dL_ties_399 rfl ?_
                                  exact kw_ireturn nlL_ties (pc := 401) dL_ties_401 rfl (by first | rfl | exact b2i_z _ | exact hbool) ⟨rfl, H10⟩
      · have hxy : p < o := by omega
        have hyc : o < c := ho
        have hB2 : bdS s0 p o = nI bb := hB
        refine kw_iload (pc := 237) dL_ties_237 rfl ?_
        refine kw_if_eq (tgt := 399) (pc := 239) dL_ties_239 (by decide) (fun h239 => ?_) (fun h239 => ?_)
        · exact absurd h239 (by decide)
        · refine kw_iload (pc := 242) dL_ties_242 rfl ?_
          refine kw_if_lt (tgt := 399) (pc := 244) dL_ties_244 (by decide) (fun h244 => ?_) (fun h244 => ?_)
          · have h244 := (kLtI (a := bb) (b := 0) Lbb (by decide) hB (rfl : (0 : Int32) = nI 0)).mp h244
            exfalso; omega
          · have h244 := mt (kLtI (a := bb) (b := 0) Lbb (by decide) hB (rfl : (0 : Int32) = nI 0)).mpr h244
            refine kw_aload_n (pc := 247) dL_ties_247 rfl ?_
            refine kw_iconst (v := 0) (pc := 248) dL_ties_248 (by decide) ?_
            refine kw_callSw1 (pc := 249) dL_ties_249 lL_108 (K.cheapest (u := 0) H4 hV (by decide)) rfl rfl ⟨by decide, by decide, Nat.le_of_ble_eq_true rfl⟩ (fun w5 H5 => ?_)
            refine kw_istore (pc := 252) dL_ties_252 (by decide) rfl ?_
            refine kW.locs (L' := [(0, _), (1, _), (2, _), (3, _), (4, _), (10, _), (11, _)]) ?_ ⟨rfl, rfl, rfl, rfl, rfl, rfl, rfl, trivial⟩
            refine kw_iload_n (pc := 254) dL_ties_254 rfl ?_
            refine kw_iload_n (pc := 255) dL_ties_255 rfl ?_
            refine kw_icmp_le (tgt := 263) (pc := 256) dL_ties_256 (by decide) (fun h256 => ?_) (fun h256 => ?_)
            · have h256 := (kLeI (a := p) (b := o) Lp Lo rfl rfl).mp h256
              refine kw_iload_n (pc := 263) dL_ties_263 rfl ?_
              refine kw_istore (pc := 264) dL_ties_264 (by decide) rfl ?_
              refine kW.locs (L' := [(0, _), (1, _), (2, _), (3, _), (4, _), (10, _), (11, _), (12, _)]) ?_ ⟨rfl, rfl, rfl, rfl, rfl, rfl, rfl, rfl, trivial⟩
              refine kw_iload_n (pc := 266) dL_ties_266 rfl ?_
              refine kw_iload_n (pc := 267) dL_ties_267 rfl ?_
              refine kw_icmp_le (tgt := 275) (pc := 268) dL_ties_268 (by decide) (fun h268 => ?_) (fun h268 => ?_)
              · have h268 := (kLeI (a := p) (b := o) Lp Lo rfl rfl).mp h268
                refine kw_iload_n (pc := 275) dL_ties_275 rfl ?_
                refine kw_istore (pc := 276) dL_ties_276 (by decide) rfl ?_
                refine kW.locs (L' := [(0, _), (1, _), (2, _), (3, _), (4, _), (10, _), (11, _), (12, _), (13, _)]) ?_ ⟨rfl, rfl, rfl, rfl, rfl, rfl, rfl, rfl, rfl, trivial⟩
                refine kw_aload_n (pc := 278) dL_ties_278 rfl ?_
                refine kw_iload (pc := 279) dL_ties_279 rfl ?_
                refine kw_callSw1 (pc := 281) dL_ties_281 lL_90 (H5.take hyc) rfl rfl ⟨by decide, by decide, Nat.le_of_ble_eq_true rfl⟩ (fun w6 hw6 => ?_)
                obtain ⟨s1, H6, g1⟩ := hw6
                refine kw_istore (pc := 284) dL_ties_284 (by decide) rfl ?_
                refine kW.locs (L' := [(0, _), (1, _), (2, _), (3, _), (4, _), (10, _), (11, _), (13, _)]) ?_ ⟨rfl, rfl, rfl, rfl, rfl, rfl, rfl, rfl, trivial⟩
                refine kw_aload_n (pc := 286) dL_ties_286 rfl ?_
                refine kw_iload (pc := 287) dL_ties_287 rfl ?_
                refine kw_callSw1 (pc := 289) dL_ties_289 lL_90 (H6.take (by omega)) rfl rfl ⟨by decide, by decide, Nat.le_of_ble_eq_true rfl⟩ (fun w7 hw7 => ?_)
                obtain ⟨s2, H7, g2⟩ := hw7
                have N2 : okN s2 (c - 2) := by
                  obtain ⟨s1x, q1, -, -, -, -, -, -, -, N⟩ := H7
                  exact N
                refine kw_istore (pc := 292) dL_ties_292 (by decide) rfl ?_
                refine kW.locs (L' := [(0, _), (1, _), (2, _), (3, _), (4, _), (10, _), (11, _), (14, _)]) ?_ ⟨rfl, rfl, rfl, rfl, rfl, rfl, rfl, rfl, trivial⟩
                refine kw_iload (pc := 294) dL_ties_294 rfl ?_
                refine kw_iload_n (pc := 296) dL_ties_296 rfl ?_
                refine kw_iconst (v := 2) (pc := 297) dL_ties_297 (by decide) ?_
                refine kw_isub (pc := 298) dL_ties_298 ?_
                refine kw_icmp_ne (tgt := 396) (pc := 299) dL_ties_299 (by decide) (fun h299 => ?_) (fun h299 => ?_)
                · have h299 := mt (kEqI (a := (c - 1 - 1)) (b := (c - 2)) (by omega) (Nat.lt_of_le_of_lt (Nat.sub_le _ _) Lc) rfl (kS (a := c) (b := 2) rfl (rfl : (2 : Int32) = nI 2) (by omega))).mpr h299
                  exfalso; omega
                · have h299 := (kEqI (a := (c - 1 - 1)) (b := (c - 2)) (by omega) (Nat.lt_of_le_of_lt (Nat.sub_le _ _) Lc) rfl (kS (a := c) (b := 2) rfl (rfl : (2 : Int32) = nI 2) (by omega))).mp h299
                  refine kw_aload_n (pc := 302) dL_ties_302 rfl ?_
                  refine kw_iconst (v := 1) (pc := 303) dL_ties_303 (by decide) ?_
                  obtain ⟨V', hV', hVV, hV2'⟩ := two_less N0 N2 hxy hyc g1 g2 hV hV2 hB2 (by omega)
                  have LV' : V' < 2147483648 := by omega
                  refine kw_callSw1 (pc := 304) dL_ties_304 lL_108 (Tw.cheapest (u := 1) H7 hV' (by decide)) rfl rfl ⟨by decide, by decide, Nat.le_of_ble_eq_true rfl⟩ (fun w8 H8 => ?_)
                  obtain ⟨u8, hu8, HU8⟩ := H8.undo
                  refine kw_iload (pc := 307) dL_ties_307 rfl ?_
                  refine kw_iadd (pc := 309) dL_ties_309 ?_
                  refine kw_iload (pc := 310) dL_ties_310 rfl ?_
                  refine kw_icmp_lt (tgt := 396) (pc := 312) dL_ties_312 (by decide) (fun h312 => ?_) (fun h312 => ?_)
                  · have h312 := (kLtI (a := (V' + bb)) (b := V) (by omega) LV (kA (a := V') (b := bb) rfl hB) rfl).mp h312
                    exfalso; omega
                  · have h312 := mt (kLtI (a := (V' + bb)) (b := V) (by omega) LV (kA (a := V') (b := bb) rfl hB) rfl).mpr h312
                    refine kw_aload_n (pc := 315) dL_ties_315 rfl ?_
                    refine kw_callSw1 (pc := 316) dL_ties_316 lL_121 HU8 rfl rfl ⟨by decide, by decide, Nat.le_of_ble_eq_true rfl⟩ (fun w9 H9 => ?_)
                    obtain ⟨u9, hu9, HU9⟩ := H9.undo
                    refine kw_if_lt (tgt := 396) (pc := 319) dL_ties_319 (by decide) (fun h319 => ?_) (fun h319 => ?_)
                    · have h319 := (kLtI (a := u8) (b := 0) (by omega) (by decide) rfl (rfl : (0 : Int32) = nI 0)).mp h319
                      exfalso; omega
                    · have h319 := mt (kLtI (a := u8) (b := 0) (by omega) (by decide) rfl (rfl : (0 : Int32) = nI 0)).mpr h319
                      refine kw_aload_n (pc := 322) dL_ties_322 rfl ?_
                      refine kw_callSw1 (pc := 323) dL_ties_323 lL_121 HU9 rfl rfl ⟨by decide, by decide, Nat.le_of_ble_eq_true rfl⟩ (fun w10 H10 => ?_)
                      refine kw_if_lt (tgt := 396) (pc := 326) dL_ties_326 (by decide) (fun h326 => ?_) (fun h326 => ?_)
                      · have h326 := (kLtI (a := u9) (b := 0) (by omega) (by decide) rfl (rfl : (0 : Int32) = nI 0)).mp h326
                        exfalso; omega
                      · have h326 := mt (kLtI (a := u9) (b := 0) (by omega) (by decide) rfl (rfl : (0 : Int32) = nI 0)).mpr h326
                        refine kw_aload_n (pc := 329) dL_ties_329 rfl ?_
                        refine kw_callSr (pc := 330) dL_ties_330 lL_127 (V0.print H10.v) rfl rfl ⟨by decide, by decide, Nat.le_of_ble_eq_true rfl⟩ ?_
                        refine kw_lload (pc := 333) dL_ties_333 rfl ?_
                        refine kw_lcmp (pc := 335) dL_ties_335 ?_
                        refine kw_if_ne (tgt := 396) (pc := 336) dL_ties_336 (by decide) (fun h336 => ?_) (fun h336 => ?_)
                        · exact absurd lgc0 h336
                        · refine kw_aload_n (pc := 339) dL_ties_339 rfl ?_
                          refine kw_iload_n (pc := 340) dL_ties_340 rfl ?_
                          refine kw_iconst (v := 4) (pc := 341) dL_ties_341 (by decide) ?_
                          refine kw_callSr (pc := 342) dL_ties_342 lL_100 (V0.parcelE (k := p) (j := 4) H10.v rfl (rfl : (4 : Int32) = nI 4) hp (by decide)) rfl rfl ⟨by decide, by decide, Nat.le_of_ble_eq_true rfl⟩ ?_
                          refine kw_aload_n (pc := 345) dL_ties_345 rfl ?_
                          refine kw_iload_n (pc := 346) dL_ties_346 rfl ?_
                          refine kw_iconst (v := 4) (pc := 347) dL_ties_347 (by decide) ?_
                          refine kw_callSr (pc := 348) dL_ties_348 lL_100 (V0.parcelE (k := o) (j := 4) H10.v rfl (rfl : (4 : Int32) = nI 4) ho (by decide)) rfl rfl ⟨by decide, by decide, Nat.le_of_ble_eq_true rfl⟩ ?_
                          refine kw_icmp_ne (tgt := 396) (pc := 351) dL_ties_351 (by decide) (fun h351 => ?_) (fun h351 => ?_)
                          · exact (h351 hb4).elim
                          · refine kw_aload_n (pc := 354) dL_ties_354 rfl ?_
                            refine kw_iload_n (pc := 355) dL_ties_355 rfl ?_
                            refine kw_bipush (v := 10) (pc := 356) dL_ties_356 (by decide) ?_
                            refine kw_callSr (pc := 358) dL_ties_358 lL_100 (V0.parcelE (k := p) (j := 10) H10.v rfl (rfl : (10 : Int32) = nI 10) hp (by decide)) rfl rfl ⟨by decide, by decide, Nat.le_of_ble_eq_true rfl⟩ ?_
                            refine kw_if_ne (tgt := 396) (pc := 361) dL_ties_361 (by decide) (fun h361 => ?_) (fun h361 => ?_)
                            · exact (h361 hbR1).elim
                            · refine kw_aload_n (pc := 364) dL_ties_364 rfl ?_
                              refine kw_iload_n (pc := 365) dL_ties_365 rfl ?_
                              refine kw_bipush (v := 10) (pc := 366) dL_ties_366 (by decide) ?_
                              refine kw_callSr (pc := 368) dL_ties_368 lL_100 (V0.parcelE (k := o) (j := 10) H10.v rfl (rfl : (10 : Int32) = nI 10) ho (by decide)) rfl rfl ⟨by decide, by decide, Nat.le_of_ble_eq_true rfl⟩ ?_
                              refine kw_if_ne (tgt := 396) (pc := 371) dL_ties_371 (by decide) (fun h371 => ?_) (fun h371 => ?_)
                              · exact (h371 hbR2).elim
                              · refine kw_aload_n (pc := 374) dL_ties_374 rfl ?_
                                refine kw_iload_n (pc := 375) dL_ties_375 rfl ?_
                                refine kw_iconst (v := 3) (pc := 376) dL_ties_376 (by decide) ?_
                                refine kw_callSr (pc := 377) dL_ties_377 lL_100 (V0.parcelE (k := p) (j := 3) H10.v rfl (rfl : (3 : Int32) = nI 3) hp (by decide)) rfl rfl ⟨by decide, by decide, Nat.le_of_ble_eq_true rfl⟩ ?_
                                refine kw_aload_n (pc := 380) dL_ties_380 rfl ?_
                                refine kw_iload_n (pc := 381) dL_ties_381 rfl ?_
                                refine kw_iconst (v := 3) (pc := 382) dL_ties_382 (by decide) ?_
                                refine kw_callSr (pc := 383) dL_ties_383 lL_100 (V0.parcelE (k := o) (j := 3) H10.v rfl (rfl : (3 : Int32) = nI 3) ho (by decide)) rfl rfl ⟨by decide, by decide, Nat.le_of_ble_eq_true rfl⟩ ?_
                                refine kw_iadd (pc := 386) dL_ties_386 ?_
                                refine kw_bipush (v := 100) (pc := 387) dL_ties_387 (by decide) ?_
                                refine kw_icmp_ge (tgt := 396) (pc := 389) dL_ties_389 (by decide) (fun h389 => ?_) (fun h389 => ?_)
                                · have h389 := (kLeI (a := 100) (b := (wt + wt')) (by decide) (by omega) (rfl : (100 : Int32) = nI 100) (kA (a := wt) (b := wt') hwt hwt')).mp h389
                                  exfalso; omega
                                · have h389 := mt (kLeI (a := 100) (b := (wt + wt')) (by decide) (by omega) (rfl : (100 : Int32) = nI 100) (kA (a := wt) (b := wt') hwt hwt')).mpr h389
                                  refine kw_iconst (v := 1) (pc := 392) dL_ties_392 (by decide) ?_
                                  refine kw_goto (tgt := 397) (pc := 393) dL_ties_393 (by decide) ?_
                                  refine kw_istore (pc := 397) dL_ties_397 (by decide) rfl ?_
                                  refine kW.locs (L' := [(9, _)]) ?_ ⟨rfl, trivial⟩
                                  refine kw_iload (pc := 399) dL_ties_399 rfl ?_
                                  exact kw_ireturn nlL_ties (pc := 401) dL_ties_401 rfl (by first | rfl | exact b2i_z _ | exact hbool) ⟨rfl, H10⟩
              · have h268 := mt (kLeI (a := p) (b := o) Lp Lo rfl rfl).mpr h268
                exfalso; omega
            · have h256 := mt (kLeI (a := p) (b := o) Lp Lo rfl rfl).mpr h256
              exfalso; omega
    · have hB : bdS s0 p o = -1 := if_neg hOK
      refine kW.locs (L' := [(0, .ref 0), (1, .int (nI p)), (2, .int (nI o)), (3, .int (nI c)), (4, .long (PR s0 c)), (9, .int 1), (10, .int (-1))]) ?_ ⟨rfl, rfl, rfl, rfl, rfl, rfl, kgE rfl hB, trivial⟩
      refine kw_iload (pc := 237) dL_ties_237 rfl ?_
      refine kw_if_eq (tgt := 399) (pc := 239) dL_ties_239 (by decide) (fun h239 => ?_) (fun h239 => ?_)
      · exact absurd h239 (by decide)
      · refine kw_iload (pc := 242) dL_ties_242 rfl ?_
        refine kw_if_lt (tgt := 399) (pc := 244) dL_ties_244 (by decide) (fun h244 => ?_) (fun h244 => ?_)
        · refine kw_iload (pc := 399) dL_ties_399 rfl ?_
          exact kw_ireturn nlL_ties (pc := 401) dL_ties_401 rfl (by first | rfl | exact b2i_z _ | exact hbool) ⟨rfl, H4⟩
        · exact absurd (by decide) h244
  have t189 : ∀ w2 : kM, K m s0 c w2 → kW (0, fun _ => 0) mL_ties 14 (fun o' w' _ => o' = .inl (some (.int 1)) ∧ (K m s0 c) w') 1 6 n w2 189 [(0, .ref 0), (1, .int (nI p)), (2, .int (nI o)), (3, .int (nI c)), (4, .long (PR s0 c)), (6, .int (wyF s0 (pa s0 (21 + 7 * p)))), (8, .int (wyR s0 (pa s0 (21 + 7 * p)) 3).1), (9, .int 1)] [] := by
    intro w2 H2
    refine kw_aload_n (pc := 189) dL_ties_189 rfl ?_
    refine kw_iload_n (pc := 190) dL_ties_190 rfl ?_
    refine kw_iload_n (pc := 191) dL_ties_191 rfl ?_
    refine kw_callSw1 (pc := 192) dL_ties_192 lL_131 (H2.bundle hp ho hne) rfl rfl ⟨by decide, by decide, Nat.le_of_ble_eq_true rfl⟩ (fun w3 H3 => ?_)
    refine kw_istore (pc := 195) dL_ties_195 (by decide) rfl ?_
    refine kW.locs (L' := [(0, _), (1, _), (2, _), (3, _), (4, _), (6, _), (8, _), (9, _), (10, _)]) ?_ ⟨rfl, rfl, rfl, rfl, rfl, rfl, rfl, rfl, rfl, trivial⟩
    refine kw_iload (pc := 197) dL_ties_197 rfl ?_
    refine kw_if_eq (tgt := 234) (pc := 199) dL_ties_199 (by decide) (fun h199 => ?_) (fun h199 => ?_)
    · exact absurd h199 (by decide)
    · refine kw_iload (pc := 202) dL_ties_202 rfl ?_
      refine kw_iload (pc := 204) dL_ties_204 rfl ?_
      refine kw_icmp_ne (tgt := 234) (pc := 206) dL_ties_206 (by decide) (fun h206 => ?_) (fun h206 => ?_)
      · exact (h206 wyF_eq).elim
      · refine kw_iload (pc := 209) dL_ties_209 rfl ?_
        refine kw_aload_n (pc := 211) dL_ties_211 rfl ?_
        refine kw_iload_n (pc := 212) dL_ties_212 rfl ?_
        refine kw_iload_n (pc := 213) dL_ties_213 rfl ?_
        refine kw_callSw1 (pc := 214) dL_ties_214 lL_131 (H3.bundle ho hp (Ne.symm hne)) rfl rfl ⟨by decide, by decide, Nat.le_of_ble_eq_true rfl⟩ (fun w4 H4 => ?_)
        refine kw_icmp_ne (tgt := 234) (pc := 217) dL_ties_217 (by decide) (fun h217 => ?_) (fun h217 => ?_)
        · exact (h217 (show bdS s0 p o = bdS s0 o p from bdF_comm)).elim
        · refine kw_aload_n (pc := 220) dL_ties_220 rfl ?_
          refine kw_callSr (pc := 221) dL_ties_221 lL_127 (V0.print H4.v) rfl rfl ⟨by decide, by decide, Nat.le_of_ble_eq_true rfl⟩ ?_
          refine kw_lload (pc := 224) dL_ties_224 rfl ?_
          refine kw_lcmp (pc := 226) dL_ties_226 ?_
          refine kw_if_ne (tgt := 234) (pc := 227) dL_ties_227 (by decide) (fun h227 => ?_) (fun h227 => ?_)
          · exact absurd lgc0 h227
          · refine kw_iconst (v := 1) (pc := 230) dL_ties_230 (by decide) ?_
            refine kw_goto (tgt := 235) (pc := 231) dL_ties_231 (by decide) ?_
            refine kw_istore (pc := 235) dL_ties_235 (by decide) rfl ?_
            exact kW.locs (t237 w4 H4) ⟨rfl, rfl, rfl, rfl, rfl, rfl, rfl, trivial⟩
  have loop : ∀ (mm : Nat) (v : Nat) (wi : kM), mm = 3 - v → v ≤ 3 → K m s0 c wi → kW (0, fun _ => 0) mL_ties 14 (fun o' w' _ => o' = .inl (some (.int 1)) ∧ (K m s0 c) w') 1 6 n wi 77 [(0, .ref 0), (1, .int (nI p)), (2, .int (nI o)), (3, .int (nI c)), (4, .long (PR s0 c)), (6, .int (wyF s0 (pa s0 (21 + 7 * p)))), (7, .int (leN s0 (pa s0 (21 + 7 * p)) v)), (8, .int (wyR s0 (pa s0 (21 + 7 * p)) v).1), (9, .int 1), (10, .int (nI v))] [] := by
    intro mm
    induction mm using Nat.strongRecOn with
    | _ mm ih =>
      intro v wi hm hv0 H
      refine kw_iload (pc := 77) dL_ties_77 rfl ?_
      refine kw_iconst (v := 3) (pc := 79) dL_ties_79 (by decide) ?_
      refine kw_icmp_ge (tgt := 189) (pc := 80) dL_ties_80 (by decide) (fun h80 => ?_) (fun h80 => ?_)
      · have h80 := (kLeI (a := 3) (b := v) (by decide) (by omega) (rfl : (3 : Int32) = nI 3) rfl).mp h80
        obtain rfl : v = 3 := by omega
        exact kW.locs (t189 wi H) ⟨rfl, rfl, rfl, rfl, rfl, rfl, rfl, rfl, trivial⟩
      · have h80 := mt (kLeI (a := 3) (b := v) (by decide) (by omega) (rfl : (3 : Int32) = nI 3) rfl).mpr h80
        have hv3 : v < 3 := by omega
        have hlt2 : ∀ {x y : Int32}, y = x → ¬ (wyR s0 (pa s0 (21 + 7 * p)) v).1 = -1 → ¬ leN s0 (pa s0 (21 + 7 * p)) v ≤ y → x < (wyR s0 (pa s0 (21 + 7 * p)) v).2 := by
          intro x y q0 q1 q2
          subst q0
          rw [show leN s0 (pa s0 (21 + 7 * p)) v = (wyR s0 (pa s0 (21 + 7 * p)) v).2 from if_neg q1] at q2
          exact Int32.not_le.mp q2
        have hge2 : ∀ {x y : Int32}, y = x → ¬ (wyR s0 (pa s0 (21 + 7 * p)) v).1 = -1 → leN s0 (pa s0 (21 + 7 * p)) v ≤ y → ¬ x < (wyR s0 (pa s0 (21 + 7 * p)) v).2 := by
          intro x y q0 q1 q2
          subst q0
          rw [show leN s0 (pa s0 (21 + 7 * p)) v = (wyR s0 (pa s0 (21 + 7 * p)) v).2 from if_neg q1] at q2
          exact Int32.not_lt.mpr q2
        refine kw_aload_n (pc := 83) dL_ties_83 rfl ?_
        refine kw_iload_n (pc := 84) dL_ties_84 rfl ?_
        refine kw_iconst (v := 0) (pc := 85) dL_ties_85 (by decide) ?_
        refine kw_iload (pc := 86) dL_ties_86 rfl ?_
        refine kw_callSw1 (pc := 88) dL_ties_88 lL_81 (H.tie hp hv3) rfl rfl ⟨by decide, by decide, Nat.le_of_ble_eq_true rfl⟩ (fun w1 hw1 => ?_)
        obtain ⟨s1, H1, eW, eR⟩ := hw1
        obtain ⟨u, hu, HU⟩ := H1.undo
        refine kw_istore (pc := 91) dL_ties_91 (by decide) rfl ?_
        refine kW.locs (L' := [(0, _), (1, _), (2, _), (3, _), (4, _), (6, _), (7, _), (8, _), (9, _), (10, _), (11, _)]) ?_ ⟨rfl, rfl, rfl, rfl, rfl, rfl, rfl, rfl, rfl, rfl, rfl, trivial⟩
        refine kw_aload_n (pc := 93) dL_ties_93 rfl ?_
        refine kw_iload_n (pc := 94) dL_ties_94 rfl ?_
        refine kw_bipush (v := 9) (pc := 95) dL_ties_95 (by decide) ?_
        refine kw_callSr (pc := 97) dL_ties_97 lL_100 (V0.parcelE (k := p) (j := 9) H1.v rfl (rfl : (9 : Int32) = nI 9) hp (by decide)) rfl rfl ⟨by decide, by decide, Nat.le_of_ble_eq_true rfl⟩ ?_
        refine kw_istore (pc := 100) dL_ties_100 (by decide) rfl ?_
        refine kW.locs (L' := [(0, _), (1, _), (2, _), (3, _), (4, _), (6, _), (7, _), (8, _), (9, _), (10, _), (11, _), (12, _)]) ?_ ⟨rfl, rfl, rfl, rfl, rfl, rfl, rfl, rfl, rfl, rfl, rfl, rfl, trivial⟩
        refine kw_aload_n (pc := 102) dL_ties_102 rfl ?_
        refine kw_iload_n (pc := 103) dL_ties_103 rfl ?_
        refine kw_bipush (v := 10) (pc := 104) dL_ties_104 (by decide) ?_
        refine kw_callSr (pc := 106) dL_ties_106 lL_100 (V0.parcelE (k := p) (j := 10) H1.v rfl (rfl : (10 : Int32) = nI 10) hp (by decide)) rfl rfl ⟨by decide, by decide, Nat.le_of_ble_eq_true rfl⟩ ?_
        refine kw_if_ne (tgt := 128) (pc := 109) dL_ties_109 (by decide) (fun h109 => ?_) (fun h109 => ?_)
        · refine kw_iconst (v := 0) (pc := 128) dL_ties_128 (by decide) ?_
          refine kw_istore (pc := 129) dL_ties_129 (by decide) rfl ?_
          refine kW.locs (L' := [(0, _), (1, _), (2, _), (3, _), (4, _), (6, _), (7, _), (8, _), (9, _), (10, _), (11, _), (12, _), (13, _)]) ?_ ⟨rfl, rfl, rfl, rfl, rfl, rfl, rfl, rfl, rfl, rfl, rfl, rfl, rfl, trivial⟩
          refine kw_iload (pc := 131) dL_ties_131 rfl ?_
          refine kw_if_eq (tgt := 141) (pc := 133) dL_ties_133 (by decide) (fun h133 => ?_) (fun h133 => ?_)
          · refine kw_iload (pc := 141) dL_ties_141 rfl ?_
            refine kw_istore (pc := 143) dL_ties_143 (by decide) rfl ?_
            refine kW.locs (L' := [(0, _), (1, _), (2, _), (3, _), (4, _), (6, _), (7, _), (8, _), (9, _), (10, _), (11, _), (12, _), (13, _)]) ?_ ⟨rfl, rfl, rfl, rfl, rfl, rfl, rfl, rfl, rfl, rfl, rfl, rfl, rfl, trivial⟩
            refine kw_iload (pc := 145) dL_ties_145 rfl ?_
            refine kw_if_eq (tgt := 155) (pc := 147) dL_ties_147 (by decide) (fun h147 => ?_) (fun h147 => ?_)
            · refine kw_iload (pc := 155) dL_ties_155 rfl ?_
              refine kw_istore (pc := 157) dL_ties_157 (by decide) rfl ?_
              refine kW.locs (L' := [(0, _), (1, _), (2, _), (3, _), (4, _), (6, _), (7, _), (8, _), (9, _), (10, _), (11, _)]) ?_ ⟨rfl, rfl, rfl, rfl, rfl, rfl, rfl, rfl, rfl, rfl, rfl, trivial⟩
              refine kw_iload (pc := 159) dL_ties_159 rfl ?_
              refine kw_if_eq (tgt := 180) (pc := 161) dL_ties_161 (by decide) (fun h161 => ?_) (fun h161 => ?_)
              · exact absurd h161 (by decide)
              · refine kw_iload (pc := 164) dL_ties_164 rfl ?_
                refine kw_if_lt (tgt := 180) (pc := 166) dL_ties_166 (by decide) (fun h166 => ?_) (fun h166 => ?_)
                · have h166 := (kLtI (a := vv) (b := 0) Lvv (by decide) hv (rfl : (0 : Int32) = nI 0)).mp h166
                  exfalso; omega
                · have h166 := mt (kLtI (a := vv) (b := 0) Lvv (by decide) hv (rfl : (0 : Int32) = nI 0)).mpr h166
                  refine kw_aload_n (pc := 169) dL_ties_169 rfl ?_
                  refine kw_callSw1 (pc := 170) dL_ties_170 lL_121 HU rfl rfl ⟨by decide, by decide, Nat.le_of_ble_eq_true rfl⟩ (fun w2 H2 => ?_)
                  refine kw_if_lt (tgt := 180) (pc := 173) dL_ties_173 (by decide) (fun h173 => ?_) (fun h173 => ?_)
                  · have h173 := (kLtI (a := u) (b := 0) (by omega) (by decide) rfl (rfl : (0 : Int32) = nI 0)).mp h173
                    exfalso; omega
                  · have h173 := mt (kLtI (a := u) (b := 0) (by omega) (by decide) rfl (rfl : (0 : Int32) = nI 0)).mpr h173
                    refine kw_iconst (v := 1) (pc := 176) dL_ties_176 (by decide) ?_
                    refine kw_goto (tgt := 181) (pc := 177) dL_ties_177 (by decide) ?_
                    refine kw_istore (pc := 181) dL_ties_181 (by decide) rfl ?_
                    refine kW.locs (L' := [(0, _), (1, _), (2, _), (3, _), (4, _), (6, _), (7, _), (8, _), (9, _), (10, _)]) ?_ ⟨rfl, rfl, rfl, rfl, rfl, rfl, rfl, rfl, rfl, rfl, trivial⟩
                    refine kw_iinc (pc := 183) dL_ties_183 (by decide) rfl rfl rfl ?_
                    refine kw_goto (tgt := 77) (pc := 186) dL_ties_186 (by decide) ?_
                    have e := wy_no (s := s0) (P := (pa s0 (21 + 7 * p))) (v := v) (by first | exact fun q => h109 (eR.trans q.1) | exact fun q => q.2.elim (fun q2 => h114 ((wy_neg (by omega)).mpr q2)) (fun q2 => hge2 eW (fun q3 => h114 ((wy_neg (by omega)).mpr q3)) h121 q2))
                    exact kW.locs (ih (3 - (v + 1)) (by omega) (v + 1) w2 rfl (by omega) H2) ⟨rfl, rfl, rfl, rfl, rfl, rfl, kgE rfl e.2.symm, kgE rfl e.1.symm, rfl, kgE rfl (kA (a := v) (b := 1) rfl (rfl : (Int32.ofInt 1) = nI 1)), trivial⟩
            · exact absurd (by decide) h147
          · exact absurd (by decide) h133
        · refine kw_iload (pc := 112) dL_ties_112 rfl ?_
          refine kw_if_lt (tgt := 124) (pc := 114) dL_ties_114 (by decide) (fun h114 => ?_) (fun h114 => ?_)
          · refine kw_iconst (v := 1) (pc := 124) dL_ties_124 (by decide) ?_
            refine kw_goto (tgt := 129) (pc := 125) dL_ties_125 (by decide) ?_
            refine kw_istore (pc := 129) dL_ties_129 (by decide) rfl ?_
            refine kW.locs (L' := [(0, _), (1, _), (2, _), (3, _), (4, _), (6, _), (7, _), (8, _), (9, _), (10, _), (11, _), (12, _), (13, _)]) ?_ ⟨rfl, rfl, rfl, rfl, rfl, rfl, rfl, rfl, rfl, rfl, rfl, rfl, rfl, trivial⟩
            refine kw_iload (pc := 131) dL_ties_131 rfl ?_
            refine kw_if_eq (tgt := 141) (pc := 133) dL_ties_133 (by decide) (fun h133 => ?_) (fun h133 => ?_)
            · exact absurd h133 (by decide)
            · refine kw_iload (pc := 136) dL_ties_136 rfl ?_
              refine kw_goto (tgt := 143) (pc := 138) dL_ties_138 (by decide) ?_
              refine kw_istore (pc := 143) dL_ties_143 (by decide) rfl ?_
              refine kW.locs (L' := [(0, _), (1, _), (2, _), (3, _), (4, _), (6, _), (7, _), (8, _), (9, _), (10, _), (11, _), (12, _), (13, _)]) ?_ ⟨rfl, rfl, rfl, rfl, rfl, rfl, rfl, rfl, rfl, rfl, rfl, rfl, rfl, trivial⟩
              refine kw_iload (pc := 145) dL_ties_145 rfl ?_
              refine kw_if_eq (tgt := 155) (pc := 147) dL_ties_147 (by decide) (fun h147 => ?_) (fun h147 => ?_)
              · exact absurd h147 (by decide)
              · refine kw_iload (pc := 150) dL_ties_150 rfl ?_
                refine kw_goto (tgt := 157) (pc := 152) dL_ties_152 (by decide) ?_
                refine kw_istore (pc := 157) dL_ties_157 (by decide) rfl ?_
                refine kW.locs (L' := [(0, _), (1, _), (2, _), (3, _), (4, _), (6, _), (7, _), (8, _), (9, _), (10, _), (11, _)]) ?_ ⟨rfl, rfl, rfl, rfl, rfl, rfl, rfl, rfl, rfl, rfl, rfl, trivial⟩
                refine kw_iload (pc := 159) dL_ties_159 rfl ?_
                refine kw_if_eq (tgt := 180) (pc := 161) dL_ties_161 (by decide) (fun h161 => ?_) (fun h161 => ?_)
                · exact absurd h161 (by decide)
                · refine kw_iload (pc := 164) dL_ties_164 rfl ?_
                  refine kw_if_lt (tgt := 180) (pc := 166) dL_ties_166 (by decide) (fun h166 => ?_) (fun h166 => ?_)
                  · have h166 := (kLtI (a := vv) (b := 0) Lvv (by decide) hv (rfl : (0 : Int32) = nI 0)).mp h166
                    exfalso; omega
                  · have h166 := mt (kLtI (a := vv) (b := 0) Lvv (by decide) hv (rfl : (0 : Int32) = nI 0)).mpr h166
                    refine kw_aload_n (pc := 169) dL_ties_169 rfl ?_
                    refine kw_callSw1 (pc := 170) dL_ties_170 lL_121 HU rfl rfl ⟨by decide, by decide, Nat.le_of_ble_eq_true rfl⟩ (fun w2 H2 => ?_)
                    refine kw_if_lt (tgt := 180) (pc := 173) dL_ties_173 (by decide) (fun h173 => ?_) (fun h173 => ?_)
                    · have h173 := (kLtI (a := u) (b := 0) (by omega) (by decide) rfl (rfl : (0 : Int32) = nI 0)).mp h173
                      exfalso; omega
                    · have h173 := mt (kLtI (a := u) (b := 0) (by omega) (by decide) rfl (rfl : (0 : Int32) = nI 0)).mpr h173
                      refine kw_iconst (v := 1) (pc := 176) dL_ties_176 (by decide) ?_
                      refine kw_goto (tgt := 181) (pc := 177) dL_ties_177 (by decide) ?_
                      refine kw_istore (pc := 181) dL_ties_181 (by decide) rfl ?_
                      refine kW.locs (L' := [(0, _), (1, _), (2, _), (3, _), (4, _), (6, _), (7, _), (8, _), (9, _), (10, _)]) ?_ ⟨rfl, rfl, rfl, rfl, rfl, rfl, rfl, rfl, rfl, rfl, trivial⟩
                      refine kw_iinc (pc := 183) dL_ties_183 (by decide) rfl rfl rfl ?_
                      refine kw_goto (tgt := 77) (pc := 186) dL_ties_186 (by decide) ?_
                      have e := wy_yes (s := s0) (P := (pa s0 (21 + 7 * p))) hv3 (eR.symm.trans h109) (by first | exact Or.inl ((wy_neg (by omega)).mp h114) | exact Or.inr (hlt2 eW (fun q => h114 ((wy_neg (by omega)).mpr q)) h121))
                      exact kW.locs (ih (3 - (v + 1)) (by omega) (v + 1) w2 rfl (by omega) H2) ⟨rfl, rfl, rfl, rfl, rfl, rfl, kgE rfl (e.2.trans eW.symm).symm, kgE rfl e.1.symm, rfl, kgE rfl (kA (a := v) (b := 1) rfl (rfl : (Int32.ofInt 1) = nI 1)), trivial⟩
          · refine kw_iload (pc := 117) dL_ties_117 rfl ?_
            refine kw_iload (pc := 119) dL_ties_119 rfl ?_
            refine kw_icmp_ge (tgt := 128) (pc := 121) dL_ties_121 (by decide) (fun h121 => ?_) (fun h121 => ?_)
            · refine kw_iconst (v := 0) (pc := 128) dL_ties_128 (by decide) ?_
              refine kw_istore (pc := 129) dL_ties_129 (by decide) rfl ?_
              refine kW.locs (L' := [(0, _), (1, _), (2, _), (3, _), (4, _), (6, _), (7, _), (8, _), (9, _), (10, _), (11, _), (12, _), (13, _)]) ?_ ⟨rfl, rfl, rfl, rfl, rfl, rfl, rfl, rfl, rfl, rfl, rfl, rfl, rfl, trivial⟩
              refine kw_iload (pc := 131) dL_ties_131 rfl ?_
              refine kw_if_eq (tgt := 141) (pc := 133) dL_ties_133 (by decide) (fun h133 => ?_) (fun h133 => ?_)
              · refine kw_iload (pc := 141) dL_ties_141 rfl ?_
                refine kw_istore (pc := 143) dL_ties_143 (by decide) rfl ?_
                refine kW.locs (L' := [(0, _), (1, _), (2, _), (3, _), (4, _), (6, _), (7, _), (8, _), (9, _), (10, _), (11, _), (12, _), (13, _)]) ?_ ⟨rfl, rfl, rfl, rfl, rfl, rfl, rfl, rfl, rfl, rfl, rfl, rfl, rfl, trivial⟩
                refine kw_iload (pc := 145) dL_ties_145 rfl ?_
                refine kw_if_eq (tgt := 155) (pc := 147) dL_ties_147 (by decide) (fun h147 => ?_) (fun h147 => ?_)
                · refine kw_iload (pc := 155) dL_ties_155 rfl ?_
                  refine kw_istore (pc := 157) dL_ties_157 (by decide) rfl ?_
                  refine kW.locs (L' := [(0, _), (1, _), (2, _), (3, _), (4, _), (6, _), (7, _), (8, _), (9, _), (10, _), (11, _)]) ?_ ⟨rfl, rfl, rfl, rfl, rfl, rfl, rfl, rfl, rfl, rfl, rfl, trivial⟩
                  refine kw_iload (pc := 159) dL_ties_159 rfl ?_
                  refine kw_if_eq (tgt := 180) (pc := 161) dL_ties_161 (by decide) (fun h161 => ?_) (fun h161 => ?_)
                  · exact absurd h161 (by decide)
                  · refine kw_iload (pc := 164) dL_ties_164 rfl ?_
                    refine kw_if_lt (tgt := 180) (pc := 166) dL_ties_166 (by decide) (fun h166 => ?_) (fun h166 => ?_)
                    · have h166 := (kLtI (a := vv) (b := 0) Lvv (by decide) hv (rfl : (0 : Int32) = nI 0)).mp h166
                      exfalso; omega
                    · have h166 := mt (kLtI (a := vv) (b := 0) Lvv (by decide) hv (rfl : (0 : Int32) = nI 0)).mpr h166
                      refine kw_aload_n (pc := 169) dL_ties_169 rfl ?_
                      refine kw_callSw1 (pc := 170) dL_ties_170 lL_121 HU rfl rfl ⟨by decide, by decide, Nat.le_of_ble_eq_true rfl⟩ (fun w2 H2 => ?_)
                      refine kw_if_lt (tgt := 180) (pc := 173) dL_ties_173 (by decide) (fun h173 => ?_) (fun h173 => ?_)
                      · have h173 := (kLtI (a := u) (b := 0) (by omega) (by decide) rfl (rfl : (0 : Int32) = nI 0)).mp h173
                        exfalso; omega
                      · have h173 := mt (kLtI (a := u) (b := 0) (by omega) (by decide) rfl (rfl : (0 : Int32) = nI 0)).mpr h173
                        refine kw_iconst (v := 1) (pc := 176) dL_ties_176 (by decide) ?_
                        refine kw_goto (tgt := 181) (pc := 177) dL_ties_177 (by decide) ?_
                        refine kw_istore (pc := 181) dL_ties_181 (by decide) rfl ?_
                        refine kW.locs (L' := [(0, _), (1, _), (2, _), (3, _), (4, _), (6, _), (7, _), (8, _), (9, _), (10, _)]) ?_ ⟨rfl, rfl, rfl, rfl, rfl, rfl, rfl, rfl, rfl, rfl, trivial⟩
                        refine kw_iinc (pc := 183) dL_ties_183 (by decide) rfl rfl rfl ?_
                        refine kw_goto (tgt := 77) (pc := 186) dL_ties_186 (by decide) ?_
                        have e := wy_no (s := s0) (P := (pa s0 (21 + 7 * p))) (v := v) (by first | exact fun q => h109 (eR.trans q.1) | exact fun q => q.2.elim (fun q2 => h114 ((wy_neg (by omega)).mpr q2)) (fun q2 => hge2 eW (fun q3 => h114 ((wy_neg (by omega)).mpr q3)) h121 q2))
                        exact kW.locs (ih (3 - (v + 1)) (by omega) (v + 1) w2 rfl (by omega) H2) ⟨rfl, rfl, rfl, rfl, rfl, rfl, kgE rfl e.2.symm, kgE rfl e.1.symm, rfl, kgE rfl (kA (a := v) (b := 1) rfl (rfl : (Int32.ofInt 1) = nI 1)), trivial⟩
                · exact absurd (by decide) h147
              · exact absurd (by decide) h133
            · refine kw_iconst (v := 1) (pc := 124) dL_ties_124 (by decide) ?_
              refine kw_goto (tgt := 129) (pc := 125) dL_ties_125 (by decide) ?_
              refine kw_istore (pc := 129) dL_ties_129 (by decide) rfl ?_
              refine kW.locs (L' := [(0, _), (1, _), (2, _), (3, _), (4, _), (6, _), (7, _), (8, _), (9, _), (10, _), (11, _), (12, _), (13, _)]) ?_ ⟨rfl, rfl, rfl, rfl, rfl, rfl, rfl, rfl, rfl, rfl, rfl, rfl, rfl, trivial⟩
              refine kw_iload (pc := 131) dL_ties_131 rfl ?_
              refine kw_if_eq (tgt := 141) (pc := 133) dL_ties_133 (by decide) (fun h133 => ?_) (fun h133 => ?_)
              · exact absurd h133 (by decide)
              · refine kw_iload (pc := 136) dL_ties_136 rfl ?_
                refine kw_goto (tgt := 143) (pc := 138) dL_ties_138 (by decide) ?_
                refine kw_istore (pc := 143) dL_ties_143 (by decide) rfl ?_
                refine kW.locs (L' := [(0, _), (1, _), (2, _), (3, _), (4, _), (6, _), (7, _), (8, _), (9, _), (10, _), (11, _), (12, _), (13, _)]) ?_ ⟨rfl, rfl, rfl, rfl, rfl, rfl, rfl, rfl, rfl, rfl, rfl, rfl, rfl, trivial⟩
                refine kw_iload (pc := 145) dL_ties_145 rfl ?_
                refine kw_if_eq (tgt := 155) (pc := 147) dL_ties_147 (by decide) (fun h147 => ?_) (fun h147 => ?_)
                · exact absurd h147 (by decide)
                · refine kw_iload (pc := 150) dL_ties_150 rfl ?_
                  refine kw_goto (tgt := 157) (pc := 152) dL_ties_152 (by decide) ?_
                  refine kw_istore (pc := 157) dL_ties_157 (by decide) rfl ?_
                  refine kW.locs (L' := [(0, _), (1, _), (2, _), (3, _), (4, _), (6, _), (7, _), (8, _), (9, _), (10, _), (11, _)]) ?_ ⟨rfl, rfl, rfl, rfl, rfl, rfl, rfl, rfl, rfl, rfl, rfl, trivial⟩
                  refine kw_iload (pc := 159) dL_ties_159 rfl ?_
                  refine kw_if_eq (tgt := 180) (pc := 161) dL_ties_161 (by decide) (fun h161 => ?_) (fun h161 => ?_)
                  · exact absurd h161 (by decide)
                  · refine kw_iload (pc := 164) dL_ties_164 rfl ?_
                    refine kw_if_lt (tgt := 180) (pc := 166) dL_ties_166 (by decide) (fun h166 => ?_) (fun h166 => ?_)
                    · have h166 := (kLtI (a := vv) (b := 0) Lvv (by decide) hv (rfl : (0 : Int32) = nI 0)).mp h166
                      exfalso; omega
                    · have h166 := mt (kLtI (a := vv) (b := 0) Lvv (by decide) hv (rfl : (0 : Int32) = nI 0)).mpr h166
                      refine kw_aload_n (pc := 169) dL_ties_169 rfl ?_
                      refine kw_callSw1 (pc := 170) dL_ties_170 lL_121 HU rfl rfl ⟨by decide, by decide, Nat.le_of_ble_eq_true rfl⟩ (fun w2 H2 => ?_)
                      refine kw_if_lt (tgt := 180) (pc := 173) dL_ties_173 (by decide) (fun h173 => ?_) (fun h173 => ?_)
                      · have h173 := (kLtI (a := u) (b := 0) (by omega) (by decide) rfl (rfl : (0 : Int32) = nI 0)).mp h173
                        exfalso; omega
                      · have h173 := mt (kLtI (a := u) (b := 0) (by omega) (by decide) rfl (rfl : (0 : Int32) = nI 0)).mpr h173
                        refine kw_iconst (v := 1) (pc := 176) dL_ties_176 (by decide) ?_
                        refine kw_goto (tgt := 181) (pc := 177) dL_ties_177 (by decide) ?_
                        refine kw_istore (pc := 181) dL_ties_181 (by decide) rfl ?_
                        refine kW.locs (L' := [(0, _), (1, _), (2, _), (3, _), (4, _), (6, _), (7, _), (8, _), (9, _), (10, _)]) ?_ ⟨rfl, rfl, rfl, rfl, rfl, rfl, rfl, rfl, rfl, rfl, trivial⟩
                        refine kw_iinc (pc := 183) dL_ties_183 (by decide) rfl rfl rfl ?_
                        refine kw_goto (tgt := 77) (pc := 186) dL_ties_186 (by decide) ?_
                        have e := wy_yes (s := s0) (P := (pa s0 (21 + 7 * p))) hv3 (eR.symm.trans h109) (by first | exact Or.inl ((wy_neg (by omega)).mp h114) | exact Or.inr (hlt2 eW (fun q => h114 ((wy_neg (by omega)).mpr q)) h121))
                        exact kW.locs (ih (3 - (v + 1)) (by omega) (v + 1) w2 rfl (by omega) H2) ⟨rfl, rfl, rfl, rfl, rfl, rfl, kgE rfl (e.2.trans eW.symm).symm, kgE rfl e.1.symm, rfl, kgE rfl (kA (a := v) (b := 1) rfl (rfl : (Int32.ofInt 1) = nI 1)), trivial⟩
  refine kw_aload_n (pc := 0) dL_ties_0 rfl ?_
  refine kw_iconst (v := 0) (pc := 1) dL_ties_1 (by decide) ?_
  refine kw_callSr (pc := 2) dL_ties_2 lL_98 (V0.countE (j := 0) h.v (rfl : (0 : Int32) = nI 0) (by decide)) rfl rfl ⟨by decide, by decide, Nat.le_of_ble_eq_true rfl⟩ ?_
  refine kw_istore_n (pc := 5) dL_ties_5 (by decide) rfl ?_
  refine kW.locs (L' := [(0, _), (1, _), (2, _), (3, _)]) ?_ ⟨rfl, rfl, rfl, rfl, trivial⟩
  refine kw_iload_n (pc := 6) dL_ties_6 rfl ?_
  refine kw_iload_n (pc := 7) dL_ties_7 rfl ?_
  refine kw_icmp_ge (tgt := 21) (pc := 8) dL_ties_8 (by decide) (fun h8 => ?_) (fun h8 => ?_)
  · have h8 := (kLeI (a := c) (b := p) Lc Lp N0.2.1 rfl).mp h8
    exfalso; omega
  · have h8 := mt (kLeI (a := c) (b := p) Lc Lp N0.2.1 rfl).mpr h8
    refine kw_iload_n (pc := 11) dL_ties_11 rfl ?_
    refine kw_iload_n (pc := 12) dL_ties_12 rfl ?_
    refine kw_icmp_ge (tgt := 21) (pc := 13) dL_ties_13 (by decide) (fun h13 => ?_) (fun h13 => ?_)
    · have h13 := (kLeI (a := c) (b := o) Lc Lo N0.2.1 rfl).mp h13
      exfalso; omega
    · have h13 := mt (kLeI (a := c) (b := o) Lc Lo N0.2.1 rfl).mpr h13
      refine kw_iload_n (pc := 16) dL_ties_16 rfl ?_
      refine kw_iload_n (pc := 17) dL_ties_17 rfl ?_
      refine kw_icmp_ne (tgt := 52) (pc := 18) dL_ties_18 (by decide) (fun h18 => ?_) (fun h18 => ?_)
      · have h18 := mt (kEqI (a := p) (b := o) Lp Lo rfl rfl).mpr h18
        refine kw_aload_n (pc := 52) dL_ties_52 rfl ?_
        refine kw_callSr (pc := 53) dL_ties_53 lL_127 (V0.print h.v) rfl rfl ⟨by decide, by decide, Nat.le_of_ble_eq_true rfl⟩ ?_
        refine kw_lstore (pc := 56) dL_ties_56 (by decide) rfl ?_
        refine kW.locs (L' := [(0, _), (1, _), (2, _), (3, _), (4, _)]) ?_ ⟨rfl, rfl, rfl, rfl, rfl, trivial⟩
        refine kw_aload_n (pc := 58) dL_ties_58 rfl ?_
        refine kw_iload_n (pc := 59) dL_ties_59 rfl ?_
        refine kw_callSr (pc := 60) dL_ties_60 lL_106 (V0.wayE (k := p) h.v rfl hp) rfl rfl ⟨by decide, by decide, Nat.le_of_ble_eq_true rfl⟩ ?_
        refine kw_istore (pc := 63) dL_ties_63 (by decide) rfl ?_
        refine kW.locs (L' := [(0, _), (1, _), (2, _), (3, _), (4, _), (6, _)]) ?_ ⟨rfl, rfl, rfl, rfl, rfl, rfl, trivial⟩
        refine kw_iconst (v := -1) (pc := 65) dL_ties_65 (by decide) ?_
        refine kw_istore (pc := 66) dL_ties_66 (by decide) rfl ?_
        refine kW.locs (L' := [(0, _), (1, _), (2, _), (3, _), (4, _), (6, _), (7, _)]) ?_ ⟨rfl, rfl, rfl, rfl, rfl, rfl, rfl, trivial⟩
        refine kw_iconst (v := -1) (pc := 68) dL_ties_68 (by decide) ?_
        refine kw_istore (pc := 69) dL_ties_69 (by decide) rfl ?_
        refine kW.locs (L' := [(0, _), (1, _), (2, _), (3, _), (4, _), (6, _), (7, _), (8, _)]) ?_ ⟨rfl, rfl, rfl, rfl, rfl, rfl, rfl, rfl, trivial⟩
        refine kw_iconst (v := 1) (pc := 71) dL_ties_71 (by decide) ?_
        refine kw_istore (pc := 72) dL_ties_72 (by decide) rfl ?_
        refine kW.locs (L' := [(0, _), (1, _), (2, _), (3, _), (4, _), (6, _), (7, _), (8, _), (9, _)]) ?_ ⟨rfl, rfl, rfl, rfl, rfl, rfl, rfl, rfl, rfl, trivial⟩
        refine kw_iconst (v := 0) (pc := 74) dL_ties_74 (by decide) ?_
        refine kw_istore (pc := 75) dL_ties_75 (by decide) rfl ?_
        exact kW.locs (loop (3 - 0) 0 w rfl (Nat.zero_le _) h) ⟨rfl, rfl, rfl, kgE rfl N0.2.1, rfl, rfl, kgE rfl leN_0.symm, kgE rfl wyR_0.symm, rfl, rfl, trivial⟩
      · have h18 := (kEqI (a := p) (b := o) Lp Lo rfl rfl).mp h18
        exfalso; omega
set_option maxRecDepth 100000 in
set_option maxHeartbeats 40000000 in
theorem K.tiesX (h : K m s0 c w) {p o : Nat} (hp2 : p < 100) (ho2 : o < 100) (hx : ¬ (p < c ∧ o < c ∧ p ≠ o)) : kCtrG mL_ties 14 1 6 [.ref 0, .int (nI p), .int (nI o)] w (.int 1) (K m s0 c) := by
  refine kCtrG.of plLw nlL_ties rfl (Nat.le_of_ble_eq_true rfl) (fun n => ?_)
  have N0 := h.ok.1
  have h7 := N0.1
  have Lc : c < 2147483648 := by omega
  have Lp : p < 2147483648 := by omega
  have Lo : o < 2147483648 := by omega
  refine kw_aload_n (pc := 0) dL_ties_0 rfl ?_
  refine kw_iconst (v := 0) (pc := 1) dL_ties_1 (by decide) ?_
  refine kw_callSr (pc := 2) dL_ties_2 lL_98 (V0.countE (j := 0) h.v (rfl : (0 : Int32) = nI 0) (by decide)) rfl rfl ⟨by decide, by decide, Nat.le_of_ble_eq_true rfl⟩ ?_
  refine kw_istore_n (pc := 5) dL_ties_5 (by decide) rfl ?_
  refine kW.locs (L' := [(0, _), (1, _), (2, _), (3, _)]) ?_ ⟨rfl, rfl, rfl, rfl, trivial⟩
  refine kw_iload_n (pc := 6) dL_ties_6 rfl ?_
  refine kw_iload_n (pc := 7) dL_ties_7 rfl ?_
  refine kw_icmp_ge (tgt := 21) (pc := 8) dL_ties_8 (by decide) (fun h8 => ?_) (fun h8 => ?_)
  · have h8 := (kLeI (a := c) (b := p) Lc Lp N0.2.1 rfl).mp h8
    refine kw_iload_n (pc := 21) dL_ties_21 rfl ?_
    refine kw_iload_n (pc := 22) dL_ties_22 rfl ?_
    refine kw_icmp_ne (tgt := 31) (pc := 23) dL_ties_23 (by decide) (fun h23 => ?_) (fun h23 => ?_)
    · have h23 := mt (kEqI (a := p) (b := o) Lp Lo rfl rfl).mpr h23
      refine kw_iconst (v := 1) (pc := 31) dL_ties_31 (by decide) ?_
      refine kw_goto (tgt := 51) (pc := 32) dL_ties_32 (by decide) ?_
      exact kw_ireturn nlL_ties (pc := 51) dL_ties_51 rfl (by first | rfl | exact b2i_z _ | exact hbool) ⟨rfl, h⟩
    · have h23 := (kEqI (a := p) (b := o) Lp Lo rfl rfl).mp h23
      refine kw_iload_n (pc := 26) dL_ties_26 rfl ?_
      refine kw_iload_n (pc := 27) dL_ties_27 rfl ?_
      refine kw_icmp_lt (tgt := 35) (pc := 28) dL_ties_28 (by decide) (fun h28 => ?_) (fun h28 => ?_)
      · have h28 := (kLtI (a := p) (b := c) Lp Lc rfl N0.2.1).mp h28
        refine kw_aload_n (pc := 35) dL_ties_35 rfl ?_
        refine kw_iload_n (pc := 36) dL_ties_36 rfl ?_
        refine kw_iload_n (pc := 37) dL_ties_37 rfl ?_
        refine kw_callSg (pc := 38) dL_ties_38 lL_131 (h.bundXE (p := p) (o := o) (by omega) (by omega)) rfl rfl ⟨by decide, by decide, Nat.le_of_ble_eq_true rfl, by decide, by decide⟩ (fun w1 n1 H1 => ?_)
        refine kw_ldc (pc := 41) dL_ties_41 gLc_25 ?_
        refine kw_icmp_ne (tgt := 50) (pc := 43) dL_ties_43 (by decide) (fun h43 => ?_) (fun h43 => ?_)
        · exact absurd (by decide) h43
        · refine kw_iconst (v := 1) (pc := 46) dL_ties_46 (by decide) ?_
          refine kw_goto (tgt := 51) (pc := 47) dL_ties_47 (by decide) ?_
          exact kw_ireturn nlL_ties (pc := 51) dL_ties_51 rfl (by first | rfl | exact b2i_z _ | exact hbool) ⟨rfl, H1⟩
      · have h28 := mt (kLtI (a := p) (b := c) Lp Lc rfl N0.2.1).mpr h28
        refine kw_iconst (v := 1) (pc := 31) dL_ties_31 (by decide) ?_
        refine kw_goto (tgt := 51) (pc := 32) dL_ties_32 (by decide) ?_
        exact kw_ireturn nlL_ties (pc := 51) dL_ties_51 rfl (by first | rfl | exact b2i_z _ | exact hbool) ⟨rfl, h⟩
  · have h8 := mt (kLeI (a := c) (b := p) Lc Lp N0.2.1 rfl).mpr h8
    refine kw_iload_n (pc := 11) dL_ties_11 rfl ?_
    refine kw_iload_n (pc := 12) dL_ties_12 rfl ?_
    refine kw_icmp_ge (tgt := 21) (pc := 13) dL_ties_13 (by decide) (fun h13 => ?_) (fun h13 => ?_)
    · have h13 := (kLeI (a := c) (b := o) Lc Lo N0.2.1 rfl).mp h13
      refine kw_iload_n (pc := 21) dL_ties_21 rfl ?_
      refine kw_iload_n (pc := 22) dL_ties_22 rfl ?_
      refine kw_icmp_ne (tgt := 31) (pc := 23) dL_ties_23 (by decide) (fun h23 => ?_) (fun h23 => ?_)
      · have h23 := mt (kEqI (a := p) (b := o) Lp Lo rfl rfl).mpr h23
        refine kw_iconst (v := 1) (pc := 31) dL_ties_31 (by decide) ?_
        refine kw_goto (tgt := 51) (pc := 32) dL_ties_32 (by decide) ?_
        exact kw_ireturn nlL_ties (pc := 51) dL_ties_51 rfl (by first | rfl | exact b2i_z _ | exact hbool) ⟨rfl, h⟩
      · have h23 := (kEqI (a := p) (b := o) Lp Lo rfl rfl).mp h23
        refine kw_iload_n (pc := 26) dL_ties_26 rfl ?_
        refine kw_iload_n (pc := 27) dL_ties_27 rfl ?_
        refine kw_icmp_lt (tgt := 35) (pc := 28) dL_ties_28 (by decide) (fun h28 => ?_) (fun h28 => ?_)
        · have h28 := (kLtI (a := p) (b := c) Lp Lc rfl N0.2.1).mp h28
          refine kw_aload_n (pc := 35) dL_ties_35 rfl ?_
          refine kw_iload_n (pc := 36) dL_ties_36 rfl ?_
          refine kw_iload_n (pc := 37) dL_ties_37 rfl ?_
          refine kw_callSg (pc := 38) dL_ties_38 lL_131 (h.bundXE (p := p) (o := o) (by omega) (by omega)) rfl rfl ⟨by decide, by decide, Nat.le_of_ble_eq_true rfl, by decide, by decide⟩ (fun w1 n1 H1 => ?_)
          refine kw_ldc (pc := 41) dL_ties_41 gLc_25 ?_
          refine kw_icmp_ne (tgt := 50) (pc := 43) dL_ties_43 (by decide) (fun h43 => ?_) (fun h43 => ?_)
          · exact absurd (by decide) h43
          · refine kw_iconst (v := 1) (pc := 46) dL_ties_46 (by decide) ?_
            refine kw_goto (tgt := 51) (pc := 47) dL_ties_47 (by decide) ?_
            exact kw_ireturn nlL_ties (pc := 51) dL_ties_51 rfl (by first | rfl | exact b2i_z _ | exact hbool) ⟨rfl, H1⟩
        · have h28 := mt (kLtI (a := p) (b := c) Lp Lc rfl N0.2.1).mpr h28
          refine kw_iconst (v := 1) (pc := 31) dL_ties_31 (by decide) ?_
          refine kw_goto (tgt := 51) (pc := 32) dL_ties_32 (by decide) ?_
          exact kw_ireturn nlL_ties (pc := 51) dL_ties_51 rfl (by first | rfl | exact b2i_z _ | exact hbool) ⟨rfl, h⟩
    · have h13 := mt (kLeI (a := c) (b := o) Lc Lo N0.2.1 rfl).mpr h13
      refine kw_iload_n (pc := 16) dL_ties_16 rfl ?_
      refine kw_iload_n (pc := 17) dL_ties_17 rfl ?_
      refine kw_icmp_ne (tgt := 52) (pc := 18) dL_ties_18 (by decide) (fun h18 => ?_) (fun h18 => ?_)
      · have h18 := mt (kEqI (a := p) (b := o) Lp Lo rfl rfl).mpr h18
        exfalso; omega
      · have h18 := (kEqI (a := p) (b := o) Lp Lo rfl rfl).mp h18
        refine kw_iload_n (pc := 21) dL_ties_21 rfl ?_
        refine kw_iload_n (pc := 22) dL_ties_22 rfl ?_
        refine kw_icmp_ne (tgt := 31) (pc := 23) dL_ties_23 (by decide) (fun h23 => ?_) (fun h23 => ?_)
        · have h23 := mt (kEqI (a := p) (b := o) Lp Lo rfl rfl).mpr h23
          refine kw_iconst (v := 1) (pc := 31) dL_ties_31 (by decide) ?_
          refine kw_goto (tgt := 51) (pc := 32) dL_ties_32 (by decide) ?_
          exact kw_ireturn nlL_ties (pc := 51) dL_ties_51 rfl (by first | rfl | exact b2i_z _ | exact hbool) ⟨rfl, h⟩
        · have h23 := (kEqI (a := p) (b := o) Lp Lo rfl rfl).mp h23
          refine kw_iload_n (pc := 26) dL_ties_26 rfl ?_
          refine kw_iload_n (pc := 27) dL_ties_27 rfl ?_
          refine kw_icmp_lt (tgt := 35) (pc := 28) dL_ties_28 (by decide) (fun h28 => ?_) (fun h28 => ?_)
          · have h28 := (kLtI (a := p) (b := c) Lp Lc rfl N0.2.1).mp h28
            refine kw_aload_n (pc := 35) dL_ties_35 rfl ?_
            refine kw_iload_n (pc := 36) dL_ties_36 rfl ?_
            refine kw_iload_n (pc := 37) dL_ties_37 rfl ?_
            refine kw_callSg (pc := 38) dL_ties_38 lL_131 (h.bundXE (p := p) (o := o) (by omega) (by omega)) rfl rfl ⟨by decide, by decide, Nat.le_of_ble_eq_true rfl, by decide, by decide⟩ (fun w1 n1 H1 => ?_)
            refine kw_ldc (pc := 41) dL_ties_41 gLc_25 ?_
            refine kw_icmp_ne (tgt := 50) (pc := 43) dL_ties_43 (by decide) (fun h43 => ?_) (fun h43 => ?_)
            · exact absurd (by decide) h43
            · refine kw_iconst (v := 1) (pc := 46) dL_ties_46 (by decide) ?_
              refine kw_goto (tgt := 51) (pc := 47) dL_ties_47 (by decide) ?_
              exact kw_ireturn nlL_ties (pc := 51) dL_ties_51 rfl (by first | rfl | exact b2i_z _ | exact hbool) ⟨rfl, H1⟩
          · have h28 := mt (kLtI (a := p) (b := c) Lp Lc rfl N0.2.1).mpr h28
            refine kw_iconst (v := 1) (pc := 31) dL_ties_31 (by decide) ?_
            refine kw_goto (tgt := 51) (pc := 32) dL_ties_32 (by decide) ?_
            exact kw_ireturn nlL_ties (pc := 51) dL_ties_51 rfl (by first | rfl | exact b2i_z _ | exact hbool) ⟨rfl, h⟩
theorem K.ties (h : K m s0 c w) {p o : Nat} (hp : p < 100) (ho : o < 100) : kCtrG mL_ties 14 1 6 [.ref 0, .int (nI p), .int (nI o)] w (.int 1) (K m s0 c) := by
  by_cases e : p < c ∧ o < c ∧ p ≠ o
  · exact h.tiesP e.1 e.2.1 e.2.2
  · exact h.tiesX hp ho e
end TY
