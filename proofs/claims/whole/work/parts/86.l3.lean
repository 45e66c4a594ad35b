set_option maxRecDepth 100000 in
set_option maxHeartbeats 4000000 in
theorem lw_bring {X : Nat × (Nat → Int32)} {rc rs n i : Nat} {w : kM} {s : Nat → Int32} {q : Nat} {kp bf : Nat → Int32} {T c : Nat} (hi : i + 6 ≤ X.1) (hX : X.1 ≤ 3072) (hrc : 1 ≤ rc) (hrs : 6 ≤ rs) (J : JS w s q kp bf T c) (O : opOK mL_bring mX6_bring [.int (X.2 (i + 1)), .int (X.2 (i + 2)), .int (X.2 (i + 3)), .int (X.2 (i + 4)), .int (X.2 (i + 5))] w s q kp bf T) (K : KK X rc rs i) : kW X mL_law 14 QL rc rs n w 156 (L5 i) [] := by
  refine kw_aload_n (pc := 156) dL_law_156 rfl ?_
  refine kw_aload_nS (pc := 157) dL_law_157 rfl ?_
  refine kw_iload (pc := 158) dL_law_158 rfl ?_
  refine kw_iconst (v := 1) (pc := 160) dL_law_160 (by decide) ?_
  refine kw_iadd (pc := 161) dL_law_161 ?_
  refine kw_sldN (pc := 162) (i := i + 1) rfl dL_law_162 (kA (a := i) (b := 1) rfl (rfl : (1 : Int32) = nI 1)) (by omega) hX ?_
  refine kw_aload_nS (pc := 163) dL_law_163 rfl ?_
  refine kw_iload (pc := 164) dL_law_164 rfl ?_
  refine kw_iconst (v := 2) (pc := 166) dL_law_166 (by decide) ?_
  refine kw_iadd (pc := 167) dL_law_167 ?_
  refine kw_sldN (pc := 168) (i := i + 2) rfl dL_law_168 (kA (a := i) (b := 2) rfl (rfl : (2 : Int32) = nI 2)) (by omega) hX ?_
  refine kw_aload_nS (pc := 169) dL_law_169 rfl ?_
  refine kw_iload (pc := 170) dL_law_170 rfl ?_
  refine kw_iconst (v := 3) (pc := 172) dL_law_172 (by decide) ?_
  refine kw_iadd (pc := 173) dL_law_173 ?_
  refine kw_sldN (pc := 174) (i := i + 3) rfl dL_law_174 (kA (a := i) (b := 3) rfl (rfl : (3 : Int32) = nI 3)) (by omega) hX ?_
  refine kw_aload_nS (pc := 175) dL_law_175 rfl ?_
  refine kw_iload (pc := 176) dL_law_176 rfl ?_
  refine kw_iconst (v := 4) (pc := 178) dL_law_178 (by decide) ?_
  refine kw_iadd (pc := 179) dL_law_179 ?_
  refine kw_sldN (pc := 180) (i := i + 4) rfl dL_law_180 (kA (a := i) (b := 4) rfl (rfl : (4 : Int32) = nI 4)) (by omega) hX ?_
  refine kw_aload_nS (pc := 181) dL_law_181 rfl ?_
  refine kw_iload (pc := 182) dL_law_182 rfl ?_
  refine kw_iconst (v := 5) (pc := 184) dL_law_184 (by decide) ?_
  refine kw_iadd (pc := 185) dL_law_185 ?_
  refine kw_sldN (pc := 186) (i := i + 5) rfl dL_law_186 (kA (a := i) (b := 5) rfl (rfl : (5 : Int32) = nI 5)) (by omega) hX ?_
  refine kw_aload_n (pc := 187) dL_law_187 rfl ?_
  obtain ⟨z, v, s1, q1, kp1, bf1, T1, c1, ok1, tx1, hH, hMo⟩ := O
  refine kw_callSh (pc := 188) dL_law_188 lL_84 hH rfl rfl ⟨by decide, by decide, Nat.le_of_ble_eq_true rfl, hrc, hrs⟩ (fun w1 n1 hC1 => ?_)
  obtain ⟨C1, F1, f, hf, hz⟩ := hC1
  have M1 := J.2.1.fr (w' := w1) (fun a h1 h2 => F1 a h1 (by omega))
  obtain ⟨d, u, hd, hu, hM⟩ := hMo w1 M1
  obtain ⟨FM, hFM⟩ := M1.ob
  refine kw_istore (pc := 191) dL_law_191 (by decide) rfl ?_
  refine kw_aload_n (pc := 193) dL_law_193 rfl ?_
  refine kw_aload_nS (pc := 194) dL_law_194 rfl ?_
  refine kw_iload (pc := 195) dL_law_195 rfl ?_
  refine kw_iconst (v := 1) (pc := 197) dL_law_197 (by decide) ?_
  refine kw_iadd (pc := 198) dL_law_198 ?_
  refine kw_sldN (pc := 199) (i := i + 1) rfl dL_law_199 (kA (a := i) (b := 1) rfl (rfl : (1 : Int32) = nI 1)) (by omega) hX ?_
  refine kw_aload_nS (pc := 200) dL_law_200 rfl ?_
  refine kw_iload (pc := 201) dL_law_201 rfl ?_
  refine kw_iconst (v := 2) (pc := 203) dL_law_203 (by decide) ?_
  refine kw_iadd (pc := 204) dL_law_204 ?_
  refine kw_sldN (pc := 205) (i := i + 2) rfl dL_law_205 (kA (a := i) (b := 2) rfl (rfl : (2 : Int32) = nI 2)) (by omega) hX ?_
  refine kw_aload_nS (pc := 206) dL_law_206 rfl ?_
  refine kw_iload (pc := 207) dL_law_207 rfl ?_
  refine kw_iconst (v := 3) (pc := 209) dL_law_209 (by decide) ?_
  refine kw_iadd (pc := 210) dL_law_210 ?_
  refine kw_sldN (pc := 211) (i := i + 3) rfl dL_law_211 (kA (a := i) (b := 3) rfl (rfl : (3 : Int32) = nI 3)) (by omega) hX ?_
  refine kw_aload_nS (pc := 212) dL_law_212 rfl ?_
  refine kw_iload (pc := 213) dL_law_213 rfl ?_
  refine kw_iconst (v := 4) (pc := 215) dL_law_215 (by decide) ?_
  refine kw_iadd (pc := 216) dL_law_216 ?_
  refine kw_sldN (pc := 217) (i := i + 4) rfl dL_law_217 (kA (a := i) (b := 4) rfl (rfl : (4 : Int32) = nI 4)) (by omega) hX ?_
  refine kw_aload_nS (pc := 218) dL_law_218 rfl ?_
  refine kw_iload (pc := 219) dL_law_219 rfl ?_
  refine kw_iconst (v := 5) (pc := 221) dL_law_221 (by decide) ?_
  refine kw_iadd (pc := 222) dL_law_222 ?_
  refine kw_sldN (pc := 223) (i := i + 5) rfl dL_law_223 (kA (a := i) (b := 5) rfl (rfl : (5 : Int32) = nI 5)) (by omega) hX ?_
  refine kw_callVw1 (pc := 224) dL_law_224 lL_89 hM hFM rfl rfl rfl ⟨by omega, by decide, Nat.le_of_ble_eq_true rfl⟩ (fun w2 hw2 => ?_)
  obtain ⟨s2, co2, ma2, sp2, e2, ha2⟩ := hw2
  have J2 := JS.next C1 ⟨f, hf⟩ e2 ha2 ok1 tx1
  refine kw_istore (pc := 227) dL_law_227 (by decide) rfl ?_
  refine kw_aload_n (pc := 229) dL_law_229 rfl ?_
  refine kw_callVr (pc := 230) dL_law_230 lL_90 (th_of e2) (ob_of e2) rfl rfl rfl ⟨by decide, by decide, Nat.le_of_ble_eq_true rfl⟩ ?_
  refine kw_iload (pc := 233) dL_law_233 rfl ?_
  refine kw_icmp_eq (tgt := 240) (pc := 235) dL_law_235 (by decide) (fun _ => ?_) (fun h => absurd rfl h)
  refine kw_iload (pc := 240) dL_law_240 rfl ?_
  refine kw_if_ne (tgt := 257) (pc := 242) dL_law_242 (by decide) (fun _ => ?_) (fun h0 => ?_)
  · refine kw_goto (tgt := 1502) (pc := 257) dL_law_257 (by decide) ?_
    exact kW.locs (K w2 n1 s2 q1 kp1 bf1 T1 c1 J2) ⟨rfl, rfl, rfl, rfl, rfl, trivial⟩
  · refine kw_aload_n (pc := 245) dL_law_245 rfl ?_
    refine kw_iconst (v := 0) (pc := 246) dL_law_246 (by decide) ?_
    refine kw_laload (pc := 247) dL_law_247 (outW_mM e2 hf) vp01 ?_
    refine kw_iload (pc := 248) dL_law_248 rfl ?_
    refine kw_i2l (pc := 250) dL_law_250 ?_
    refine kw_lcmp (pc := 251) dL_law_251 ?_
    refine kw_if_eq (tgt := 257) (pc := 252) dL_law_252 (by decide) (fun _ => ?_) (fun h => absurd (by rw [show (0 : Int32).toNatClampNeg = 0 by decide, hz h0, hu h0]; exact lgc0) h)
    · refine kw_goto (tgt := 1502) (pc := 257) dL_law_257 (by decide) ?_
      exact kW.locs (K w2 n1 s2 q1 kp1 bf1 T1 c1 J2) ⟨rfl, rfl, rfl, rfl, rfl, trivial⟩
set_option maxRecDepth 100000 in
set_option maxHeartbeats 4000000 in
theorem lw_change {X : Nat × (Nat → Int32)} {rc rs n i : Nat} {w : kM} {s : Nat → Int32} {q : Nat} {kp bf : Nat → Int32} {T c : Nat} (hi : i + 6 ≤ X.1) (hX : X.1 ≤ 3072) (hrc : 1 ≤ rc) (hrs : 6 ≤ rs) (J : JS w s q kp bf T c) (O : opOK mL_change mX6_change [.int (X.2 (i + 1)), .int (X.2 (i + 2)), .int (X.2 (i + 3))] w s q kp bf T) (K : KK X rc rs i) : kW X mL_law 14 QL rc rs n w 260 (L5 i) [] := by
  refine kw_aload_n (pc := 260) dL_law_260 rfl ?_
  refine kw_aload_nS (pc := 261) dL_law_261 rfl ?_
  refine kw_iload (pc := 262) dL_law_262 rfl ?_
  refine kw_iconst (v := 1) (pc := 264) dL_law_264 (by decide) ?_
  refine kw_iadd (pc := 265) dL_law_265 ?_
  refine kw_sldN (pc := 266) (i := i + 1) rfl dL_law_266 (kA (a := i) (b := 1) rfl (rfl : (1 : Int32) = nI 1)) (by omega) hX ?_
  refine kw_aload_nS (pc := 267) dL_law_267 rfl ?_
  refine kw_iload (pc := 268) dL_law_268 rfl ?_
  refine kw_iconst (v := 2) (pc := 270) dL_law_270 (by decide) ?_
  refine kw_iadd (pc := 271) dL_law_271 ?_
  refine kw_sldN (pc := 272) (i := i + 2) rfl dL_law_272 (kA (a := i) (b := 2) rfl (rfl : (2 : Int32) = nI 2)) (by omega) hX ?_
  refine kw_aload_nS (pc := 273) dL_law_273 rfl ?_
  refine kw_iload (pc := 274) dL_law_274 rfl ?_
  refine kw_iconst (v := 3) (pc := 276) dL_law_276 (by decide) ?_
  refine kw_iadd (pc := 277) dL_law_277 ?_
  refine kw_sldN (pc := 278) (i := i + 3) rfl dL_law_278 (kA (a := i) (b := 3) rfl (rfl : (3 : Int32) = nI 3)) (by omega) hX ?_
  refine kw_aload_n (pc := 279) dL_law_279 rfl ?_
  obtain ⟨z, v, s1, q1, kp1, bf1, T1, c1, ok1, tx1, hH, hMo⟩ := O
  refine kw_callSh (pc := 280) dL_law_280 lL_93 hH rfl rfl ⟨by decide, by decide, Nat.le_of_ble_eq_true rfl, hrc, hrs⟩ (fun w1 n1 hC1 => ?_)
  obtain ⟨C1, F1, f, hf, hz⟩ := hC1
  have M1 := J.2.1.fr (w' := w1) (fun a h1 h2 => F1 a h1 (by omega))
  obtain ⟨d, u, hd, hu, hM⟩ := hMo w1 M1
  obtain ⟨FM, hFM⟩ := M1.ob
  refine kw_istore (pc := 283) dL_law_283 (by decide) rfl ?_
  refine kw_aload_n (pc := 285) dL_law_285 rfl ?_
  refine kw_aload_nS (pc := 286) dL_law_286 rfl ?_
  refine kw_iload (pc := 287) dL_law_287 rfl ?_
  refine kw_iconst (v := 1) (pc := 289) dL_law_289 (by decide) ?_
  refine kw_iadd (pc := 290) dL_law_290 ?_
  refine kw_sldN (pc := 291) (i := i + 1) rfl dL_law_291 (kA (a := i) (b := 1) rfl (rfl : (1 : Int32) = nI 1)) (by omega) hX ?_
  refine kw_aload_nS (pc := 292) dL_law_292 rfl ?_
  refine kw_iload (pc := 293) dL_law_293 rfl ?_
  refine kw_iconst (v := 2) (pc := 295) dL_law_295 (by decide) ?_
  refine kw_iadd (pc := 296) dL_law_296 ?_
  refine kw_sldN (pc := 297) (i := i + 2) rfl dL_law_297 (kA (a := i) (b := 2) rfl (rfl : (2 : Int32) = nI 2)) (by omega) hX ?_
  refine kw_aload_nS (pc := 298) dL_law_298 rfl ?_
  refine kw_iload (pc := 299) dL_law_299 rfl ?_
  refine kw_iconst (v := 3) (pc := 301) dL_law_301 (by decide) ?_
  refine kw_iadd (pc := 302) dL_law_302 ?_
  refine kw_sldN (pc := 303) (i := i + 3) rfl dL_law_303 (kA (a := i) (b := 3) rfl (rfl : (3 : Int32) = nI 3)) (by omega) hX ?_
  refine kw_callVw1 (pc := 304) dL_law_304 lL_96 hM hFM rfl rfl rfl ⟨by omega, by decide, Nat.le_of_ble_eq_true rfl⟩ (fun w2 hw2 => ?_)
  obtain ⟨s2, co2, ma2, sp2, e2, ha2⟩ := hw2
  have J2 := JS.next C1 ⟨f, hf⟩ e2 ha2 ok1 tx1
  refine kw_istore (pc := 307) dL_law_307 (by decide) rfl ?_
  refine kw_aload_n (pc := 309) dL_law_309 rfl ?_
  refine kw_callVr (pc := 310) dL_law_310 lL_90 (th_of e2) (ob_of e2) rfl rfl rfl ⟨by decide, by decide, Nat.le_of_ble_eq_true rfl⟩ ?_
  refine kw_iload (pc := 313) dL_law_313 rfl ?_
  refine kw_icmp_eq (tgt := 320) (pc := 315) dL_law_315 (by decide) (fun _ => ?_) (fun h => absurd rfl h)
  refine kw_iload (pc := 320) dL_law_320 rfl ?_
  refine kw_if_ne (tgt := 337) (pc := 322) dL_law_322 (by decide) (fun _ => ?_) (fun h0 => ?_)
  · refine kw_goto (tgt := 1502) (pc := 337) dL_law_337 (by decide) ?_
    exact kW.locs (K w2 n1 s2 q1 kp1 bf1 T1 c1 J2) ⟨rfl, rfl, rfl, rfl, rfl, trivial⟩
  · refine kw_aload_n (pc := 325) dL_law_325 rfl ?_
    refine kw_iconst (v := 0) (pc := 326) dL_law_326 (by decide) ?_
    refine kw_laload (pc := 327) dL_law_327 (outW_mM e2 hf) vp01 ?_
    refine kw_iload (pc := 328) dL_law_328 rfl ?_
    refine kw_i2l (pc := 330) dL_law_330 ?_
    refine kw_lcmp (pc := 331) dL_law_331 ?_
    refine kw_if_eq (tgt := 337) (pc := 332) dL_law_332 (by decide) (fun _ => ?_) (fun h => absurd (by rw [show (0 : Int32).toNatClampNeg = 0 by decide, hz h0, hu h0]; exact lgc0) h)
    · refine kw_goto (tgt := 1502) (pc := 337) dL_law_337 (by decide) ?_
      exact kW.locs (K w2 n1 s2 q1 kp1 bf1 T1 c1 J2) ⟨rfl, rfl, rfl, rfl, rfl, trivial⟩
set_option maxRecDepth 100000 in
set_option maxHeartbeats 4000000 in
theorem lw_send {X : Nat × (Nat → Int32)} {rc rs n i : Nat} {w : kM} {s : Nat → Int32} {q : Nat} {kp bf : Nat → Int32} {T c : Nat} (hi : i + 6 ≤ X.1) (hX : X.1 ≤ 3072) (hrc : 1 ≤ rc) (hrs : 6 ≤ rs) (J : JS w s q kp bf T c) (O : opOK mL_send mX6_send [.int (X.2 (i + 1))] w s q kp bf T) (K : KK X rc rs i) : kW X mL_law 14 QL rc rs n w 340 (L5 i) [] := by
  refine kw_aload_n (pc := 340) dL_law_340 rfl ?_
  refine kw_aload_nS (pc := 341) dL_law_341 rfl ?_
  refine kw_iload (pc := 342) dL_law_342 rfl ?_
  refine kw_iconst (v := 1) (pc := 344) dL_law_344 (by decide) ?_
  refine kw_iadd (pc := 345) dL_law_345 ?_
  refine kw_sldN (pc := 346) (i := i + 1) rfl dL_law_346 (kA (a := i) (b := 1) rfl (rfl : (1 : Int32) = nI 1)) (by omega) hX ?_
  refine kw_aload_n (pc := 347) dL_law_347 rfl ?_
  obtain ⟨z, v, s1, q1, kp1, bf1, T1, c1, ok1, tx1, hH, hMo⟩ := O
  refine kw_callSh (pc := 348) dL_law_348 lL_97 hH rfl rfl ⟨by decide, by decide, Nat.le_of_ble_eq_true rfl, hrc, hrs⟩ (fun w1 n1 hC1 => ?_)
  obtain ⟨C1, F1, f, hf, hz⟩ := hC1
  have M1 := J.2.1.fr (w' := w1) (fun a h1 h2 => F1 a h1 (by omega))
  obtain ⟨d, u, hd, hu, hM⟩ := hMo w1 M1
  obtain ⟨FM, hFM⟩ := M1.ob
  refine kw_istore (pc := 351) dL_law_351 (by decide) rfl ?_
  refine kw_aload_n (pc := 353) dL_law_353 rfl ?_
  refine kw_aload_nS (pc := 354) dL_law_354 rfl ?_
  refine kw_iload (pc := 355) dL_law_355 rfl ?_
  refine kw_iconst (v := 1) (pc := 357) dL_law_357 (by decide) ?_
  refine kw_iadd (pc := 358) dL_law_358 ?_
  refine kw_sldN (pc := 359) (i := i + 1) rfl dL_law_359 (kA (a := i) (b := 1) rfl (rfl : (1 : Int32) = nI 1)) (by omega) hX ?_
  refine kw_callVw1 (pc := 360) dL_law_360 lL_100 hM hFM rfl rfl rfl ⟨by omega, by decide, Nat.le_of_ble_eq_true rfl⟩ (fun w2 hw2 => ?_)
  obtain ⟨s2, co2, ma2, sp2, e2, ha2⟩ := hw2
  have J2 := JS.next C1 ⟨f, hf⟩ e2 ha2 ok1 tx1
  refine kw_istore (pc := 363) dL_law_363 (by decide) rfl ?_
  refine kw_aload_n (pc := 365) dL_law_365 rfl ?_
  refine kw_callVr (pc := 366) dL_law_366 lL_90 (th_of e2) (ob_of e2) rfl rfl rfl ⟨by decide, by decide, Nat.le_of_ble_eq_true rfl⟩ ?_
  refine kw_iload (pc := 369) dL_law_369 rfl ?_
  refine kw_icmp_eq (tgt := 376) (pc := 371) dL_law_371 (by decide) (fun _ => ?_) (fun h => absurd rfl h)
  refine kw_iload (pc := 376) dL_law_376 rfl ?_
  refine kw_if_ne (tgt := 393) (pc := 378) dL_law_378 (by decide) (fun _ => ?_) (fun h0 => ?_)
  · refine kw_goto (tgt := 1502) (pc := 393) dL_law_393 (by decide) ?_
    exact kW.locs (K w2 n1 s2 q1 kp1 bf1 T1 c1 J2) ⟨rfl, rfl, rfl, rfl, rfl, trivial⟩
  · refine kw_aload_n (pc := 381) dL_law_381 rfl ?_
    refine kw_iconst (v := 0) (pc := 382) dL_law_382 (by decide) ?_
    refine kw_laload (pc := 383) dL_law_383 (outW_mM e2 hf) vp01 ?_
    refine kw_iload (pc := 384) dL_law_384 rfl ?_
    refine kw_i2l (pc := 386) dL_law_386 ?_
    refine kw_lcmp (pc := 387) dL_law_387 ?_
    refine kw_if_eq (tgt := 393) (pc := 388) dL_law_388 (by decide) (fun _ => ?_) (fun h => absurd (by rw [show (0 : Int32).toNatClampNeg = 0 by decide, hz h0, hu h0]; exact lgc0) h)
    · refine kw_goto (tgt := 1502) (pc := 393) dL_law_393 (by decide) ?_
      exact kW.locs (K w2 n1 s2 q1 kp1 bf1 T1 c1 J2) ⟨rfl, rfl, rfl, rfl, rfl, trivial⟩
set_option maxRecDepth 100000 in
set_option maxHeartbeats 4000000 in
theorem lw_dispute {X : Nat × (Nat → Int32)} {rc rs n i : Nat} {w : kM} {s : Nat → Int32} {q : Nat} {kp bf : Nat → Int32} {T c : Nat} (hi : i + 6 ≤ X.1) (hX : X.1 ≤ 3072) (hrc : 1 ≤ rc) (hrs : 6 ≤ rs) (J : JS w s q kp bf T c) (O : opOK mL_dispute mX6_dispute [.int (X.2 (i + 1)), .int (X.2 (i + 2))] w s q kp bf T) (K : KK X rc rs i) : kW X mL_law 14 QL rc rs n w 396 (L5 i) [] := by
  refine kw_aload_n (pc := 396) dL_law_396 rfl ?_
  refine kw_aload_nS (pc := 397) dL_law_397 rfl ?_
  refine kw_iload (pc := 398) dL_law_398 rfl ?_
  refine kw_iconst (v := 1) (pc := 400) dL_law_400 (by decide) ?_
  refine kw_iadd (pc := 401) dL_law_401 ?_
  refine kw_sldN (pc := 402) (i := i + 1) rfl dL_law_402 (kA (a := i) (b := 1) rfl (rfl : (1 : Int32) = nI 1)) (by omega) hX ?_
  refine kw_aload_nS (pc := 403) dL_law_403 rfl ?_
  refine kw_iload (pc := 404) dL_law_404 rfl ?_
  refine kw_iconst (v := 2) (pc := 406) dL_law_406 (by decide) ?_
  refine kw_iadd (pc := 407) dL_law_407 ?_
  refine kw_sldN (pc := 408) (i := i + 2) rfl dL_law_408 (kA (a := i) (b := 2) rfl (rfl : (2 : Int32) = nI 2)) (by omega) hX ?_
  refine kw_aload_n (pc := 409) dL_law_409 rfl ?_
  obtain ⟨z, v, s1, q1, kp1, bf1, T1, c1, ok1, tx1, hH, hMo⟩ := O
  refine kw_callSh (pc := 410) dL_law_410 lL_101 hH rfl rfl ⟨by decide, by decide, Nat.le_of_ble_eq_true rfl, hrc, hrs⟩ (fun w1 n1 hC1 => ?_)
  obtain ⟨C1, F1, f, hf, hz⟩ := hC1
  have M1 := J.2.1.fr (w' := w1) (fun a h1 h2 => F1 a h1 (by omega))
  obtain ⟨d, u, hd, hu, hM⟩ := hMo w1 M1
  obtain ⟨FM, hFM⟩ := M1.ob
  refine kw_istore (pc := 413) dL_law_413 (by decide) rfl ?_
  refine kw_aload_n (pc := 415) dL_law_415 rfl ?_
  refine kw_aload_nS (pc := 416) dL_law_416 rfl ?_
  refine kw_iload (pc := 417) dL_law_417 rfl ?_
  refine kw_iconst (v := 1) (pc := 419) dL_law_419 (by decide) ?_
  refine kw_iadd (pc := 420) dL_law_420 ?_
  refine kw_sldN (pc := 421) (i := i + 1) rfl dL_law_421 (kA (a := i) (b := 1) rfl (rfl : (1 : Int32) = nI 1)) (by omega) hX ?_
  refine kw_aload_nS (pc := 422) dL_law_422 rfl ?_
  refine kw_iload (pc := 423) dL_law_423 rfl ?_
  refine kw_iconst (v := 2) (pc := 425) dL_law_425 (by decide) ?_
  refine kw_iadd (pc := 426) dL_law_426 ?_
  refine kw_sldN (pc := 427) (i := i + 2) rfl dL_law_427 (kA (a := i) (b := 2) rfl (rfl : (2 : Int32) = nI 2)) (by omega) hX ?_
  refine kw_callVw1 (pc := 428) dL_law_428 lL_104 hM hFM rfl rfl rfl ⟨by omega, by decide, Nat.le_of_ble_eq_true rfl⟩ (fun w2 hw2 => ?_)
  obtain ⟨s2, co2, ma2, sp2, e2, ha2⟩ := hw2
  have J2 := JS.next C1 ⟨f, hf⟩ e2 ha2 ok1 tx1
  refine kw_istore (pc := 431) dL_law_431 (by decide) rfl ?_
  refine kw_aload_n (pc := 433) dL_law_433 rfl ?_
  refine kw_callVr (pc := 434) dL_law_434 lL_90 (th_of e2) (ob_of e2) rfl rfl rfl ⟨by decide, by decide, Nat.le_of_ble_eq_true rfl⟩ ?_
  refine kw_iload (pc := 437) dL_law_437 rfl ?_
  refine kw_icmp_eq (tgt := 444) (pc := 439) dL_law_439 (by decide) (fun _ => ?_) (fun h => absurd rfl h)
  refine kw_iload (pc := 444) dL_law_444 rfl ?_
  refine kw_if_ne (tgt := 461) (pc := 446) dL_law_446 (by decide) (fun _ => ?_) (fun h0 => ?_)
  · refine kw_goto (tgt := 1502) (pc := 461) dL_law_461 (by decide) ?_
    exact kW.locs (K w2 n1 s2 q1 kp1 bf1 T1 c1 J2) ⟨rfl, rfl, rfl, rfl, rfl, trivial⟩
  · refine kw_aload_n (pc := 449) dL_law_449 rfl ?_
    refine kw_iconst (v := 0) (pc := 450) dL_law_450 (by decide) ?_
    refine kw_laload (pc := 451) dL_law_451 (outW_mM e2 hf) vp01 ?_
    refine kw_iload (pc := 452) dL_law_452 rfl ?_
    refine kw_i2l (pc := 454) dL_law_454 ?_
    refine kw_lcmp (pc := 455) dL_law_455 ?_
    refine kw_if_eq (tgt := 461) (pc := 456) dL_law_456 (by decide) (fun _ => ?_) (fun h => absurd (by rw [show (0 : Int32).toNatClampNeg = 0 by decide, hz h0, hu h0]; exact lgc0) h)
    · refine kw_goto (tgt := 1502) (pc := 461) dL_law_461 (by decide) ?_
      exact kW.locs (K w2 n1 s2 q1 kp1 bf1 T1 c1 J2) ⟨rfl, rfl, rfl, rfl, rfl, trivial⟩
set_option maxRecDepth 100000 in
set_option maxHeartbeats 4000000 in
theorem lw_takeBack {X : Nat × (Nat → Int32)} {rc rs n i : Nat} {w : kM} {s : Nat → Int32} {q : Nat} {kp bf : Nat → Int32} {T c : Nat} (hi : i + 6 ≤ X.1) (hX : X.1 ≤ 3072) (hrc : 1 ≤ rc) (hrs : 6 ≤ rs) (J : JS w s q kp bf T c) (O : opOK mL_takeBack mX6_takeBack [.int (X.2 (i + 1))] w s q kp bf T) (K : KK X rc rs i) : kW X mL_law 14 QL rc rs n w 464 (L5 i) [] := by
  refine kw_aload_n (pc := 464) dL_law_464 rfl ?_
  refine kw_aload_nS (pc := 465) dL_law_465 rfl ?_
  refine kw_iload (pc := 466) dL_law_466 rfl ?_
  refine kw_iconst (v := 1) (pc := 468) dL_law_468 (by decide) ?_
  refine kw_iadd (pc := 469) dL_law_469 ?_
  refine kw_sldN (pc := 470) (i := i + 1) rfl dL_law_470 (kA (a := i) (b := 1) rfl (rfl : (1 : Int32) = nI 1)) (by omega) hX ?_
  refine kw_aload_n (pc := 471) dL_law_471 rfl ?_
  obtain ⟨z, v, s1, q1, kp1, bf1, T1, c1, ok1, tx1, hH, hMo⟩ := O
  refine kw_callSh (pc := 472) dL_law_472 lL_105 hH rfl rfl ⟨by decide, by decide, Nat.le_of_ble_eq_true rfl, hrc, hrs⟩ (fun w1 n1 hC1 => ?_)
  obtain ⟨C1, F1, f, hf, hz⟩ := hC1
  have M1 := J.2.1.fr (w' := w1) (fun a h1 h2 => F1 a h1 (by omega))
  obtain ⟨d, u, hd, hu, hM⟩ := hMo w1 M1
  obtain ⟨FM, hFM⟩ := M1.ob
  refine kw_istore (pc := 475) dL_law_475 (by decide) rfl ?_
  refine kw_aload_n (pc := 477) dL_law_477 rfl ?_
  refine kw_aload_nS (pc := 478) dL_law_478 rfl ?_
  refine kw_iload (pc := 479) dL_law_479 rfl ?_
  refine kw_iconst (v := 1) (pc := 481) dL_law_481 (by decide) ?_
  refine kw_iadd (pc := 482) dL_law_482 ?_
  refine kw_sldN (pc := 483) (i := i + 1) rfl dL_law_483 (kA (a := i) (b := 1) rfl (rfl : (1 : Int32) = nI 1)) (by omega) hX ?_
  refine kw_callVw1 (pc := 484) dL_law_484 lL_107 hM hFM rfl rfl rfl ⟨by omega, by decide, Nat.le_of_ble_eq_true rfl⟩ (fun w2 hw2 => ?_)
  obtain ⟨s2, co2, ma2, sp2, e2, ha2⟩ := hw2
  have J2 := JS.next C1 ⟨f, hf⟩ e2 ha2 ok1 tx1
  refine kw_istore (pc := 487) dL_law_487 (by decide) rfl ?_
  refine kw_aload_n (pc := 489) dL_law_489 rfl ?_
  refine kw_callVr (pc := 490) dL_law_490 lL_90 (th_of e2) (ob_of e2) rfl rfl rfl ⟨by decide, by decide, Nat.le_of_ble_eq_true rfl⟩ ?_
  refine kw_iload (pc := 493) dL_law_493 rfl ?_
  refine kw_icmp_eq (tgt := 500) (pc := 495) dL_law_495 (by decide) (fun _ => ?_) (fun h => absurd rfl h)
  refine kw_iload (pc := 500) dL_law_500 rfl ?_
  refine kw_if_ne (tgt := 517) (pc := 502) dL_law_502 (by decide) (fun _ => ?_) (fun h0 => ?_)
  · refine kw_goto (tgt := 1502) (pc := 517) dL_law_517 (by decide) ?_
    exact kW.locs (K w2 n1 s2 q1 kp1 bf1 T1 c1 J2) ⟨rfl, rfl, rfl, rfl, rfl, trivial⟩
  · refine kw_aload_n (pc := 505) dL_law_505 rfl ?_
    refine kw_iconst (v := 0) (pc := 506) dL_law_506 (by decide) ?_
    refine kw_laload (pc := 507) dL_law_507 (outW_mM e2 hf) vp01 ?_
    refine kw_iload (pc := 508) dL_law_508 rfl ?_
    refine kw_i2l (pc := 510) dL_law_510 ?_
    refine kw_lcmp (pc := 511) dL_law_511 ?_
    refine kw_if_eq (tgt := 517) (pc := 512) dL_law_512 (by decide) (fun _ => ?_) (fun h => absurd (by rw [show (0 : Int32).toNatClampNeg = 0 by decide, hz h0, hu h0]; exact lgc0) h)
    · refine kw_goto (tgt := 1502) (pc := 517) dL_law_517 (by decide) ?_
      exact kW.locs (K w2 n1 s2 q1 kp1 bf1 T1 c1 J2) ⟨rfl, rfl, rfl, rfl, rfl, trivial⟩
set_option maxRecDepth 100000 in
set_option maxHeartbeats 4000000 in
theorem lw_price {X : Nat × (Nat → Int32)} {rc rs n i : Nat} {w : kM} {s : Nat → Int32} {q : Nat} {kp bf : Nat → Int32} {T c : Nat} (hi : i + 6 ≤ X.1) (hX : X.1 ≤ 3072) (hrc : 1 ≤ rc) (hrs : 6 ≤ rs) (J : JS w s q kp bf T c) (O : opOK mL_price mX6_price [.int (X.2 (i + 1)), .int (X.2 (i + 2))] w s q kp bf T) (K : KK X rc rs i) : kW X mL_law 14 QL rc rs n w 520 (L5 i) [] := by
  refine kw_aload_n (pc := 520) dL_law_520 rfl ?_
  refine kw_aload_nS (pc := 521) dL_law_521 rfl ?_
  refine kw_iload (pc := 522) dL_law_522 rfl ?_
  refine kw_iconst (v := 1) (pc := 524) dL_law_524 (by decide) ?_
  refine kw_iadd (pc := 525) dL_law_525 ?_
  refine kw_sldN (pc := 526) (i := i + 1) rfl dL_law_526 (kA (a := i) (b := 1) rfl (rfl : (1 : Int32) = nI 1)) (by omega) hX ?_
  refine kw_aload_nS (pc := 527) dL_law_527 rfl ?_
  refine kw_iload (pc := 528) dL_law_528 rfl ?_
  refine kw_iconst (v := 2) (pc := 530) dL_law_530 (by decide) ?_
  refine kw_iadd (pc := 531) dL_law_531 ?_
  refine kw_sldN (pc := 532) (i := i + 2) rfl dL_law_532 (kA (a := i) (b := 2) rfl (rfl : (2 : Int32) = nI 2)) (by omega) hX ?_
  refine kw_aload_n (pc := 533) dL_law_533 rfl ?_
  obtain ⟨z, v, s1, q1, kp1, bf1, T1, c1, ok1, tx1, hH, hMo⟩ := O
  refine kw_callSh (pc := 534) dL_law_534 lL_108 hH rfl rfl ⟨by decide, by decide, Nat.le_of_ble_eq_true rfl, hrc, hrs⟩ (fun w1 n1 hC1 => ?_)
  obtain ⟨C1, F1, f, hf, hz⟩ := hC1
  have M1 := J.2.1.fr (w' := w1) (fun a h1 h2 => F1 a h1 (by omega))
  obtain ⟨d, u, hd, hu, hM⟩ := hMo w1 M1
  obtain ⟨FM, hFM⟩ := M1.ob
  refine kw_istore (pc := 537) dL_law_537 (by decide) rfl ?_
  refine kw_aload_n (pc := 539) dL_law_539 rfl ?_
  refine kw_aload_nS (pc := 540) dL_law_540 rfl ?_
  refine kw_iload (pc := 541) dL_law_541 rfl ?_
  refine kw_iconst (v := 1) (pc := 543) dL_law_543 (by decide) ?_
  refine kw_iadd (pc := 544) dL_law_544 ?_
  refine kw_sldN (pc := 545) (i := i + 1) rfl dL_law_545 (kA (a := i) (b := 1) rfl (rfl : (1 : Int32) = nI 1)) (by omega) hX ?_
  refine kw_aload_nS (pc := 546) dL_law_546 rfl ?_
  refine kw_iload (pc := 547) dL_law_547 rfl ?_
  refine kw_iconst (v := 2) (pc := 549) dL_law_549 (by decide) ?_
  refine kw_iadd (pc := 550) dL_law_550 ?_
  refine kw_sldN (pc := 551) (i := i + 2) rfl dL_law_551 (kA (a := i) (b := 2) rfl (rfl : (2 : Int32) = nI 2)) (by omega) hX ?_
  refine kw_callVw1 (pc := 552) dL_law_552 lL_110 hM hFM rfl rfl rfl ⟨by omega, by decide, Nat.le_of_ble_eq_true rfl⟩ (fun w2 hw2 => ?_)
  obtain ⟨s2, co2, ma2, sp2, e2, ha2⟩ := hw2
  have J2 := JS.next C1 ⟨f, hf⟩ e2 ha2 ok1 tx1
  refine kw_istore (pc := 555) dL_law_555 (by decide) rfl ?_
  refine kw_aload_n (pc := 557) dL_law_557 rfl ?_
  refine kw_callVr (pc := 558) dL_law_558 lL_90 (th_of e2) (ob_of e2) rfl rfl rfl ⟨by decide, by decide, Nat.le_of_ble_eq_true rfl⟩ ?_
  refine kw_iload (pc := 561) dL_law_561 rfl ?_
  refine kw_icmp_eq (tgt := 568) (pc := 563) dL_law_563 (by decide) (fun _ => ?_) (fun h => absurd rfl h)
  refine kw_iload (pc := 568) dL_law_568 rfl ?_
  refine kw_if_ne (tgt := 585) (pc := 570) dL_law_570 (by decide) (fun _ => ?_) (fun h0 => ?_)
  · refine kw_goto (tgt := 1502) (pc := 585) dL_law_585 (by decide) ?_
    exact kW.locs (K w2 n1 s2 q1 kp1 bf1 T1 c1 J2) ⟨rfl, rfl, rfl, rfl, rfl, trivial⟩
  · refine kw_aload_n (pc := 573) dL_law_573 rfl ?_
    refine kw_iconst (v := 0) (pc := 574) dL_law_574 (by decide) ?_
    refine kw_laload (pc := 575) dL_law_575 (outW_mM e2 hf) vp01 ?_
    refine kw_iload (pc := 576) dL_law_576 rfl ?_
    refine kw_i2l (pc := 578) dL_law_578 ?_
    refine kw_lcmp (pc := 579) dL_law_579 ?_
    refine kw_if_eq (tgt := 585) (pc := 580) dL_law_580 (by decide) (fun _ => ?_) (fun h => absurd (by rw [show (0 : Int32).toNatClampNeg = 0 by decide, hz h0, hu h0]; exact lgc0) h)
    · refine kw_goto (tgt := 1502) (pc := 585) dL_law_585 (by decide) ?_
      exact kW.locs (K w2 n1 s2 q1 kp1 bf1 T1 c1 J2) ⟨rfl, rfl, rfl, rfl, rfl, trivial⟩
set_option maxRecDepth 100000 in
set_option maxHeartbeats 4000000 in
theorem lw_zone {X : Nat × (Nat → Int32)} {rc rs n i : Nat} {w : kM} {s : Nat → Int32} {q : Nat} {kp bf : Nat → Int32} {T c : Nat} (hi : i + 6 ≤ X.1) (hX : X.1 ≤ 3072) (hrc : 1 ≤ rc) (hrs : 6 ≤ rs) (J : JS w s q kp bf T c) (O : opOK mL_zone mX6_zone [.int (X.2 (i + 1)), .int (X.2 (i + 2))] w s q kp bf T) (K : KK X rc rs i) : kW X mL_law 14 QL rc rs n w 588 (L5 i) [] := by
  refine kw_aload_n (pc := 588) dL_law_588 rfl ?_
  refine kw_aload_nS (pc := 589) dL_law_589 rfl ?_
  refine kw_iload (pc := 590) dL_law_590 rfl ?_
  refine kw_iconst (v := 1) (pc := 592) dL_law_592 (by decide) ?_
  refine kw_iadd (pc := 593) dL_law_593 ?_
  refine kw_sldN (pc := 594) (i := i + 1) rfl dL_law_594 (kA (a := i) (b := 1) rfl (rfl : (1 : Int32) = nI 1)) (by omega) hX ?_
  refine kw_aload_nS (pc := 595) dL_law_595 rfl ?_
  refine kw_iload (pc := 596) dL_law_596 rfl ?_
  refine kw_iconst (v := 2) (pc := 598) dL_law_598 (by decide) ?_
  refine kw_iadd (pc := 599) dL_law_599 ?_
  refine kw_sldN (pc := 600) (i := i + 2) rfl dL_law_600 (kA (a := i) (b := 2) rfl (rfl : (2 : Int32) = nI 2)) (by omega) hX ?_
  refine kw_aload_n (pc := 601) dL_law_601 rfl ?_
  obtain ⟨z, v, s1, q1, kp1, bf1, T1, c1, ok1, tx1, hH, hMo⟩ := O
  refine kw_callSh (pc := 602) dL_law_602 lL_111 hH rfl rfl ⟨by decide, by decide, Nat.le_of_ble_eq_true rfl, hrc, hrs⟩ (fun w1 n1 hC1 => ?_)
  obtain ⟨C1, F1, f, hf, hz⟩ := hC1
  have M1 := J.2.1.fr (w' := w1) (fun a h1 h2 => F1 a h1 (by omega))
  obtain ⟨d, u, hd, hu, hM⟩ := hMo w1 M1
  obtain ⟨FM, hFM⟩ := M1.ob
  refine kw_istore (pc := 605) dL_law_605 (by decide) rfl ?_
  refine kw_aload_n (pc := 607) dL_law_607 rfl ?_
  refine kw_aload_nS (pc := 608) dL_law_608 rfl ?_
  refine kw_iload (pc := 609) dL_law_609 rfl ?_
  refine kw_iconst (v := 1) (pc := 611) dL_law_611 (by decide) ?_
  refine kw_iadd (pc := 612) dL_law_612 ?_
  refine kw_sldN (pc := 613) (i := i + 1) rfl dL_law_613 (kA (a := i) (b := 1) rfl (rfl : (1 : Int32) = nI 1)) (by omega) hX ?_
  refine kw_aload_nS (pc := 614) dL_law_614 rfl ?_
  refine kw_iload (pc := 615) dL_law_615 rfl ?_
  refine kw_iconst (v := 2) (pc := 617) dL_law_617 (by decide) ?_
  refine kw_iadd (pc := 618) dL_law_618 ?_
  refine kw_sldN (pc := 619) (i := i + 2) rfl dL_law_619 (kA (a := i) (b := 2) rfl (rfl : (2 : Int32) = nI 2)) (by omega) hX ?_
  refine kw_callVw1 (pc := 620) dL_law_620 lL_113 hM hFM rfl rfl rfl ⟨by omega, by decide, Nat.le_of_ble_eq_true rfl⟩ (fun w2 hw2 => ?_)
  obtain ⟨s2, co2, ma2, sp2, e2, ha2⟩ := hw2
  have J2 := JS.next C1 ⟨f, hf⟩ e2 ha2 ok1 tx1
  refine kw_istore (pc := 623) dL_law_623 (by decide) rfl ?_
  refine kw_aload_n (pc := 625) dL_law_625 rfl ?_
  refine kw_callVr (pc := 626) dL_law_626 lL_90 (th_of e2) (ob_of e2) rfl rfl rfl ⟨by decide, by decide, Nat.le_of_ble_eq_true rfl⟩ ?_
  refine kw_iload (pc := 629) dL_law_629 rfl ?_
  refine kw_icmp_eq (tgt := 636) (pc := 631) dL_law_631 (by decide) (fun _ => ?_) (fun h => absurd rfl h)
  refine kw_iload (pc := 636) dL_law_636 rfl ?_
  refine kw_if_ne (tgt := 653) (pc := 638) dL_law_638 (by decide) (fun _ => ?_) (fun h0 => ?_)
  · refine kw_goto (tgt := 1502) (pc := 653) dL_law_653 (by decide) ?_
    exact kW.locs (K w2 n1 s2 q1 kp1 bf1 T1 c1 J2) ⟨rfl, rfl, rfl, rfl, rfl, trivial⟩
  · refine kw_aload_n (pc := 641) dL_law_641 rfl ?_
    refine kw_iconst (v := 0) (pc := 642) dL_law_642 (by decide) ?_
    refine kw_laload (pc := 643) dL_law_643 (outW_mM e2 hf) vp01 ?_
    refine kw_iload (pc := 644) dL_law_644 rfl ?_
    refine kw_i2l (pc := 646) dL_law_646 ?_
    refine kw_lcmp (pc := 647) dL_law_647 ?_
    refine kw_if_eq (tgt := 653) (pc := 648) dL_law_648 (by decide) (fun _ => ?_) (fun h => absurd (by rw [show (0 : Int32).toNatClampNeg = 0 by decide, hz h0, hu h0]; exact lgc0) h)
    · refine kw_goto (tgt := 1502) (pc := 653) dL_law_653 (by decide) ?_
      exact kW.locs (K w2 n1 s2 q1 kp1 bf1 T1 c1 J2) ⟨rfl, rfl, rfl, rfl, rfl, trivial⟩
set_option maxRecDepth 100000 in
set_option maxHeartbeats 4000000 in
theorem lw_set {X : Nat × (Nat → Int32)} {rc rs n i : Nat} {w : kM} {s : Nat → Int32} {q : Nat} {kp bf : Nat → Int32} {T c : Nat} (hi : i + 6 ≤ X.1) (hX : X.1 ≤ 3072) (hrc : 1 ≤ rc) (hrs : 6 ≤ rs) (J : JS w s q kp bf T c) (O : opOK mL_set mX6_set [.int (X.2 (i + 1)), .int (X.2 (i + 2))] w s q kp bf T) (K : KK X rc rs i) : kW X mL_law 14 QL rc rs n w 656 (L5 i) [] := by
  refine kw_aload_n (pc := 656) dL_law_656 rfl ?_
  refine kw_aload_nS (pc := 657) dL_law_657 rfl ?_
  refine kw_iload (pc := 658) dL_law_658 rfl ?_
  refine kw_iconst (v := 1) (pc := 660) dL_law_660 (by decide) ?_
  refine kw_iadd (pc := 661) dL_law_661 ?_
  refine kw_sldN (pc := 662) (i := i + 1) rfl dL_law_662 (kA (a := i) (b := 1) rfl (rfl : (1 : Int32) = nI 1)) (by omega) hX ?_
  refine kw_aload_nS (pc := 663) dL_law_663 rfl ?_
  refine kw_iload (pc := 664) dL_law_664 rfl ?_
  refine kw_iconst (v := 2) (pc := 666) dL_law_666 (by decide) ?_
  refine kw_iadd (pc := 667) dL_law_667 ?_
  refine kw_sldN (pc := 668) (i := i + 2) rfl dL_law_668 (kA (a := i) (b := 2) rfl (rfl : (2 : Int32) = nI 2)) (by omega) hX ?_
  refine kw_aload_n (pc := 669) dL_law_669 rfl ?_
  obtain ⟨z, v, s1, q1, kp1, bf1, T1, c1, ok1, tx1, hH, hMo⟩ := O
  refine kw_callSh (pc := 670) dL_law_670 lL_114 hH rfl rfl ⟨by decide, by decide, Nat.le_of_ble_eq_true rfl, hrc, hrs⟩ (fun w1 n1 hC1 => ?_)
  obtain ⟨C1, F1, f, hf, hz⟩ := hC1
  have M1 := J.2.1.fr (w' := w1) (fun a h1 h2 => F1 a h1 (by omega))
  obtain ⟨d, u, hd, hu, hM⟩ := hMo w1 M1
  obtain ⟨FM, hFM⟩ := M1.ob
  refine kw_istore (pc := 673) dL_law_673 (by decide) rfl ?_
  refine kw_aload_n (pc := 675) dL_law_675 rfl ?_
  refine kw_aload_nS (pc := 676) dL_law_676 rfl ?_
  refine kw_iload (pc := 677) dL_law_677 rfl ?_
  refine kw_iconst (v := 1) (pc := 679) dL_law_679 (by decide) ?_
  refine kw_iadd (pc := 680) dL_law_680 ?_
  refine kw_sldN (pc := 681) (i := i + 1) rfl dL_law_681 (kA (a := i) (b := 1) rfl (rfl : (1 : Int32) = nI 1)) (by omega) hX ?_
  refine kw_aload_nS (pc := 682) dL_law_682 rfl ?_
  refine kw_iload (pc := 683) dL_law_683 rfl ?_
  refine kw_iconst (v := 2) (pc := 685) dL_law_685 (by decide) ?_
  refine kw_iadd (pc := 686) dL_law_686 ?_
  refine kw_sldN (pc := 687) (i := i + 2) rfl dL_law_687 (kA (a := i) (b := 2) rfl (rfl : (2 : Int32) = nI 2)) (by omega) hX ?_
  refine kw_callVw1 (pc := 688) dL_law_688 lL_116 hM hFM rfl rfl rfl ⟨by omega, by decide, Nat.le_of_ble_eq_true rfl⟩ (fun w2 hw2 => ?_)
  obtain ⟨s2, co2, ma2, sp2, e2, ha2⟩ := hw2
  have J2 := JS.next C1 ⟨f, hf⟩ e2 ha2 ok1 tx1
  refine kw_istore (pc := 691) dL_law_691 (by decide) rfl ?_
  refine kw_aload_n (pc := 693) dL_law_693 rfl ?_
  refine kw_callVr (pc := 694) dL_law_694 lL_90 (th_of e2) (ob_of e2) rfl rfl rfl ⟨by decide, by decide, Nat.le_of_ble_eq_true rfl⟩ ?_
  refine kw_iload (pc := 697) dL_law_697 rfl ?_
  refine kw_icmp_eq (tgt := 704) (pc := 699) dL_law_699 (by decide) (fun _ => ?_) (fun h => absurd rfl h)
  refine kw_iload (pc := 704) dL_law_704 rfl ?_
  refine kw_if_ne (tgt := 721) (pc := 706) dL_law_706 (by decide) (fun _ => ?_) (fun h0 => ?_)
  · refine kw_goto (tgt := 1502) (pc := 721) dL_law_721 (by decide) ?_
    exact kW.locs (K w2 n1 s2 q1 kp1 bf1 T1 c1 J2) ⟨rfl, rfl, rfl, rfl, rfl, trivial⟩
  · refine kw_aload_n (pc := 709) dL_law_709 rfl ?_
    refine kw_iconst (v := 0) (pc := 710) dL_law_710 (by decide) ?_
    refine kw_laload (pc := 711) dL_law_711 (outW_mM e2 hf) vp01 ?_
    refine kw_iload (pc := 712) dL_law_712 rfl ?_
    refine kw_i2l (pc := 714) dL_law_714 ?_
    refine kw_lcmp (pc := 715) dL_law_715 ?_
    refine kw_if_eq (tgt := 721) (pc := 716) dL_law_716 (by decide) (fun _ => ?_) (fun h => absurd (by rw [show (0 : Int32).toNatClampNeg = 0 by decide, hz h0, hu h0]; exact lgc0) h)
    · refine kw_goto (tgt := 1502) (pc := 721) dL_law_721 (by decide) ?_
      exact kW.locs (K w2 n1 s2 q1 kp1 bf1 T1 c1 J2) ⟨rfl, rfl, rfl, rfl, rfl, trivial⟩
set_option maxRecDepth 100000 in
set_option maxHeartbeats 4000000 in
theorem lw_append {X : Nat × (Nat → Int32)} {rc rs n i : Nat} {w : kM} {s : Nat → Int32} {q : Nat} {kp bf : Nat → Int32} {T c : Nat} (hi : i + 6 ≤ X.1) (hX : X.1 ≤ 3072) (hrc : 1 ≤ rc) (hrs : 6 ≤ rs) (J : JS w s q kp bf T c) (O : opOK mL_append mX6_append [.int (X.2 (i + 1))] w s q kp bf T) (K : KK X rc rs i) : kW X mL_law 14 QL rc rs n w 724 (L5 i) [] := by
  refine kw_aload_n (pc := 724) dL_law_724 rfl ?_
  refine kw_aload_nS (pc := 725) dL_law_725 rfl ?_
  refine kw_iload (pc := 726) dL_law_726 rfl ?_
  refine kw_iconst (v := 1) (pc := 728) dL_law_728 (by decide) ?_
  refine kw_iadd (pc := 729) dL_law_729 ?_
  refine kw_sldN (pc := 730) (i := i + 1) rfl dL_law_730 (kA (a := i) (b := 1) rfl (rfl : (1 : Int32) = nI 1)) (by omega) hX ?_
  refine kw_aload_n (pc := 731) dL_law_731 rfl ?_
  obtain ⟨z, v, s1, q1, kp1, bf1, T1, c1, ok1, tx1, hH, hMo⟩ := O
  refine kw_callSh (pc := 732) dL_law_732 lL_117 hH rfl rfl ⟨by decide, by decide, Nat.le_of_ble_eq_true rfl, hrc, hrs⟩ (fun w1 n1 hC1 => ?_)
  obtain ⟨C1, F1, f, hf, hz⟩ := hC1
  have M1 := J.2.1.fr (w' := w1) (fun a h1 h2 => F1 a h1 (by omega))
  obtain ⟨d, u, hd, hu, hM⟩ := hMo w1 M1
  obtain ⟨FM, hFM⟩ := M1.ob
  refine kw_istore (pc := 735) dL_law_735 (by decide) rfl ?_
  refine kw_aload_n (pc := 737) dL_law_737 rfl ?_
  refine kw_aload_nS (pc := 738) dL_law_738 rfl ?_
  refine kw_iload (pc := 739) dL_law_739 rfl ?_
  refine kw_iconst (v := 1) (pc := 741) dL_law_741 (by decide) ?_
  refine kw_iadd (pc := 742) dL_law_742 ?_
  refine kw_sldN (pc := 743) (i := i + 1) rfl dL_law_743 (kA (a := i) (b := 1) rfl (rfl : (1 : Int32) = nI 1)) (by omega) hX ?_
  refine kw_callVw1 (pc := 744) dL_law_744 lL_119 hM hFM rfl rfl rfl ⟨by omega, by decide, Nat.le_of_ble_eq_true rfl⟩ (fun w2 hw2 => ?_)
  obtain ⟨s2, co2, ma2, sp2, e2, ha2⟩ := hw2
  have J2 := JS.next C1 ⟨f, hf⟩ e2 ha2 ok1 tx1
  refine kw_istore (pc := 747) dL_law_747 (by decide) rfl ?_
  refine kw_aload_n (pc := 749) dL_law_749 rfl ?_
  refine kw_callVr (pc := 750) dL_law_750 lL_90 (th_of e2) (ob_of e2) rfl rfl rfl ⟨by decide, by decide, Nat.le_of_ble_eq_true rfl⟩ ?_
  refine kw_iload (pc := 753) dL_law_753 rfl ?_
  refine kw_icmp_eq (tgt := 760) (pc := 755) dL_law_755 (by decide) (fun _ => ?_) (fun h => absurd rfl h)
  refine kw_iload (pc := 760) dL_law_760 rfl ?_
  refine kw_if_ne (tgt := 777) (pc := 762) dL_law_762 (by decide) (fun _ => ?_) (fun h0 => ?_)
  · refine kw_goto (tgt := 1502) (pc := 777) dL_law_777 (by decide) ?_
    exact kW.locs (K w2 n1 s2 q1 kp1 bf1 T1 c1 J2) ⟨rfl, rfl, rfl, rfl, rfl, trivial⟩
  · refine kw_aload_n (pc := 765) dL_law_765 rfl ?_
    refine kw_iconst (v := 0) (pc := 766) dL_law_766 (by decide) ?_
    refine kw_laload (pc := 767) dL_law_767 (outW_mM e2 hf) vp01 ?_
    refine kw_iload (pc := 768) dL_law_768 rfl ?_
    refine kw_i2l (pc := 770) dL_law_770 ?_
    refine kw_lcmp (pc := 771) dL_law_771 ?_
    refine kw_if_eq (tgt := 777) (pc := 772) dL_law_772 (by decide) (fun _ => ?_) (fun h => absurd (by rw [show (0 : Int32).toNatClampNeg = 0 by decide, hz h0, hu h0]; exact lgc0) h)
    · refine kw_goto (tgt := 1502) (pc := 777) dL_law_777 (by decide) ?_
      exact kW.locs (K w2 n1 s2 q1 kp1 bf1 T1 c1 J2) ⟨rfl, rfl, rfl, rfl, rfl, trivial⟩
set_option maxRecDepth 100000 in
set_option maxHeartbeats 4000000 in
theorem lw_run {X : Nat × (Nat → Int32)} {rc rs n i : Nat} {w : kM} {s : Nat → Int32} {q : Nat} {kp bf : Nat → Int32} {T c : Nat} (hi : i + 6 ≤ X.1) (hX : X.1 ≤ 3072) (hrc : 1 ≤ rc) (hrs : 6 ≤ rs) (J : JS w s q kp bf T c) (O : opOK mL_run mX6_run [] w s q kp bf T) (K : KK X rc rs i) : kW X mL_law 14 QL rc rs n w 806 (L5 i) [] := by
  refine kw_aload_n (pc := 806) dL_law_806 rfl ?_
  refine kw_aload_n (pc := 807) dL_law_807 rfl ?_
  obtain ⟨z, v, s1, q1, kp1, bf1, T1, c1, ok1, tx1, hH, hMo⟩ := O
  refine kw_callSh (pc := 808) dL_law_808 lL_128 hH rfl rfl ⟨by decide, by decide, Nat.le_of_ble_eq_true rfl, hrc, hrs⟩ (fun w1 n1 hC1 => ?_)
  obtain ⟨C1, F1, f, hf, hz⟩ := hC1
  have M1 := J.2.1.fr (w' := w1) (fun a h1 h2 => F1 a h1 (by omega))
  obtain ⟨d, u, hd, hu, hM⟩ := hMo w1 M1
  obtain ⟨FM, hFM⟩ := M1.ob
  refine kw_istore (pc := 811) dL_law_811 (by decide) rfl ?_
  refine kw_aload_n (pc := 813) dL_law_813 rfl ?_
  refine kw_callVw1 (pc := 814) dL_law_814 lL_131 hM hFM rfl rfl rfl ⟨by omega, by decide, Nat.le_of_ble_eq_true rfl⟩ (fun w2 hw2 => ?_)
  obtain ⟨s2, co2, ma2, sp2, e2, ha2⟩ := hw2
  have J2 := JS.next C1 ⟨f, hf⟩ e2 ha2 ok1 tx1
  refine kw_istore (pc := 817) dL_law_817 (by decide) rfl ?_
  refine kw_aload_n (pc := 819) dL_law_819 rfl ?_
  refine kw_callVr (pc := 820) dL_law_820 lL_90 (th_of e2) (ob_of e2) rfl rfl rfl ⟨by decide, by decide, Nat.le_of_ble_eq_true rfl⟩ ?_
  refine kw_iload (pc := 823) dL_law_823 rfl ?_
  refine kw_icmp_eq (tgt := 830) (pc := 825) dL_law_825 (by decide) (fun _ => ?_) (fun h => absurd rfl h)
  refine kw_iload (pc := 830) dL_law_830 rfl ?_
  refine kw_if_ne (tgt := 847) (pc := 832) dL_law_832 (by decide) (fun _ => ?_) (fun h0 => ?_)
  · refine kw_goto (tgt := 1502) (pc := 847) dL_law_847 (by decide) ?_
    exact kW.locs (K w2 n1 s2 q1 kp1 bf1 T1 c1 J2) ⟨rfl, rfl, rfl, rfl, rfl, trivial⟩
  · refine kw_aload_n (pc := 835) dL_law_835 rfl ?_
    refine kw_iconst (v := 0) (pc := 836) dL_law_836 (by decide) ?_
    refine kw_laload (pc := 837) dL_law_837 (outW_mM e2 hf) vp01 ?_
    refine kw_iload (pc := 838) dL_law_838 rfl ?_
    refine kw_i2l (pc := 840) dL_law_840 ?_
    refine kw_lcmp (pc := 841) dL_law_841 ?_
    refine kw_if_eq (tgt := 847) (pc := 842) dL_law_842 (by decide) (fun _ => ?_) (fun h => absurd (by rw [show (0 : Int32).toNatClampNeg = 0 by decide, hz h0, hu h0]; exact lgc0) h)
    · refine kw_goto (tgt := 1502) (pc := 847) dL_law_847 (by decide) ?_
      exact kW.locs (K w2 n1 s2 q1 kp1 bf1 T1 c1 J2) ⟨rfl, rfl, rfl, rfl, rfl, trivial⟩
set_option maxRecDepth 100000 in
set_option maxHeartbeats 4000000 in
theorem lw_keep {X : Nat × (Nat → Int32)} {rc rs n i : Nat} {w : kM} {s : Nat → Int32} {q : Nat} {kp bf : Nat → Int32} {T c : Nat} (hi : i + 6 ≤ X.1) (hX : X.1 ≤ 3072) (hrc : 1 ≤ rc) (hrs : 6 ≤ rs) (J : JS w s q kp bf T c) (O : opOK mL_keep mX6_keep [.int (X.2 (i + 1))] w s q kp bf T) (K : KK X rc rs i) : kW X mL_law 14 QL rc rs n w 850 (L5 i) [] := by
  refine kw_aload_n (pc := 850) dL_law_850 rfl ?_
  refine kw_aload_nS (pc := 851) dL_law_851 rfl ?_
  refine kw_iload (pc := 852) dL_law_852 rfl ?_
  refine kw_iconst (v := 1) (pc := 854) dL_law_854 (by decide) ?_
  refine kw_iadd (pc := 855) dL_law_855 ?_
  refine kw_sldN (pc := 856) (i := i + 1) rfl dL_law_856 (kA (a := i) (b := 1) rfl (rfl : (1 : Int32) = nI 1)) (by omega) hX ?_
  refine kw_aload_n (pc := 857) dL_law_857 rfl ?_
  obtain ⟨z, v, s1, q1, kp1, bf1, T1, c1, ok1, tx1, hH, hMo⟩ := O
  refine kw_callSh (pc := 858) dL_law_858 lL_132 hH rfl rfl ⟨by decide, by decide, Nat.le_of_ble_eq_true rfl, hrc, hrs⟩ (fun w1 n1 hC1 => ?_)
  obtain ⟨C1, F1, f, hf, hz⟩ := hC1
  have M1 := J.2.1.fr (w' := w1) (fun a h1 h2 => F1 a h1 (by omega))
  obtain ⟨d, u, hd, hu, hM⟩ := hMo w1 M1
  obtain ⟨FM, hFM⟩ := M1.ob
  refine kw_istore (pc := 861) dL_law_861 (by decide) rfl ?_
  refine kw_aload_n (pc := 863) dL_law_863 rfl ?_
  refine kw_aload_nS (pc := 864) dL_law_864 rfl ?_
  refine kw_iload (pc := 865) dL_law_865 rfl ?_
  refine kw_iconst (v := 1) (pc := 867) dL_law_867 (by decide) ?_
  refine kw_iadd (pc := 868) dL_law_868 ?_
  refine kw_sldN (pc := 869) (i := i + 1) rfl dL_law_869 (kA (a := i) (b := 1) rfl (rfl : (1 : Int32) = nI 1)) (by omega) hX ?_
  refine kw_callVw1 (pc := 870) dL_law_870 lL_134 hM hFM rfl rfl rfl ⟨by omega, by decide, Nat.le_of_ble_eq_true rfl⟩ (fun w2 hw2 => ?_)
  obtain ⟨s2, co2, ma2, sp2, e2, ha2⟩ := hw2
  have J2 := JS.next C1 ⟨f, hf⟩ e2 ha2 ok1 tx1
  refine kw_istore (pc := 873) dL_law_873 (by decide) rfl ?_
  refine kw_aload_n (pc := 875) dL_law_875 rfl ?_
  refine kw_callVr (pc := 876) dL_law_876 lL_90 (th_of e2) (ob_of e2) rfl rfl rfl ⟨by decide, by decide, Nat.le_of_ble_eq_true rfl⟩ ?_
  refine kw_iload (pc := 879) dL_law_879 rfl ?_
  refine kw_icmp_eq (tgt := 886) (pc := 881) dL_law_881 (by decide) (fun _ => ?_) (fun h => absurd rfl h)
  refine kw_iload (pc := 886) dL_law_886 rfl ?_
  refine kw_if_ne (tgt := 903) (pc := 888) dL_law_888 (by decide) (fun _ => ?_) (fun h0 => ?_)
  · refine kw_goto (tgt := 1502) (pc := 903) dL_law_903 (by decide) ?_
    exact kW.locs (K w2 n1 s2 q1 kp1 bf1 T1 c1 J2) ⟨rfl, rfl, rfl, rfl, rfl, trivial⟩
  · refine kw_aload_n (pc := 891) dL_law_891 rfl ?_
    refine kw_iconst (v := 0) (pc := 892) dL_law_892 (by decide) ?_
    refine kw_laload (pc := 893) dL_law_893 (outW_mM e2 hf) vp01 ?_
    refine kw_iload (pc := 894) dL_law_894 rfl ?_
    refine kw_i2l (pc := 896) dL_law_896 ?_
    refine kw_lcmp (pc := 897) dL_law_897 ?_
    refine kw_if_eq (tgt := 903) (pc := 898) dL_law_898 (by decide) (fun _ => ?_) (fun h => absurd (by rw [show (0 : Int32).toNatClampNeg = 0 by decide, hz h0, hu h0]; exact lgc0) h)
    · refine kw_goto (tgt := 1502) (pc := 903) dL_law_903 (by decide) ?_
      exact kW.locs (K w2 n1 s2 q1 kp1 bf1 T1 c1 J2) ⟨rfl, rfl, rfl, rfl, rfl, trivial⟩
set_option maxRecDepth 100000 in
set_option maxHeartbeats 4000000 in
theorem lw_goBack {X : Nat × (Nat → Int32)} {rc rs n i : Nat} {w : kM} {s : Nat → Int32} {q : Nat} {kp bf : Nat → Int32} {T c : Nat} (hi : i + 6 ≤ X.1) (hX : X.1 ≤ 3072) (hrc : 1 ≤ rc) (hrs : 6 ≤ rs) (J : JS w s q kp bf T c) (O : opOK mL_goBack mX6_goBack [.int (X.2 (i + 1))] w s q kp bf T) (K : KK X rc rs i) : kW X mL_law 14 QL rc rs n w 906 (L5 i) [] := by
  refine kw_aload_n (pc := 906) dL_law_906 rfl ?_
  refine kw_aload_nS (pc := 907) dL_law_907 rfl ?_
  refine kw_iload (pc := 908) dL_law_908 rfl ?_
  refine kw_iconst (v := 1) (pc := 910) dL_law_910 (by decide) ?_
  refine kw_iadd (pc := 911) dL_law_911 ?_
  refine kw_sldN (pc := 912) (i := i + 1) rfl dL_law_912 (kA (a := i) (b := 1) rfl (rfl : (1 : Int32) = nI 1)) (by omega) hX ?_
  refine kw_aload_n (pc := 913) dL_law_913 rfl ?_
  obtain ⟨z, v, s1, q1, kp1, bf1, T1, c1, ok1, tx1, hH, hMo⟩ := O
  refine kw_callSh (pc := 914) dL_law_914 lL_135 hH rfl rfl ⟨by decide, by decide, Nat.le_of_ble_eq_true rfl, hrc, hrs⟩ (fun w1 n1 hC1 => ?_)
  obtain ⟨C1, F1, f, hf, hz⟩ := hC1
  have M1 := J.2.1.fr (w' := w1) (fun a h1 h2 => F1 a h1 (by omega))
  obtain ⟨d, u, hd, hu, hM⟩ := hMo w1 M1
  obtain ⟨FM, hFM⟩ := M1.ob
  refine kw_istore (pc := 917) dL_law_917 (by decide) rfl ?_
  refine kw_aload_n (pc := 919) dL_law_919 rfl ?_
  refine kw_aload_nS (pc := 920) dL_law_920 rfl ?_
  refine kw_iload (pc := 921) dL_law_921 rfl ?_
  refine kw_iconst (v := 1) (pc := 923) dL_law_923 (by decide) ?_
  refine kw_iadd (pc := 924) dL_law_924 ?_
  refine kw_sldN (pc := 925) (i := i + 1) rfl dL_law_925 (kA (a := i) (b := 1) rfl (rfl : (1 : Int32) = nI 1)) (by omega) hX ?_
  refine kw_callVw1 (pc := 926) dL_law_926 lL_137 hM hFM rfl rfl rfl ⟨by omega, by decide, Nat.le_of_ble_eq_true rfl⟩ (fun w2 hw2 => ?_)
  obtain ⟨s2, co2, ma2, sp2, e2, ha2⟩ := hw2
  have J2 := JS.next C1 ⟨f, hf⟩ e2 ha2 ok1 tx1
  refine kw_istore (pc := 929) dL_law_929 (by decide) rfl ?_
  refine kw_aload_n (pc := 931) dL_law_931 rfl ?_
  refine kw_callVr (pc := 932) dL_law_932 lL_90 (th_of e2) (ob_of e2) rfl rfl rfl ⟨by decide, by decide, Nat.le_of_ble_eq_true rfl⟩ ?_
  refine kw_iload (pc := 935) dL_law_935 rfl ?_
  refine kw_icmp_eq (tgt := 942) (pc := 937) dL_law_937 (by decide) (fun _ => ?_) (fun h => absurd rfl h)
  refine kw_iload (pc := 942) dL_law_942 rfl ?_
  refine kw_if_ne (tgt := 959) (pc := 944) dL_law_944 (by decide) (fun _ => ?_) (fun h0 => ?_)
  · refine kw_goto (tgt := 1502) (pc := 959) dL_law_959 (by decide) ?_
    exact kW.locs (K w2 n1 s2 q1 kp1 bf1 T1 c1 J2) ⟨rfl, rfl, rfl, rfl, rfl, trivial⟩
  · refine kw_aload_n (pc := 947) dL_law_947 rfl ?_
    refine kw_iconst (v := 0) (pc := 948) dL_law_948 (by decide) ?_
    refine kw_laload (pc := 949) dL_law_949 (outW_mM e2 hf) vp01 ?_
    refine kw_iload (pc := 950) dL_law_950 rfl ?_
    refine kw_i2l (pc := 952) dL_law_952 ?_
    refine kw_lcmp (pc := 953) dL_law_953 ?_
    refine kw_if_eq (tgt := 959) (pc := 954) dL_law_954 (by decide) (fun _ => ?_) (fun h => absurd (by rw [show (0 : Int32).toNatClampNeg = 0 by decide, hz h0, hu h0]; exact lgc0) h)
    · refine kw_goto (tgt := 1502) (pc := 959) dL_law_959 (by decide) ?_
      exact kW.locs (K w2 n1 s2 q1 kp1 bf1 T1 c1 J2) ⟨rfl, rfl, rfl, rfl, rfl, trivial⟩
set_option maxRecDepth 100000 in
set_option maxHeartbeats 4000000 in
theorem lw_undo {X : Nat × (Nat → Int32)} {rc rs n i : Nat} {w : kM} {s : Nat → Int32} {q : Nat} {kp bf : Nat → Int32} {T c : Nat} (hi : i + 6 ≤ X.1) (hX : X.1 ≤ 3072) (hrc : 1 ≤ rc) (hrs : 6 ≤ rs) (J : JS w s q kp bf T c) (O : opOK mL_undo mX6_undo [] w s q kp bf T) (K : KK X rc rs i) : kW X mL_law 14 QL rc rs n w 962 (L5 i) [] := by
  refine kw_aload_n (pc := 962) dL_law_962 rfl ?_
  refine kw_aload_n (pc := 963) dL_law_963 rfl ?_
  obtain ⟨z, v, s1, q1, kp1, bf1, T1, c1, ok1, tx1, hH, hMo⟩ := O
  refine kw_callSh (pc := 964) dL_law_964 lL_138 hH rfl rfl ⟨by decide, by decide, Nat.le_of_ble_eq_true rfl, hrc, hrs⟩ (fun w1 n1 hC1 => ?_)
  obtain ⟨C1, F1, f, hf, hz⟩ := hC1
  have M1 := J.2.1.fr (w' := w1) (fun a h1 h2 => F1 a h1 (by omega))
  obtain ⟨d, u, hd, hu, hM⟩ := hMo w1 M1
  obtain ⟨FM, hFM⟩ := M1.ob
  refine kw_istore (pc := 967) dL_law_967 (by decide) rfl ?_
  refine kw_aload_n (pc := 969) dL_law_969 rfl ?_
  refine kw_callVw1 (pc := 970) dL_law_970 lL_140 hM hFM rfl rfl rfl ⟨by omega, by decide, Nat.le_of_ble_eq_true rfl⟩ (fun w2 hw2 => ?_)
  obtain ⟨s2, co2, ma2, sp2, e2, ha2⟩ := hw2
  have J2 := JS.next C1 ⟨f, hf⟩ e2 ha2 ok1 tx1
  refine kw_istore (pc := 973) dL_law_973 (by decide) rfl ?_
  refine kw_aload_n (pc := 975) dL_law_975 rfl ?_
  refine kw_callVr (pc := 976) dL_law_976 lL_90 (th_of e2) (ob_of e2) rfl rfl rfl ⟨by decide, by decide, Nat.le_of_ble_eq_true rfl⟩ ?_
  refine kw_iload (pc := 979) dL_law_979 rfl ?_
  refine kw_icmp_eq (tgt := 986) (pc := 981) dL_law_981 (by decide) (fun _ => ?_) (fun h => absurd rfl h)
  refine kw_iload (pc := 986) dL_law_986 rfl ?_
  refine kw_if_ne (tgt := 1003) (pc := 988) dL_law_988 (by decide) (fun _ => ?_) (fun h0 => ?_)
  · refine kw_goto (tgt := 1502) (pc := 1003) dL_law_1003 (by decide) ?_
    exact kW.locs (K w2 n1 s2 q1 kp1 bf1 T1 c1 J2) ⟨rfl, rfl, rfl, rfl, rfl, trivial⟩
  · refine kw_aload_n (pc := 991) dL_law_991 rfl ?_
    refine kw_iconst (v := 0) (pc := 992) dL_law_992 (by decide) ?_
    refine kw_laload (pc := 993) dL_law_993 (outW_mM e2 hf) vp01 ?_
    refine kw_iload (pc := 994) dL_law_994 rfl ?_
    refine kw_i2l (pc := 996) dL_law_996 ?_
    refine kw_lcmp (pc := 997) dL_law_997 ?_
    refine kw_if_eq (tgt := 1003) (pc := 998) dL_law_998 (by decide) (fun _ => ?_) (fun h => absurd (by rw [show (0 : Int32).toNatClampNeg = 0 by decide, hz h0, hu h0]; exact lgc0) h)
    · refine kw_goto (tgt := 1502) (pc := 1003) dL_law_1003 (by decide) ?_
      exact kW.locs (K w2 n1 s2 q1 kp1 bf1 T1 c1 J2) ⟨rfl, rfl, rfl, rfl, rfl, trivial⟩
set_option maxRecDepth 100000 in
set_option maxHeartbeats 4000000 in
theorem lw_parcelOf {X : Nat × (Nat → Int32)} {rc rs n i : Nat} {w : kM} {s : Nat → Int32} {q : Nat} {kp bf : Nat → Int32} {T c : Nat} (hi : i + 6 ≤ X.1) (hX : X.1 ≤ 3072) (hrc : 1 ≤ rc) (hrs : 6 ≤ rs) (J : JS w s q kp bf T c) (O : opOK mL_parcelOf mX6_parcelOf [.int (X.2 (i + 1)), .int (X.2 (i + 2))] w s q kp bf T) (K : KK X rc rs i) : kW X mL_law 14 QL rc rs n w 1006 (L5 i) [] := by
  refine kw_aload_n (pc := 1006) dL_law_1006 rfl ?_
  refine kw_aload_nS (pc := 1007) dL_law_1007 rfl ?_
  refine kw_iload (pc := 1008) dL_law_1008 rfl ?_
  refine kw_iconst (v := 1) (pc := 1010) dL_law_1010 (by decide) ?_
  refine kw_iadd (pc := 1011) dL_law_1011 ?_
  refine kw_sldN (pc := 1012) (i := i + 1) rfl dL_law_1012 (kA (a := i) (b := 1) rfl (rfl : (1 : Int32) = nI 1)) (by omega) hX ?_
  refine kw_aload_nS (pc := 1013) dL_law_1013 rfl ?_
  refine kw_iload (pc := 1014) dL_law_1014 rfl ?_
  refine kw_iconst (v := 2) (pc := 1016) dL_law_1016 (by decide) ?_
  refine kw_iadd (pc := 1017) dL_law_1017 ?_
  refine kw_sldN (pc := 1018) (i := i + 2) rfl dL_law_1018 (kA (a := i) (b := 2) rfl (rfl : (2 : Int32) = nI 2)) (by omega) hX ?_
  refine kw_aload_n (pc := 1019) dL_law_1019 rfl ?_
  obtain ⟨z, v, s1, q1, kp1, bf1, T1, c1, ok1, tx1, hH, hMo⟩ := O
  refine kw_callSh (pc := 1020) dL_law_1020 lL_141 hH rfl rfl ⟨by decide, by decide, Nat.le_of_ble_eq_true rfl, hrc, hrs⟩ (fun w1 n1 hC1 => ?_)
  obtain ⟨C1, F1, f, hf, hz⟩ := hC1
  have M1 := J.2.1.fr (w' := w1) (fun a h1 h2 => F1 a h1 (by omega))
  obtain ⟨d, u, hd, hu, hM⟩ := hMo w1 M1
  obtain ⟨FM, hFM⟩ := M1.ob
  refine kw_istore (pc := 1023) dL_law_1023 (by decide) rfl ?_
  refine kw_aload_n (pc := 1025) dL_law_1025 rfl ?_
  refine kw_aload_nS (pc := 1026) dL_law_1026 rfl ?_
  refine kw_iload (pc := 1027) dL_law_1027 rfl ?_
  refine kw_iconst (v := 1) (pc := 1029) dL_law_1029 (by decide) ?_
  refine kw_iadd (pc := 1030) dL_law_1030 ?_
  refine kw_sldN (pc := 1031) (i := i + 1) rfl dL_law_1031 (kA (a := i) (b := 1) rfl (rfl : (1 : Int32) = nI 1)) (by omega) hX ?_
  refine kw_aload_nS (pc := 1032) dL_law_1032 rfl ?_
  refine kw_iload (pc := 1033) dL_law_1033 rfl ?_
  refine kw_iconst (v := 2) (pc := 1035) dL_law_1035 (by decide) ?_
  refine kw_iadd (pc := 1036) dL_law_1036 ?_
  refine kw_sldN (pc := 1037) (i := i + 2) rfl dL_law_1037 (kA (a := i) (b := 2) rfl (rfl : (2 : Int32) = nI 2)) (by omega) hX ?_
  refine kw_callVw1 (pc := 1038) dL_law_1038 lL_143 hM hFM rfl rfl rfl ⟨by omega, by decide, Nat.le_of_ble_eq_true rfl⟩ (fun w2 hw2 => ?_)
  obtain ⟨s2, co2, ma2, sp2, e2, ha2⟩ := hw2
  have J2 := JS.next C1 ⟨f, hf⟩ e2 ha2 ok1 tx1
  refine kw_istore (pc := 1041) dL_law_1041 (by decide) rfl ?_
  refine kw_aload_n (pc := 1043) dL_law_1043 rfl ?_
  refine kw_callVr (pc := 1044) dL_law_1044 lL_90 (th_of e2) (ob_of e2) rfl rfl rfl ⟨by decide, by decide, Nat.le_of_ble_eq_true rfl⟩ ?_
  refine kw_iload (pc := 1047) dL_law_1047 rfl ?_
  refine kw_icmp_eq (tgt := 1054) (pc := 1049) dL_law_1049 (by decide) (fun _ => ?_) (fun h => absurd rfl h)
  refine kw_iload (pc := 1054) dL_law_1054 rfl ?_
  refine kw_if_ne (tgt := 1071) (pc := 1056) dL_law_1056 (by decide) (fun _ => ?_) (fun h0 => ?_)
  · refine kw_goto (tgt := 1502) (pc := 1071) dL_law_1071 (by decide) ?_
    exact kW.locs (K w2 n1 s2 q1 kp1 bf1 T1 c1 J2) ⟨rfl, rfl, rfl, rfl, rfl, trivial⟩
  · refine kw_aload_n (pc := 1059) dL_law_1059 rfl ?_
    refine kw_iconst (v := 0) (pc := 1060) dL_law_1060 (by decide) ?_
    refine kw_laload (pc := 1061) dL_law_1061 (outW_mM e2 hf) vp01 ?_
    refine kw_iload (pc := 1062) dL_law_1062 rfl ?_
    refine kw_i2l (pc := 1064) dL_law_1064 ?_
    refine kw_lcmp (pc := 1065) dL_law_1065 ?_
    refine kw_if_eq (tgt := 1071) (pc := 1066) dL_law_1066 (by decide) (fun _ => ?_) (fun h => absurd (by rw [show (0 : Int32).toNatClampNeg = 0 by decide, hz h0, hu h0]; exact lgc0) h)
    · refine kw_goto (tgt := 1502) (pc := 1071) dL_law_1071 (by decide) ?_
      exact kW.locs (K w2 n1 s2 q1 kp1 bf1 T1 c1 J2) ⟨rfl, rfl, rfl, rfl, rfl, trivial⟩
set_option maxRecDepth 100000 in
set_option maxHeartbeats 4000000 in
theorem lw_rate {X : Nat × (Nat → Int32)} {rc rs n i : Nat} {w : kM} {s : Nat → Int32} {q : Nat} {kp bf : Nat → Int32} {T c : Nat} (hi : i + 6 ≤ X.1) (hX : X.1 ≤ 3072) (hrc : 1 ≤ rc) (hrs : 6 ≤ rs) (J : JS w s q kp bf T c) (O : opOK mL_rate mX6_rate [.int (X.2 (i + 1)), .int (X.2 (i + 2))] w s q kp bf T) (K : KK X rc rs i) : kW X mL_law 14 QL rc rs n w 1074 (L5 i) [] := by
  refine kw_aload_n (pc := 1074) dL_law_1074 rfl ?_
  refine kw_aload_nS (pc := 1075) dL_law_1075 rfl ?_
  refine kw_iload (pc := 1076) dL_law_1076 rfl ?_
  refine kw_iconst (v := 1) (pc := 1078) dL_law_1078 (by decide) ?_
  refine kw_iadd (pc := 1079) dL_law_1079 ?_
  refine kw_sldN (pc := 1080) (i := i + 1) rfl dL_law_1080 (kA (a := i) (b := 1) rfl (rfl : (1 : Int32) = nI 1)) (by omega) hX ?_
  refine kw_aload_nS (pc := 1081) dL_law_1081 rfl ?_
  refine kw_iload (pc := 1082) dL_law_1082 rfl ?_
  refine kw_iconst (v := 2) (pc := 1084) dL_law_1084 (by decide) ?_
  refine kw_iadd (pc := 1085) dL_law_1085 ?_
  refine kw_sldN (pc := 1086) (i := i + 2) rfl dL_law_1086 (kA (a := i) (b := 2) rfl (rfl : (2 : Int32) = nI 2)) (by omega) hX ?_
  refine kw_aload_n (pc := 1087) dL_law_1087 rfl ?_
  obtain ⟨z, v, s1, q1, kp1, bf1, T1, c1, ok1, tx1, hH, hMo⟩ := O
  refine kw_callSh (pc := 1088) dL_law_1088 lL_144 hH rfl rfl ⟨by decide, by decide, Nat.le_of_ble_eq_true rfl, hrc, hrs⟩ (fun w1 n1 hC1 => ?_)
  obtain ⟨C1, F1, f, hf, hz⟩ := hC1
  have M1 := J.2.1.fr (w' := w1) (fun a h1 h2 => F1 a h1 (by omega))
  obtain ⟨d, u, hd, hu, hM⟩ := hMo w1 M1
  obtain ⟨FM, hFM⟩ := M1.ob
  refine kw_istore (pc := 1091) dL_law_1091 (by decide) rfl ?_
  refine kw_aload_n (pc := 1093) dL_law_1093 rfl ?_
  refine kw_aload_nS (pc := 1094) dL_law_1094 rfl ?_
  refine kw_iload (pc := 1095) dL_law_1095 rfl ?_
  refine kw_iconst (v := 1) (pc := 1097) dL_law_1097 (by decide) ?_
  refine kw_iadd (pc := 1098) dL_law_1098 ?_
  refine kw_sldN (pc := 1099) (i := i + 1) rfl dL_law_1099 (kA (a := i) (b := 1) rfl (rfl : (1 : Int32) = nI 1)) (by omega) hX ?_
  refine kw_aload_nS (pc := 1100) dL_law_1100 rfl ?_
  refine kw_iload (pc := 1101) dL_law_1101 rfl ?_
  refine kw_iconst (v := 2) (pc := 1103) dL_law_1103 (by decide) ?_
  refine kw_iadd (pc := 1104) dL_law_1104 ?_
  refine kw_sldN (pc := 1105) (i := i + 2) rfl dL_law_1105 (kA (a := i) (b := 2) rfl (rfl : (2 : Int32) = nI 2)) (by omega) hX ?_
  refine kw_callVw1 (pc := 1106) dL_law_1106 lL_146 hM hFM rfl rfl rfl ⟨by omega, by decide, Nat.le_of_ble_eq_true rfl⟩ (fun w2 hw2 => ?_)
  obtain ⟨s2, co2, ma2, sp2, e2, ha2⟩ := hw2
  have J2 := JS.next C1 ⟨f, hf⟩ e2 ha2 ok1 tx1
  refine kw_istore (pc := 1109) dL_law_1109 (by decide) rfl ?_
  refine kw_aload_n (pc := 1111) dL_law_1111 rfl ?_
  refine kw_callVr (pc := 1112) dL_law_1112 lL_90 (th_of e2) (ob_of e2) rfl rfl rfl ⟨by decide, by decide, Nat.le_of_ble_eq_true rfl⟩ ?_
  refine kw_iload (pc := 1115) dL_law_1115 rfl ?_
  refine kw_icmp_eq (tgt := 1122) (pc := 1117) dL_law_1117 (by decide) (fun _ => ?_) (fun h => absurd rfl h)
  refine kw_iload (pc := 1122) dL_law_1122 rfl ?_
  refine kw_if_ne (tgt := 1139) (pc := 1124) dL_law_1124 (by decide) (fun _ => ?_) (fun h0 => ?_)
  · refine kw_goto (tgt := 1502) (pc := 1139) dL_law_1139 (by decide) ?_
    exact kW.locs (K w2 n1 s2 q1 kp1 bf1 T1 c1 J2) ⟨rfl, rfl, rfl, rfl, rfl, trivial⟩
  · refine kw_aload_n (pc := 1127) dL_law_1127 rfl ?_
    refine kw_iconst (v := 0) (pc := 1128) dL_law_1128 (by decide) ?_
    refine kw_laload (pc := 1129) dL_law_1129 (outW_mM e2 hf) vp01 ?_
    refine kw_iload (pc := 1130) dL_law_1130 rfl ?_
    refine kw_i2l (pc := 1132) dL_law_1132 ?_
    refine kw_lcmp (pc := 1133) dL_law_1133 ?_
    refine kw_if_eq (tgt := 1139) (pc := 1134) dL_law_1134 (by decide) (fun _ => ?_) (fun h => absurd (by rw [show (0 : Int32).toNatClampNeg = 0 by decide, hz h0, hu h0]; exact lgc0) h)
    · refine kw_goto (tgt := 1502) (pc := 1139) dL_law_1139 (by decide) ?_
      exact kW.locs (K w2 n1 s2 q1 kp1 bf1 T1 c1 J2) ⟨rfl, rfl, rfl, rfl, rfl, trivial⟩
set_option maxRecDepth 100000 in
set_option maxHeartbeats 4000000 in
theorem lw_count {X : Nat × (Nat → Int32)} {rc rs n i : Nat} {w : kM} {s : Nat → Int32} {q : Nat} {kp bf : Nat → Int32} {T c : Nat} (hi : i + 6 ≤ X.1) (hX : X.1 ≤ 3072) (hrc : 1 ≤ rc) (hrs : 6 ≤ rs) (J : JS w s q kp bf T c) (O : opOK mL_count mX6_count [.int (X.2 (i + 1))] w s q kp bf T) (K : KK X rc rs i) : kW X mL_law 14 QL rc rs n w 1142 (L5 i) [] := by
  refine kw_aload_n (pc := 1142) dL_law_1142 rfl ?_
  refine kw_aload_nS (pc := 1143) dL_law_1143 rfl ?_
  refine kw_iload (pc := 1144) dL_law_1144 rfl ?_
  refine kw_iconst (v := 1) (pc := 1146) dL_law_1146 (by decide) ?_
  refine kw_iadd (pc := 1147) dL_law_1147 ?_
  refine kw_sldN (pc := 1148) (i := i + 1) rfl dL_law_1148 (kA (a := i) (b := 1) rfl (rfl : (1 : Int32) = nI 1)) (by omega) hX ?_
  refine kw_aload_n (pc := 1149) dL_law_1149 rfl ?_
  obtain ⟨z, v, s1, q1, kp1, bf1, T1, c1, ok1, tx1, hH, hMo⟩ := O
  refine kw_callSh (pc := 1150) dL_law_1150 lL_147 hH rfl rfl ⟨by decide, by decide, Nat.le_of_ble_eq_true rfl, hrc, hrs⟩ (fun w1 n1 hC1 => ?_)
  obtain ⟨C1, F1, f, hf, hz⟩ := hC1
  have M1 := J.2.1.fr (w' := w1) (fun a h1 h2 => F1 a h1 (by omega))
  obtain ⟨d, u, hd, hu, hM⟩ := hMo w1 M1
  obtain ⟨FM, hFM⟩ := M1.ob
  refine kw_istore (pc := 1153) dL_law_1153 (by decide) rfl ?_
  refine kw_aload_n (pc := 1155) dL_law_1155 rfl ?_
  refine kw_aload_nS (pc := 1156) dL_law_1156 rfl ?_
  refine kw_iload (pc := 1157) dL_law_1157 rfl ?_
  refine kw_iconst (v := 1) (pc := 1159) dL_law_1159 (by decide) ?_
  refine kw_iadd (pc := 1160) dL_law_1160 ?_
  refine kw_sldN (pc := 1161) (i := i + 1) rfl dL_law_1161 (kA (a := i) (b := 1) rfl (rfl : (1 : Int32) = nI 1)) (by omega) hX ?_
  refine kw_callVw1 (pc := 1162) dL_law_1162 lL_149 hM hFM rfl rfl rfl ⟨by omega, by decide, Nat.le_of_ble_eq_true rfl⟩ (fun w2 hw2 => ?_)
  obtain ⟨s2, co2, ma2, sp2, e2, ha2⟩ := hw2
  have J2 := JS.next C1 ⟨f, hf⟩ e2 ha2 ok1 tx1
  refine kw_istore (pc := 1165) dL_law_1165 (by decide) rfl ?_
  refine kw_aload_n (pc := 1167) dL_law_1167 rfl ?_
  refine kw_callVr (pc := 1168) dL_law_1168 lL_90 (th_of e2) (ob_of e2) rfl rfl rfl ⟨by decide, by decide, Nat.le_of_ble_eq_true rfl⟩ ?_
  refine kw_iload (pc := 1171) dL_law_1171 rfl ?_
  refine kw_icmp_eq (tgt := 1178) (pc := 1173) dL_law_1173 (by decide) (fun _ => ?_) (fun h => absurd rfl h)
  refine kw_iload (pc := 1178) dL_law_1178 rfl ?_
  refine kw_if_ne (tgt := 1195) (pc := 1180) dL_law_1180 (by decide) (fun _ => ?_) (fun h0 => ?_)
  · refine kw_goto (tgt := 1502) (pc := 1195) dL_law_1195 (by decide) ?_
    exact kW.locs (K w2 n1 s2 q1 kp1 bf1 T1 c1 J2) ⟨rfl, rfl, rfl, rfl, rfl, trivial⟩
  · refine kw_aload_n (pc := 1183) dL_law_1183 rfl ?_
    refine kw_iconst (v := 0) (pc := 1184) dL_law_1184 (by decide) ?_
    refine kw_laload (pc := 1185) dL_law_1185 (outW_mM e2 hf) vp01 ?_
    refine kw_iload (pc := 1186) dL_law_1186 rfl ?_
    refine kw_i2l (pc := 1188) dL_law_1188 ?_
    refine kw_lcmp (pc := 1189) dL_law_1189 ?_
    refine kw_if_eq (tgt := 1195) (pc := 1190) dL_law_1190 (by decide) (fun _ => ?_) (fun h => absurd (by rw [show (0 : Int32).toNatClampNeg = 0 by decide, hz h0, hu h0]; exact lgc0) h)
    · refine kw_goto (tgt := 1502) (pc := 1195) dL_law_1195 (by decide) ?_
      exact kW.locs (K w2 n1 s2 q1 kp1 bf1 T1 c1 J2) ⟨rfl, rfl, rfl, rfl, rfl, trivial⟩
set_option maxRecDepth 100000 in
set_option maxHeartbeats 4000000 in
theorem lw_setting {X : Nat × (Nat → Int32)} {rc rs n i : Nat} {w : kM} {s : Nat → Int32} {q : Nat} {kp bf : Nat → Int32} {T c : Nat} (hi : i + 6 ≤ X.1) (hX : X.1 ≤ 3072) (hrc : 1 ≤ rc) (hrs : 6 ≤ rs) (J : JS w s q kp bf T c) (O : opOK mL_setting mX6_setting [.int (X.2 (i + 1))] w s q kp bf T) (K : KK X rc rs i) : kW X mL_law 14 QL rc rs n w 1198 (L5 i) [] := by
  refine kw_aload_n (pc := 1198) dL_law_1198 rfl ?_
  refine kw_aload_nS (pc := 1199) dL_law_1199 rfl ?_
  refine kw_iload (pc := 1200) dL_law_1200 rfl ?_
  refine kw_iconst (v := 1) (pc := 1202) dL_law_1202 (by decide) ?_
  refine kw_iadd (pc := 1203) dL_law_1203 ?_
  refine kw_sldN (pc := 1204) (i := i + 1) rfl dL_law_1204 (kA (a := i) (b := 1) rfl (rfl : (1 : Int32) = nI 1)) (by omega) hX ?_
  refine kw_aload_n (pc := 1205) dL_law_1205 rfl ?_
  obtain ⟨z, v, s1, q1, kp1, bf1, T1, c1, ok1, tx1, hH, hMo⟩ := O
  refine kw_callSh (pc := 1206) dL_law_1206 lL_150 hH rfl rfl ⟨by decide, by decide, Nat.le_of_ble_eq_true rfl, hrc, hrs⟩ (fun w1 n1 hC1 => ?_)
  obtain ⟨C1, F1, f, hf, hz⟩ := hC1
  have M1 := J.2.1.fr (w' := w1) (fun a h1 h2 => F1 a h1 (by omega))
  obtain ⟨d, u, hd, hu, hM⟩ := hMo w1 M1
  obtain ⟨FM, hFM⟩ := M1.ob
  refine kw_istore (pc := 1209) dL_law_1209 (by decide) rfl ?_
  refine kw_aload_n (pc := 1211) dL_law_1211 rfl ?_
  refine kw_aload_nS (pc := 1212) dL_law_1212 rfl ?_
  refine kw_iload (pc := 1213) dL_law_1213 rfl ?_
  refine kw_iconst (v := 1) (pc := 1215) dL_law_1215 (by decide) ?_
  refine kw_iadd (pc := 1216) dL_law_1216 ?_
  refine kw_sldN (pc := 1217) (i := i + 1) rfl dL_law_1217 (kA (a := i) (b := 1) rfl (rfl : (1 : Int32) = nI 1)) (by omega) hX ?_
  refine kw_callVw1 (pc := 1218) dL_law_1218 lL_152 hM hFM rfl rfl rfl ⟨by omega, by decide, Nat.le_of_ble_eq_true rfl⟩ (fun w2 hw2 => ?_)
  obtain ⟨s2, co2, ma2, sp2, e2, ha2⟩ := hw2
  have J2 := JS.next C1 ⟨f, hf⟩ e2 ha2 ok1 tx1
  refine kw_istore (pc := 1221) dL_law_1221 (by decide) rfl ?_
  refine kw_aload_n (pc := 1223) dL_law_1223 rfl ?_
  refine kw_callVr (pc := 1224) dL_law_1224 lL_90 (th_of e2) (ob_of e2) rfl rfl rfl ⟨by decide, by decide, Nat.le_of_ble_eq_true rfl⟩ ?_
  refine kw_iload (pc := 1227) dL_law_1227 rfl ?_
  refine kw_icmp_eq (tgt := 1234) (pc := 1229) dL_law_1229 (by decide) (fun _ => ?_) (fun h => absurd rfl h)
  refine kw_iload (pc := 1234) dL_law_1234 rfl ?_
  refine kw_if_ne (tgt := 1251) (pc := 1236) dL_law_1236 (by decide) (fun _ => ?_) (fun h0 => ?_)
  · refine kw_goto (tgt := 1502) (pc := 1251) dL_law_1251 (by decide) ?_
    exact kW.locs (K w2 n1 s2 q1 kp1 bf1 T1 c1 J2) ⟨rfl, rfl, rfl, rfl, rfl, trivial⟩
  · refine kw_aload_n (pc := 1239) dL_law_1239 rfl ?_
    refine kw_iconst (v := 0) (pc := 1240) dL_law_1240 (by decide) ?_
    refine kw_laload (pc := 1241) dL_law_1241 (outW_mM e2 hf) vp01 ?_
    refine kw_iload (pc := 1242) dL_law_1242 rfl ?_
    refine kw_i2l (pc := 1244) dL_law_1244 ?_
    refine kw_lcmp (pc := 1245) dL_law_1245 ?_
    refine kw_if_eq (tgt := 1251) (pc := 1246) dL_law_1246 (by decide) (fun _ => ?_) (fun h => absurd (by rw [show (0 : Int32).toNatClampNeg = 0 by decide, hz h0, hu h0]; exact lgc0) h)
    · refine kw_goto (tgt := 1502) (pc := 1251) dL_law_1251 (by decide) ?_
      exact kW.locs (K w2 n1 s2 q1 kp1 bf1 T1 c1 J2) ⟨rfl, rfl, rfl, rfl, rfl, trivial⟩
set_option maxRecDepth 100000 in
set_option maxHeartbeats 4000000 in
theorem lw_cheapestWay {X : Nat × (Nat → Int32)} {rc rs n i : Nat} {w : kM} {s : Nat → Int32} {q : Nat} {kp bf : Nat → Int32} {T c : Nat} (hi : i + 6 ≤ X.1) (hX : X.1 ≤ 3072) (hrc : 1 ≤ rc) (hrs : 6 ≤ rs) (J : JS w s q kp bf T c) (O : opOK mL_cheapestWay mX6_cheapestWay [.int (X.2 (i + 1))] w s q kp bf T) (K : KK X rc rs i) : kW X mL_law 14 QL rc rs n w 1254 (L5 i) [] := by
  refine kw_aload_n (pc := 1254) dL_law_1254 rfl ?_
  refine kw_aload_nS (pc := 1255) dL_law_1255 rfl ?_
  refine kw_iload (pc := 1256) dL_law_1256 rfl ?_
  refine kw_iconst (v := 1) (pc := 1258) dL_law_1258 (by decide) ?_
  refine kw_iadd (pc := 1259) dL_law_1259 ?_
  refine kw_sldN (pc := 1260) (i := i + 1) rfl dL_law_1260 (kA (a := i) (b := 1) rfl (rfl : (1 : Int32) = nI 1)) (by omega) hX ?_
  refine kw_aload_n (pc := 1261) dL_law_1261 rfl ?_
  obtain ⟨z, v, s1, q1, kp1, bf1, T1, c1, ok1, tx1, hH, hMo⟩ := O
  refine kw_callSh (pc := 1262) dL_law_1262 lL_153 hH rfl rfl ⟨by decide, by decide, Nat.le_of_ble_eq_true rfl, hrc, hrs⟩ (fun w1 n1 hC1 => ?_)
  obtain ⟨C1, F1, f, hf, hz⟩ := hC1
  have M1 := J.2.1.fr (w' := w1) (fun a h1 h2 => F1 a h1 (by omega))
  obtain ⟨d, u, hd, hu, hM⟩ := hMo w1 M1
  obtain ⟨FM, hFM⟩ := M1.ob
  refine kw_istore (pc := 1265) dL_law_1265 (by decide) rfl ?_
  refine kw_aload_n (pc := 1267) dL_law_1267 rfl ?_
  refine kw_aload_nS (pc := 1268) dL_law_1268 rfl ?_
  refine kw_iload (pc := 1269) dL_law_1269 rfl ?_
  refine kw_iconst (v := 1) (pc := 1271) dL_law_1271 (by decide) ?_
  refine kw_iadd (pc := 1272) dL_law_1272 ?_
  refine kw_sldN (pc := 1273) (i := i + 1) rfl dL_law_1273 (kA (a := i) (b := 1) rfl (rfl : (1 : Int32) = nI 1)) (by omega) hX ?_
  refine kw_callVw1 (pc := 1274) dL_law_1274 lL_155 hM hFM rfl rfl rfl ⟨by omega, by decide, Nat.le_of_ble_eq_true rfl⟩ (fun w2 hw2 => ?_)
  obtain ⟨s2, co2, ma2, sp2, e2, ha2⟩ := hw2
  have J2 := JS.next C1 ⟨f, hf⟩ e2 ha2 ok1 tx1
  refine kw_istore (pc := 1277) dL_law_1277 (by decide) rfl ?_
  refine kw_aload_n (pc := 1279) dL_law_1279 rfl ?_
  refine kw_callVr (pc := 1280) dL_law_1280 lL_90 (th_of e2) (ob_of e2) rfl rfl rfl ⟨by decide, by decide, Nat.le_of_ble_eq_true rfl⟩ ?_
  refine kw_iload (pc := 1283) dL_law_1283 rfl ?_
  refine kw_icmp_eq (tgt := 1290) (pc := 1285) dL_law_1285 (by decide) (fun _ => ?_) (fun h => absurd rfl h)
  refine kw_iload (pc := 1290) dL_law_1290 rfl ?_
  refine kw_if_ne (tgt := 1307) (pc := 1292) dL_law_1292 (by decide) (fun _ => ?_) (fun h0 => ?_)
  · refine kw_goto (tgt := 1502) (pc := 1307) dL_law_1307 (by decide) ?_
    exact kW.locs (K w2 n1 s2 q1 kp1 bf1 T1 c1 J2) ⟨rfl, rfl, rfl, rfl, rfl, trivial⟩
  · refine kw_aload_n (pc := 1295) dL_law_1295 rfl ?_
    refine kw_iconst (v := 0) (pc := 1296) dL_law_1296 (by decide) ?_
    refine kw_laload (pc := 1297) dL_law_1297 (outW_mM e2 hf) vp01 ?_
    refine kw_iload (pc := 1298) dL_law_1298 rfl ?_
    refine kw_i2l (pc := 1300) dL_law_1300 ?_
    refine kw_lcmp (pc := 1301) dL_law_1301 ?_
    refine kw_if_eq (tgt := 1307) (pc := 1302) dL_law_1302 (by decide) (fun _ => ?_) (fun h => absurd (by rw [show (0 : Int32).toNatClampNeg = 0 by decide, hz h0, hu h0]; exact lgc0) h)
    · refine kw_goto (tgt := 1502) (pc := 1307) dL_law_1307 (by decide) ?_
      exact kW.locs (K w2 n1 s2 q1 kp1 bf1 T1 c1 J2) ⟨rfl, rfl, rfl, rfl, rfl, trivial⟩
set_option maxRecDepth 100000 in
set_option maxHeartbeats 4000000 in
theorem lw_ifBundled {X : Nat × (Nat → Int32)} {rc rs n i : Nat} {w : kM} {s : Nat → Int32} {q : Nat} {kp bf : Nat → Int32} {T c : Nat} (hi : i + 6 ≤ X.1) (hX : X.1 ≤ 3072) (hrc : 1 ≤ rc) (hrs : 6 ≤ rs) (J : JS w s q kp bf T c) (O : opOK mL_ifBundled mX6_ifBundled [.int (X.2 (i + 1)), .int (X.2 (i + 2))] w s q kp bf T) (K : KK X rc rs i) : kW X mL_law 14 QL rc rs n w 1310 (L5 i) [] := by
  refine kw_aload_n (pc := 1310) dL_law_1310 rfl ?_
  refine kw_aload_nS (pc := 1311) dL_law_1311 rfl ?_
  refine kw_iload (pc := 1312) dL_law_1312 rfl ?_
  refine kw_iconst (v := 1) (pc := 1314) dL_law_1314 (by decide) ?_
  refine kw_iadd (pc := 1315) dL_law_1315 ?_
  refine kw_sldN (pc := 1316) (i := i + 1) rfl dL_law_1316 (kA (a := i) (b := 1) rfl (rfl : (1 : Int32) = nI 1)) (by omega) hX ?_
  refine kw_aload_nS (pc := 1317) dL_law_1317 rfl ?_
  refine kw_iload (pc := 1318) dL_law_1318 rfl ?_
  refine kw_iconst (v := 2) (pc := 1320) dL_law_1320 (by decide) ?_
  refine kw_iadd (pc := 1321) dL_law_1321 ?_
  refine kw_sldN (pc := 1322) (i := i + 2) rfl dL_law_1322 (kA (a := i) (b := 2) rfl (rfl : (2 : Int32) = nI 2)) (by omega) hX ?_
  refine kw_aload_n (pc := 1323) dL_law_1323 rfl ?_
  obtain ⟨z, v, s1, q1, kp1, bf1, T1, c1, ok1, tx1, hH, hMo⟩ := O
  refine kw_callSh (pc := 1324) dL_law_1324 lL_156 hH rfl rfl ⟨by decide, by decide, Nat.le_of_ble_eq_true rfl, hrc, hrs⟩ (fun w1 n1 hC1 => ?_)
  obtain ⟨C1, F1, f, hf, hz⟩ := hC1
  have M1 := J.2.1.fr (w' := w1) (fun a h1 h2 => F1 a h1 (by omega))
  obtain ⟨d, u, hd, hu, hM⟩ := hMo w1 M1
  obtain ⟨FM, hFM⟩ := M1.ob
  refine kw_istore (pc := 1327) dL_law_1327 (by decide) rfl ?_
  refine kw_aload_n (pc := 1329) dL_law_1329 rfl ?_
  refine kw_aload_nS (pc := 1330) dL_law_1330 rfl ?_
  refine kw_iload (pc := 1331) dL_law_1331 rfl ?_
  refine kw_iconst (v := 1) (pc := 1333) dL_law_1333 (by decide) ?_
  refine kw_iadd (pc := 1334) dL_law_1334 ?_
  refine kw_sldN (pc := 1335) (i := i + 1) rfl dL_law_1335 (kA (a := i) (b := 1) rfl (rfl : (1 : Int32) = nI 1)) (by omega) hX ?_
  refine kw_aload_nS (pc := 1336) dL_law_1336 rfl ?_
  refine kw_iload (pc := 1337) dL_law_1337 rfl ?_
  refine kw_iconst (v := 2) (pc := 1339) dL_law_1339 (by decide) ?_
  refine kw_iadd (pc := 1340) dL_law_1340 ?_
  refine kw_sldN (pc := 1341) (i := i + 2) rfl dL_law_1341 (kA (a := i) (b := 2) rfl (rfl : (2 : Int32) = nI 2)) (by omega) hX ?_
  refine kw_callVw1 (pc := 1342) dL_law_1342 lL_158 hM hFM rfl rfl rfl ⟨by omega, by decide, Nat.le_of_ble_eq_true rfl⟩ (fun w2 hw2 => ?_)
  obtain ⟨s2, co2, ma2, sp2, e2, ha2⟩ := hw2
  have J2 := JS.next C1 ⟨f, hf⟩ e2 ha2 ok1 tx1
  refine kw_istore (pc := 1345) dL_law_1345 (by decide) rfl ?_
  refine kw_aload_n (pc := 1347) dL_law_1347 rfl ?_
  refine kw_callVr (pc := 1348) dL_law_1348 lL_90 (th_of e2) (ob_of e2) rfl rfl rfl ⟨by decide, by decide, Nat.le_of_ble_eq_true rfl⟩ ?_
  refine kw_iload (pc := 1351) dL_law_1351 rfl ?_
  refine kw_icmp_eq (tgt := 1358) (pc := 1353) dL_law_1353 (by decide) (fun _ => ?_) (fun h => absurd rfl h)
  refine kw_iload (pc := 1358) dL_law_1358 rfl ?_
  refine kw_if_ne (tgt := 1375) (pc := 1360) dL_law_1360 (by decide) (fun _ => ?_) (fun h0 => ?_)
  · refine kw_goto (tgt := 1502) (pc := 1375) dL_law_1375 (by decide) ?_
    exact kW.locs (K w2 n1 s2 q1 kp1 bf1 T1 c1 J2) ⟨rfl, rfl, rfl, rfl, rfl, trivial⟩
  · refine kw_aload_n (pc := 1363) dL_law_1363 rfl ?_
    refine kw_iconst (v := 0) (pc := 1364) dL_law_1364 (by decide) ?_
    refine kw_laload (pc := 1365) dL_law_1365 (outW_mM e2 hf) vp01 ?_
    refine kw_iload (pc := 1366) dL_law_1366 rfl ?_
    refine kw_i2l (pc := 1368) dL_law_1368 ?_
    refine kw_lcmp (pc := 1369) dL_law_1369 ?_
    refine kw_if_eq (tgt := 1375) (pc := 1370) dL_law_1370 (by decide) (fun _ => ?_) (fun h => absurd (by rw [show (0 : Int32).toNatClampNeg = 0 by decide, hz h0, hu h0]; exact lgc0) h)
    · refine kw_goto (tgt := 1502) (pc := 1375) dL_law_1375 (by decide) ?_
      exact kW.locs (K w2 n1 s2 q1 kp1 bf1 T1 c1 J2) ⟨rfl, rfl, rfl, rfl, rfl, trivial⟩
set_option maxRecDepth 100000 in
set_option maxHeartbeats 4000000 in
theorem lw_cheapest {X : Nat × (Nat → Int32)} {rc rs n i : Nat} {w : kM} {s : Nat → Int32} {q : Nat} {kp bf : Nat → Int32} {T c : Nat} (hi : i + 6 ≤ X.1) (hX : X.1 ≤ 3072) (hrc : 1 ≤ rc) (hrs : 6 ≤ rs) (J : JS w s q kp bf T c) (O : opOK mL_cheapest mX6_cheapest [.int (X.2 (i + 1))] w s q kp bf T) (K : KK X rc rs i) : kW X mL_law 14 QL rc rs n w 1378 (L5 i) [] := by
  refine kw_aload_n (pc := 1378) dL_law_1378 rfl ?_
  refine kw_aload_nS (pc := 1379) dL_law_1379 rfl ?_
  refine kw_iload (pc := 1380) dL_law_1380 rfl ?_
  refine kw_iconst (v := 1) (pc := 1382) dL_law_1382 (by decide) ?_
  refine kw_iadd (pc := 1383) dL_law_1383 ?_
  refine kw_sldN (pc := 1384) (i := i + 1) rfl dL_law_1384 (kA (a := i) (b := 1) rfl (rfl : (1 : Int32) = nI 1)) (by omega) hX ?_
  refine kw_aload_n (pc := 1385) dL_law_1385 rfl ?_
  obtain ⟨z, v, s1, q1, kp1, bf1, T1, c1, ok1, tx1, hH, hMo⟩ := O
  refine kw_callSh (pc := 1386) dL_law_1386 lL_159 hH rfl rfl ⟨by decide, by decide, Nat.le_of_ble_eq_true rfl, hrc, hrs⟩ (fun w1 n1 hC1 => ?_)
  obtain ⟨C1, F1, f, hf, hz⟩ := hC1
  have M1 := J.2.1.fr (w' := w1) (fun a h1 h2 => F1 a h1 (by omega))
  obtain ⟨d, u, hd, hu, hM⟩ := hMo w1 M1
  obtain ⟨FM, hFM⟩ := M1.ob
  refine kw_istore (pc := 1389) dL_law_1389 (by decide) rfl ?_
  refine kw_aload_n (pc := 1391) dL_law_1391 rfl ?_
  refine kw_aload_nS (pc := 1392) dL_law_1392 rfl ?_
  refine kw_iload (pc := 1393) dL_law_1393 rfl ?_
  refine kw_iconst (v := 1) (pc := 1395) dL_law_1395 (by decide) ?_
  refine kw_iadd (pc := 1396) dL_law_1396 ?_
  refine kw_sldN (pc := 1397) (i := i + 1) rfl dL_law_1397 (kA (a := i) (b := 1) rfl (rfl : (1 : Int32) = nI 1)) (by omega) hX ?_
  refine kw_callVw1 (pc := 1398) dL_law_1398 lL_161 hM hFM rfl rfl rfl ⟨by omega, by decide, Nat.le_of_ble_eq_true rfl⟩ (fun w2 hw2 => ?_)
  obtain ⟨s2, co2, ma2, sp2, e2, ha2⟩ := hw2
  have J2 := JS.next C1 ⟨f, hf⟩ e2 ha2 ok1 tx1
  refine kw_istore (pc := 1401) dL_law_1401 (by decide) rfl ?_
  refine kw_aload_n (pc := 1403) dL_law_1403 rfl ?_
  refine kw_callVr (pc := 1404) dL_law_1404 lL_90 (th_of e2) (ob_of e2) rfl rfl rfl ⟨by decide, by decide, Nat.le_of_ble_eq_true rfl⟩ ?_
  refine kw_iload (pc := 1407) dL_law_1407 rfl ?_
  refine kw_icmp_eq (tgt := 1414) (pc := 1409) dL_law_1409 (by decide) (fun _ => ?_) (fun h => absurd rfl h)
  refine kw_iload (pc := 1414) dL_law_1414 rfl ?_
  refine kw_if_ne (tgt := 1431) (pc := 1416) dL_law_1416 (by decide) (fun _ => ?_) (fun h0 => ?_)
  · refine kw_goto (tgt := 1502) (pc := 1431) dL_law_1431 (by decide) ?_
    exact kW.locs (K w2 n1 s2 q1 kp1 bf1 T1 c1 J2) ⟨rfl, rfl, rfl, rfl, rfl, trivial⟩
  · refine kw_aload_n (pc := 1419) dL_law_1419 rfl ?_
    refine kw_iconst (v := 0) (pc := 1420) dL_law_1420 (by decide) ?_
    refine kw_laload (pc := 1421) dL_law_1421 (outW_mM e2 hf) vp01 ?_
    refine kw_iload (pc := 1422) dL_law_1422 rfl ?_
    refine kw_i2l (pc := 1424) dL_law_1424 ?_
    refine kw_lcmp (pc := 1425) dL_law_1425 ?_
    refine kw_if_eq (tgt := 1431) (pc := 1426) dL_law_1426 (by decide) (fun _ => ?_) (fun h => absurd (by rw [show (0 : Int32).toNatClampNeg = 0 by decide, hz h0, hu h0]; exact lgc0) h)
    · refine kw_goto (tgt := 1502) (pc := 1431) dL_law_1431 (by decide) ?_
      exact kW.locs (K w2 n1 s2 q1 kp1 bf1 T1 c1 J2) ⟨rfl, rfl, rfl, rfl, rfl, trivial⟩
