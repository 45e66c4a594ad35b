def dgT (s : Nat → Int32) (sv : Int32) (kp : Nat → Int32) (T c : Nat) : Int64 := fo (fo (fo (31 * dgB s sv c + (shS s c).toInt64) (if kp 0 = 0 then 0 else 1)) (if kp 1 = 0 then 0 else 1)) (nI T)
theorem opF_step {s : Nat → Int32} {c k : Nat} {x : Int64} : opH s c (k + 1) x = opF s c (opH s c k x) k := rfl
theorem rwH_step {f : Nat → Int32} {j : Nat} {x : Int64} : rwH f (j + 1) x = fo (rwH f j x) (f j) := rfl
set_option maxRecDepth 100000 in
set_option maxHeartbeats 4000000 in
theorem c_digest {w0 : kM} {mo : Nat} {s : Nat → Int32} {sv : Int32} {kp bf : Nat → Int32} {ty th : Int32} {co ma : Nat → Int32} {sp : Int32}  {T c : Nat} (hT : ty = nI T) (hT60 : T ≤ 60) (H : fineS s c) : kCtrW mX6_digest 8 [.ref mo] (mM w0 mo s sv kp bf ty th co ma sp) (some (.long (dgF s sv kp bf T c))) (fun w' => mSt w0 mo s sv kp bf ty 0 w') := by
  refine kCtrW.of pl6 nlX6_digest rfl (Nat.le_of_ble_eq_true rfl) (fun n => ?_)
  subst hT
  have hc := H.2.1
  have hc7 := H.1
  have tail : ∀ (m j : Nat) (s1 co1 ma1 : Nat → Int32) (sp1 : Int32), m = T - j → j ≤ T → agr s s1 → kW (0, fun _ => 0) mX6_digest 8 (fun o w' n' => o = .inl (some (.long (dgF s sv kp bf T c))) ∧ (fun w' => mSt w0 mo s sv kp bf (nI T) 0 w') w' ∧ n' = n) 0 0 n (mM w0 mo s1 sv kp bf (nI T) 0 co1 ma1 sp1) 257 [(0, .ref mo), (1, .long (rwH bf j (dgT s sv kp T c))), (3, .int (nI j))] [] := by
    intro m
    induction m using Nat.strongRecOn with
    | _ m ih =>
      intro j s1 co1 ma1 sp1 hm hj ha1
      refine kw_iload_n (pc := 257) dX6_digest_257 rfl ?_
      refine kw_aload_n (pc := 258) dX6_digest_258 rfl ?_
      refine kw_getfield (pc := 259) kfw dX6_digest_259 fX6_135 mM_0 rfl ?_
      refine kw_icmp_ge (tgt := 285) (pc := 262) dX6_digest_262 (by decide) (fun h262 => ?_) (fun h262 => ?_)
      · have h262 := (kLeI (a := T) (b := j) (by omega) (by omega) rfl rfl).mp h262
        refine kw_lload_n (pc := 285) dX6_digest_285 rfl ?_
        exact kw_lreturn nlX6_digest (pc := 286) dX6_digest_286 rfl ⟨kv_eql (by rw [show j = T by omega]; rfl), ⟨s1, _, _, _, rfl, ha1⟩, rfl⟩
      · have h262 := mt (kLeI (a := T) (b := j) (by omega) (by omega) rfl rfl).mpr h262
        refine kw_ldc2 (pc := 265) dX6_digest_265 gX6_190 ?_
        refine kw_lload_n (pc := 268) dX6_digest_268 rfl ?_
        refine kw_lmul (pc := 269) dX6_digest_269 ?_
        refine kw_aload_n (pc := 270) dX6_digest_270 rfl ?_
        refine kw_getfield (pc := 271) kfw dX6_digest_271 fX6_17 mM_0 rfl ?_
        refine kw_iload_n (pc := 274) dX6_digest_274 rfl ?_
        refine kw_caloadN (pc := 275) (i := j) dX6_digest_275 mM_3 rfl (by omega) (by decide) ?_
        refine kw_i2l (pc := 276) dX6_digest_276 ?_
        refine kw_ladd (pc := 277) dX6_digest_277 ?_
        refine kw_lstore_n (pc := 278) dX6_digest_278 (by decide) rfl ?_
        refine kw_iinc (pc := 279) dX6_digest_279 (by decide) rfl rfl rfl ?_
        refine kw_goto (tgt := 257) (pc := 282) dX6_digest_282 (by decide) ?_
        exact kW.locs (ih (T - (j + 1)) (by omega) (j + 1) s1 co1 ma1 sp1 rfl (by omega) ha1) ⟨rfl, kgEl rfl rfl, kgE rfl (kA (a := j) (b := 1) rfl (rfl : (Int32.ofInt 1) = nI 1)), trivial⟩
  have loop3 : ∀ (m k : Nat) (s1 : Nat → Int32), m = c - k → k ≤ c → agr s s1 → kW (0, fun _ => 0) mX6_digest 8 (fun o w' n' => o = .inl (some (.long (dgF s sv kp bf T c))) ∧ (fun w' => mSt w0 mo s sv kp bf (nI T) 0 w') w' ∧ n' = n) 0 0 n (mM w0 mo s1 sv kp bf (nI T) th co ma sp) 123 [(0, .ref mo), (1, .long (opH s c k (dgA s sv c))), (3, .int (nI k))] [] := by
    intro m
    induction m using Nat.strongRecOn with
    | _ m ih =>
      intro k s1 hm hk ha1
      refine kw_iload_n (pc := 123) dX6_digest_123 rfl ?_
      refine kw_aload_n (pc := 124) dX6_digest_124 rfl ?_
      refine kw_getfield (pc := 125) kfw dX6_digest_125 fX6_7 mM_0 rfl ?_
      refine kw_bipush (v := 20) (pc := 128) dX6_digest_128 (by decide) ?_
      refine kw_ialoadN (pc := 130) (i := 20) dX6_digest_130 mM_1 (rfl : (20 : Int32) = nI 20) (by omega) (by decide) ?_
      refine kw_icmp_ge (tgt := 147) (pc := 131) dX6_digest_131 (by decide) (fun h131 => ?_) (fun h131 => ?_)
      · have h131 := (kLeI (a := c) (b := k) (by omega) (by omega) ((ha1 20 (by decide)).trans hc) rfl).mp h131
        obtain rfl : c = k := by omega
        refine kw_ldc2 (pc := 147) dX6_digest_147 gX6_190 ?_
        refine kw_lload_n (pc := 150) dX6_digest_150 rfl ?_
        refine kw_lmul (pc := 151) dX6_digest_151 ?_
        refine kw_aload_n (pc := 152) dX6_digest_152 rfl ?_
        refine kw_iconst (v := 0) (pc := 153) dX6_digest_153 (by decide) ?_
        refine kw_callVw1 (pc := 154) dX6_digest_154 lX6_184 (c_least (H.agr ha1) _) mM_0 rfl rfl rfl ⟨by decide, by decide, Nat.le_of_ble_eq_true rfl⟩ (fun w1 hw1 => ?_)
        obtain ⟨s2, co2, ma2, rfl, hb2⟩ := hw1
        have ha2 := ha1.tr hb2
        refine kw_i2l (pc := 157) dX6_digest_157 ?_
        refine kw_ladd (pc := 158) dX6_digest_158 ?_
        refine kw_lstore_n (pc := 159) dX6_digest_159 (by decide) rfl ?_
        refine kW.locs (L' := [(0, .ref mo), (1, .long (fo (opH s c c (dgA s sv c)) (setC (alS s) (bdS s) c)))]) ?_ ⟨rfl, kgEl rfl (by rw [if_pos rfl, setC_agr H ha1]), trivial⟩
        refine kw_ldc2 (pc := 160) dX6_digest_160 gX6_190 ?_
        refine kw_lload_n (pc := 163) dX6_digest_163 rfl ?_
        refine kw_lmul (pc := 164) dX6_digest_164 ?_
        refine kw_aload_n (pc := 165) dX6_digest_165 rfl ?_
        refine kw_iconst (v := 1) (pc := 166) dX6_digest_166 (by decide) ?_
        refine kw_callVw1 (pc := 167) dX6_digest_167 lX6_184 (c_least (H.agr ha2) _) mM_0 rfl rfl rfl ⟨by decide, by decide, Nat.le_of_ble_eq_true rfl⟩ (fun w1 hw1 => ?_)
        obtain ⟨s3, co3, ma3, rfl, hb3⟩ := hw1
        have ha3 := ha2.tr hb3
        refine kw_i2l (pc := 170) dX6_digest_170 ?_
        refine kw_ladd (pc := 171) dX6_digest_171 ?_
        refine kw_lstore_n (pc := 172) dX6_digest_172 (by decide) rfl ?_
        refine kW.locs (L' := [(0, .ref mo), (1, .long (fo (fo (opH s c c (dgA s sv c)) (setC (alS s) (bdS s) c)) (tryC s c)))]) ?_ ⟨rfl, kgEl rfl (by rw [if_neg (by decide)]; show 31 * _ + (tryC s2 c).toInt64 = _; rw [tryC_agr H ha2]), trivial⟩
        refine kw_ldc2 (pc := 173) dX6_digest_173 gX6_190 ?_
        refine kw_lload_n (pc := 176) dX6_digest_176 rfl ?_
        refine kw_lmul (pc := 177) dX6_digest_177 ?_
        refine kw_aload_n (pc := 178) dX6_digest_178 rfl ?_
        refine kw_callVr (pc := 179) dX6_digest_179 lX6_187 (c_dearestParcel (H.agr ha3).2.1 hc7 (fun k hk => ((H.agr ha3).2.2.1 k hk).1)) mM_0 rfl rfl rfl ⟨by decide, by decide, Nat.le_of_ble_eq_true rfl⟩ ?_
        refine kw_i2l (pc := 182) dX6_digest_182 ?_
        refine kw_ladd (pc := 183) dX6_digest_183 ?_
        refine kw_lstore_n (pc := 184) dX6_digest_184 (by decide) rfl ?_
        refine kW.locs (L' := [(0, .ref mo), (1, .long (dgB s sv c))]) ?_ ⟨rfl, kgEl rfl (by rw [dpN_agr H ha3 c (Nat.le_refl _)]; rfl), trivial⟩
        refine kw_ldc2 (pc := 185) dX6_digest_185 gX6_190 ?_
        refine kw_lload_n (pc := 188) dX6_digest_188 rfl ?_
        refine kw_lmul (pc := 189) dX6_digest_189 ?_
        refine kw_aload_n (pc := 190) dX6_digest_190 rfl ?_
        refine kw_callVw1 (pc := 191) dX6_digest_191 lX6_198 (c_savedShare (H.agr ha3)) mM_0 rfl rfl rfl ⟨by decide, by decide, Nat.le_of_ble_eq_true rfl⟩ (fun w1 hw1 => ?_)
        obtain ⟨s4, co4, ma4, sp4, rfl, hb4⟩ := hw1
        have ha4 := ha3.tr hb4
        refine kw_callSr (pc := 194) dX6_digest_194 lX6_202 (c_bits (shV_ok _ _)) rfl rfl ⟨by decide, by decide, Nat.le_of_ble_eq_true rfl⟩ ?_
        refine kw_ladd (pc := 197) dX6_digest_197 ?_
        refine kw_lstore_n (pc := 198) dX6_digest_198 (by decide) rfl ?_
        refine kW.locs (L' := [(0, .ref mo), (1, .long (31 * dgB s sv c + (shS s c).toInt64))]) ?_ ⟨rfl, kgEl rfl (by show 31 * _ + (shS s3 c).toInt64 = _; rw [shS_agr H ha3]), trivial⟩
        refine kw_ldc2 (pc := 199) dX6_digest_199 gX6_190 ?_
        refine kw_lload_n (pc := 202) dX6_digest_202 rfl ?_
        refine kw_lmul (pc := 203) dX6_digest_203 ?_
        refine kw_aload_n (pc := 204) dX6_digest_204 rfl ?_
        refine kw_getfield (pc := 205) kfw dX6_digest_205 fX6_13 mM_0 rfl ?_
        refine kw_iconst (v := 0) (pc := 208) dX6_digest_208 (by decide) ?_
        refine kw_zaloadN (pc := 209) (i := 0) dX6_digest_209 mM_2 (rfl : (0 : Int32) = nI 0) (by omega) (by decide) ?_
        refine kw_if_eq (tgt := 217) (pc := 210) dX6_digest_210 (by decide) (fun h210 => ?_) (fun h210 => ?_)
        · refine kw_iconst (v := 0) (pc := 217) dX6_digest_217 (by decide) ?_
          refine kw_i2l (pc := 218) dX6_digest_218 ?_
          refine kw_ladd (pc := 219) dX6_digest_219 ?_
          refine kw_lstore_n (pc := 220) dX6_digest_220 (by decide) rfl ?_
          refine kw_ldc2 (pc := 221) dX6_digest_221 gX6_190 ?_
          refine kw_lload_n (pc := 224) dX6_digest_224 rfl ?_
          refine kw_lmul (pc := 225) dX6_digest_225 ?_
          refine kw_aload_n (pc := 226) dX6_digest_226 rfl ?_
          refine kw_getfield (pc := 227) kfw dX6_digest_227 fX6_13 mM_0 rfl ?_
          refine kw_iconst (v := 1) (pc := 230) dX6_digest_230 (by decide) ?_
          refine kw_zaloadN (pc := 231) (i := 1) dX6_digest_231 mM_2 (rfl : (1 : Int32) = nI 1) (by omega) (by decide) ?_
          refine kw_if_eq (tgt := 239) (pc := 232) dX6_digest_232 (by decide) (fun h232 => ?_) (fun h232 => ?_)
          · refine kw_iconst (v := 0) (pc := 239) dX6_digest_239 (by decide) ?_
            refine kw_i2l (pc := 240) dX6_digest_240 ?_
            refine kw_ladd (pc := 241) dX6_digest_241 ?_
            refine kw_lstore_n (pc := 242) dX6_digest_242 (by decide) rfl ?_
            refine kw_ldc2 (pc := 243) dX6_digest_243 gX6_190 ?_
            refine kw_lload_n (pc := 246) dX6_digest_246 rfl ?_
            refine kw_lmul (pc := 247) dX6_digest_247 ?_
            refine kw_aload_n (pc := 248) dX6_digest_248 rfl ?_
            refine kw_getfield (pc := 249) kfw dX6_digest_249 fX6_135 mM_0 rfl ?_
            refine kw_i2l (pc := 252) dX6_digest_252 ?_
            refine kw_ladd (pc := 253) dX6_digest_253 ?_
            refine kw_lstore_n (pc := 254) dX6_digest_254 (by decide) rfl ?_
            refine kw_iconst (v := 0) (pc := 255) dX6_digest_255 (by decide) ?_
            refine kw_istore_n (pc := 256) dX6_digest_256 (by decide) rfl ?_
            exact kW.locs (tail (T - 0) 0 s4 co4 ma4 sp4 rfl (Nat.zero_le _) ha4) ⟨rfl, kgEl rfl (by simp only [dgT, rwH, h210, h232, if_true, if_false]), rfl, trivial⟩
          · refine kw_iconst (v := 1) (pc := 235) dX6_digest_235 (by decide) ?_
            refine kw_goto (tgt := 240) (pc := 236) dX6_digest_236 (by decide) ?_
            refine kw_i2l (pc := 240) dX6_digest_240 ?_
            refine kw_ladd (pc := 241) dX6_digest_241 ?_
            refine kw_lstore_n (pc := 242) dX6_digest_242 (by decide) rfl ?_
            refine kw_ldc2 (pc := 243) dX6_digest_243 gX6_190 ?_
            refine kw_lload_n (pc := 246) dX6_digest_246 rfl ?_
            refine kw_lmul (pc := 247) dX6_digest_247 ?_
            refine kw_aload_n (pc := 248) dX6_digest_248 rfl ?_
            refine kw_getfield (pc := 249) kfw dX6_digest_249 fX6_135 mM_0 rfl ?_
            refine kw_i2l (pc := 252) dX6_digest_252 ?_
            refine kw_ladd (pc := 253) dX6_digest_253 ?_
            refine kw_lstore_n (pc := 254) dX6_digest_254 (by decide) rfl ?_
            refine kw_iconst (v := 0) (pc := 255) dX6_digest_255 (by decide) ?_
            refine kw_istore_n (pc := 256) dX6_digest_256 (by decide) rfl ?_
            exact kW.locs (tail (T - 0) 0 s4 co4 ma4 sp4 rfl (Nat.zero_le _) ha4) ⟨rfl, kgEl rfl (by simp only [dgT, rwH, h210, h232, if_true, if_false]), rfl, trivial⟩
        · refine kw_iconst (v := 1) (pc := 213) dX6_digest_213 (by decide) ?_
          refine kw_goto (tgt := 218) (pc := 214) dX6_digest_214 (by decide) ?_
          refine kw_i2l (pc := 218) dX6_digest_218 ?_
          refine kw_ladd (pc := 219) dX6_digest_219 ?_
          refine kw_lstore_n (pc := 220) dX6_digest_220 (by decide) rfl ?_
          refine kw_ldc2 (pc := 221) dX6_digest_221 gX6_190 ?_
          refine kw_lload_n (pc := 224) dX6_digest_224 rfl ?_
          refine kw_lmul (pc := 225) dX6_digest_225 ?_
          refine kw_aload_n (pc := 226) dX6_digest_226 rfl ?_
          refine kw_getfield (pc := 227) kfw dX6_digest_227 fX6_13 mM_0 rfl ?_
          refine kw_iconst (v := 1) (pc := 230) dX6_digest_230 (by decide) ?_
          refine kw_zaloadN (pc := 231) (i := 1) dX6_digest_231 mM_2 (rfl : (1 : Int32) = nI 1) (by omega) (by decide) ?_
          refine kw_if_eq (tgt := 239) (pc := 232) dX6_digest_232 (by decide) (fun h232 => ?_) (fun h232 => ?_)
          · refine kw_iconst (v := 0) (pc := 239) dX6_digest_239 (by decide) ?_
            refine kw_i2l (pc := 240) dX6_digest_240 ?_
            refine kw_ladd (pc := 241) dX6_digest_241 ?_
            refine kw_lstore_n (pc := 242) dX6_digest_242 (by decide) rfl ?_
            refine kw_ldc2 (pc := 243) dX6_digest_243 gX6_190 ?_
            refine kw_lload_n (pc := 246) dX6_digest_246 rfl ?_
            refine kw_lmul (pc := 247) dX6_digest_247 ?_
            refine kw_aload_n (pc := 248) dX6_digest_248 rfl ?_
            refine kw_getfield (pc := 249) kfw dX6_digest_249 fX6_135 mM_0 rfl ?_
            refine kw_i2l (pc := 252) dX6_digest_252 ?_
            refine kw_ladd (pc := 253) dX6_digest_253 ?_
            refine kw_lstore_n (pc := 254) dX6_digest_254 (by decide) rfl ?_
            refine kw_iconst (v := 0) (pc := 255) dX6_digest_255 (by decide) ?_
            refine kw_istore_n (pc := 256) dX6_digest_256 (by decide) rfl ?_
            exact kW.locs (tail (T - 0) 0 s4 co4 ma4 sp4 rfl (Nat.zero_le _) ha4) ⟨rfl, kgEl rfl (by simp only [dgT, rwH, h210, h232, if_true, if_false]), rfl, trivial⟩
          · refine kw_iconst (v := 1) (pc := 235) dX6_digest_235 (by decide) ?_
            refine kw_goto (tgt := 240) (pc := 236) dX6_digest_236 (by decide) ?_
            refine kw_i2l (pc := 240) dX6_digest_240 ?_
            refine kw_ladd (pc := 241) dX6_digest_241 ?_
            refine kw_lstore_n (pc := 242) dX6_digest_242 (by decide) rfl ?_
            refine kw_ldc2 (pc := 243) dX6_digest_243 gX6_190 ?_
            refine kw_lload_n (pc := 246) dX6_digest_246 rfl ?_
            refine kw_lmul (pc := 247) dX6_digest_247 ?_
            refine kw_aload_n (pc := 248) dX6_digest_248 rfl ?_
            refine kw_getfield (pc := 249) kfw dX6_digest_249 fX6_135 mM_0 rfl ?_
            refine kw_i2l (pc := 252) dX6_digest_252 ?_
            refine kw_ladd (pc := 253) dX6_digest_253 ?_
            refine kw_lstore_n (pc := 254) dX6_digest_254 (by decide) rfl ?_
            refine kw_iconst (v := 0) (pc := 255) dX6_digest_255 (by decide) ?_
            refine kw_istore_n (pc := 256) dX6_digest_256 (by decide) rfl ?_
            exact kW.locs (tail (T - 0) 0 s4 co4 ma4 sp4 rfl (Nat.zero_le _) ha4) ⟨rfl, kgEl rfl (by simp only [dgT, rwH, h210, h232, if_true, if_false]), rfl, trivial⟩
      · have h131 := mt (kLeI (a := c) (b := k) (by omega) (by omega) ((ha1 20 (by decide)).trans hc) rfl).mpr h131
        refine kw_aload_n (pc := 134) dX6_digest_134 rfl ?_
        refine kw_lload_n (pc := 135) dX6_digest_135 rfl ?_
        refine kw_iload_n (pc := 136) dX6_digest_136 rfl ?_
        refine kw_callVw1 (pc := 137) dX6_digest_137 lX6_194 (c_ofParcel (H.agr ha1) (k := k) (by omega) _) mM_0 rfl rfl rfl ⟨by decide, by decide, Nat.le_of_ble_eq_true rfl⟩ (fun w1 hw1 => ?_)
        obtain ⟨s2, rfl, ha2⟩ := hw1
        refine kw_lstore_n (pc := 140) dX6_digest_140 (by decide) rfl ?_
        refine kw_iinc (pc := 141) dX6_digest_141 (by decide) rfl rfl rfl ?_
        refine kw_goto (tgt := 123) (pc := 144) dX6_digest_144 (by decide) ?_
        exact kW.locs (ih (c - (k + 1)) (by omega) (k + 1) s2 rfl (by omega) (ha1.tr ha2)) ⟨rfl, kgEl rfl (by rw [opF_agr H ha1 (by omega)]; rfl), kgE rfl (kA (a := k) (b := 1) rfl (rfl : (Int32.ofInt 1) = nI 1)), trivial⟩
  have loop2 : ∀ (m i : Nat), m = 20 - i → i ≤ 20 → kW (0, fun _ => 0) mX6_digest 8 (fun o w' n' => o = .inl (some (.long (dgF s sv kp bf T c))) ∧ (fun w' => mSt w0 mo s sv kp bf (nI T) 0 w') w' ∧ n' = n) 0 0 n (mM w0 mo s sv kp bf (nI T) th co ma sp) 33 [(0, .ref mo), (1, .long (rwH s i (rwH (fun j => ctd s sv c j) 10 3691))), (3, .int (nI i))] [] := by
    intro m
    induction m using Nat.strongRecOn with
    | _ m ih =>
      intro i hm hi
      refine kw_iload_n (pc := 33) dX6_digest_33 rfl ?_
      refine kw_bipush (v := 20) (pc := 34) dX6_digest_34 (by decide) ?_
      refine kw_icmp_ge (tgt := 59) (pc := 36) dX6_digest_36 (by decide) (fun h36 => ?_) (fun h36 => ?_)
      · have h36 := (kLeI (a := 20) (b := i) (by omega) (by omega) (rfl : (20 : Int32) = nI 20) rfl).mp h36
        refine kw_ldc2 (pc := 59) dX6_digest_59 gX6_190 ?_
        refine kw_lload_n (pc := 62) dX6_digest_62 rfl ?_
        refine kw_lmul (pc := 63) dX6_digest_63 ?_
        refine kw_aload_n (pc := 64) dX6_digest_64 rfl ?_
        refine kw_bipush (v := 120) (pc := 65) dX6_digest_65 (by decide) ?_
        refine kw_iconst (v := 0) (pc := 67) dX6_digest_67 (by decide) ?_
        refine kw_callVr (pc := 68) dX6_digest_68 lX6_168 (c_rated _ _ (K := 2) rfl (by decide)) mM_0 rfl rfl rfl ⟨by decide, by decide, Nat.le_of_ble_eq_true rfl⟩ ?_
        refine kw_i2l (pc := 71) dX6_digest_71 ?_
        refine kw_ladd (pc := 72) dX6_digest_72 ?_
        refine kw_lstore_n (pc := 73) dX6_digest_73 (by decide) rfl ?_
        refine kw_ldc2 (pc := 74) dX6_digest_74 gX6_190 ?_
        refine kw_lload_n (pc := 77) dX6_digest_77 rfl ?_
        refine kw_lmul (pc := 78) dX6_digest_78 ?_
        refine kw_aload_n (pc := 79) dX6_digest_79 rfl ?_
        refine kw_bipush (v := 120) (pc := 80) dX6_digest_80 (by decide) ?_
        refine kw_iconst (v := 1) (pc := 82) dX6_digest_82 (by decide) ?_
        refine kw_callVr (pc := 83) dX6_digest_83 lX6_168 (c_rated _ _ (K := 2) rfl (by decide)) mM_0 rfl rfl rfl ⟨by decide, by decide, Nat.le_of_ble_eq_true rfl⟩ ?_
        refine kw_i2l (pc := 86) dX6_digest_86 ?_
        refine kw_ladd (pc := 87) dX6_digest_87 ?_
        refine kw_lstore_n (pc := 88) dX6_digest_88 (by decide) rfl ?_
        refine kw_ldc2 (pc := 89) dX6_digest_89 gX6_190 ?_
        refine kw_lload_n (pc := 92) dX6_digest_92 rfl ?_
        refine kw_lmul (pc := 93) dX6_digest_93 ?_
        refine kw_aload_n (pc := 94) dX6_digest_94 rfl ?_
        refine kw_sipush (v := 999) (pc := 95) dX6_digest_95 (by decide) ?_
        refine kw_iconst (v := 0) (pc := 98) dX6_digest_98 (by decide) ?_
        refine kw_callVr (pc := 99) dX6_digest_99 lX6_168 (c_rated _ _ (K := 11) rfl (by decide)) mM_0 rfl rfl rfl ⟨by decide, by decide, Nat.le_of_ble_eq_true rfl⟩ ?_
        refine kw_i2l (pc := 102) dX6_digest_102 ?_
        refine kw_ladd (pc := 103) dX6_digest_103 ?_
        refine kw_lstore_n (pc := 104) dX6_digest_104 (by decide) rfl ?_
        refine kw_ldc2 (pc := 105) dX6_digest_105 gX6_190 ?_
        refine kw_lload_n (pc := 108) dX6_digest_108 rfl ?_
        refine kw_lmul (pc := 109) dX6_digest_109 ?_
        refine kw_aload_n (pc := 110) dX6_digest_110 rfl ?_
        refine kw_sipush (v := 999) (pc := 111) dX6_digest_111 (by decide) ?_
        refine kw_iconst (v := 1) (pc := 114) dX6_digest_114 (by decide) ?_
        refine kw_callVr (pc := 115) dX6_digest_115 lX6_168 (c_rated _ _ (K := 11) rfl (by decide)) mM_0 rfl rfl rfl ⟨by decide, by decide, Nat.le_of_ble_eq_true rfl⟩ ?_
        refine kw_i2l (pc := 118) dX6_digest_118 ?_
        refine kw_ladd (pc := 119) dX6_digest_119 ?_
        refine kw_lstore_n (pc := 120) dX6_digest_120 (by decide) rfl ?_
        refine kw_iconst (v := 0) (pc := 121) dX6_digest_121 (by decide) ?_
        refine kw_istore_n (pc := 122) dX6_digest_122 (by decide) rfl ?_
        obtain rfl : i = 20 := by omega
        exact kW.locs (loop3 (c - 0) 0 s rfl (Nat.zero_le _) agr.rf) ⟨rfl, kgEl rfl (by rw [if_pos rfl, if_pos rfl, if_neg (by decide), if_neg (by decide)]; rfl), rfl, trivial⟩
      · have h36 := mt (kLeI (a := 20) (b := i) (by omega) (by omega) (rfl : (20 : Int32) = nI 20) rfl).mpr h36
        refine kw_ldc2 (pc := 39) dX6_digest_39 gX6_190 ?_
        refine kw_lload_n (pc := 42) dX6_digest_42 rfl ?_
        refine kw_lmul (pc := 43) dX6_digest_43 ?_
        refine kw_aload_n (pc := 44) dX6_digest_44 rfl ?_
        refine kw_getfield (pc := 45) kfw dX6_digest_45 fX6_7 mM_0 rfl ?_
        refine kw_iload_n (pc := 48) dX6_digest_48 rfl ?_
        refine kw_ialoadN (pc := 49) (i := i) dX6_digest_49 mM_1 rfl (by omega) (by decide) ?_
        refine kw_i2l (pc := 50) dX6_digest_50 ?_
        refine kw_ladd (pc := 51) dX6_digest_51 ?_
        refine kw_lstore_n (pc := 52) dX6_digest_52 (by decide) rfl ?_
        refine kw_iinc (pc := 53) dX6_digest_53 (by decide) rfl rfl rfl ?_
        refine kw_goto (tgt := 33) (pc := 56) dX6_digest_56 (by decide) ?_
        exact kW.locs (ih (20 - (i + 1)) (by omega) (i + 1) rfl (by omega)) ⟨rfl, kgEl rfl rfl, kgE rfl (kA (a := i) (b := 1) rfl (rfl : (Int32.ofInt 1) = nI 1)), trivial⟩
  have loop1 : ∀ (m i : Nat), m = 10 - i → i ≤ 10 → kW (0, fun _ => 0) mX6_digest 8 (fun o w' n' => o = .inl (some (.long (dgF s sv kp bf T c))) ∧ (fun w' => mSt w0 mo s sv kp bf (nI T) 0 w') w' ∧ n' = n) 0 0 n (mM w0 mo s sv kp bf (nI T) th co ma sp) 6 [(0, .ref mo), (1, .long (rwH (fun j => ctd s sv c j) i 3691)), (3, .int (nI i))] [] := by
    intro m
    induction m using Nat.strongRecOn with
    | _ m ih =>
      intro i hm hi
      refine kw_iload_n (pc := 6) dX6_digest_6 rfl ?_
      refine kw_bipush (v := 10) (pc := 7) dX6_digest_7 (by decide) ?_
      refine kw_icmp_ge (tgt := 31) (pc := 9) dX6_digest_9 (by decide) (fun h9 => ?_) (fun h9 => ?_)
      · have h9 := (kLeI (a := 10) (b := i) (by omega) (by omega) (rfl : (10 : Int32) = nI 10) rfl).mp h9
        refine kw_iconst (v := 0) (pc := 31) dX6_digest_31 (by decide) ?_
        refine kw_istore_n (pc := 32) dX6_digest_32 (by decide) rfl ?_
        obtain rfl : i = 10 := by omega
        exact kW.locs (loop2 (20 - 0) 0 rfl (Nat.zero_le _)) ⟨rfl, kgEl rfl rfl, rfl, trivial⟩
      · have h9 := mt (kLeI (a := 10) (b := i) (by omega) (by omega) (rfl : (10 : Int32) = nI 10) rfl).mpr h9
        refine kw_ldc2 (pc := 12) dX6_digest_12 gX6_190 ?_
        refine kw_lload_n (pc := 15) dX6_digest_15 rfl ?_
        refine kw_lmul (pc := 16) dX6_digest_16 ?_
        refine kw_aload_n (pc := 17) dX6_digest_17 rfl ?_
        refine kw_iload_n (pc := 18) dX6_digest_18 rfl ?_
        refine kw_callVr (pc := 19) dX6_digest_19 lX6_178 (c_counted hc hc7 (j := i) (by omega)) mM_0 rfl rfl rfl ⟨by decide, by decide, Nat.le_of_ble_eq_true rfl⟩ ?_
        refine kw_i2l (pc := 22) dX6_digest_22 ?_
        refine kw_ladd (pc := 23) dX6_digest_23 ?_
        refine kw_lstore_n (pc := 24) dX6_digest_24 (by decide) rfl ?_
        refine kw_iinc (pc := 25) dX6_digest_25 (by decide) rfl rfl rfl ?_
        refine kw_goto (tgt := 6) (pc := 28) dX6_digest_28 (by decide) ?_
        exact kW.locs (ih (10 - (i + 1)) (by omega) (i + 1) rfl (by omega)) ⟨rfl, kgEl rfl rfl, kgE rfl (kA (a := i) (b := 1) rfl (rfl : (Int32.ofInt 1) = nI 1)), trivial⟩
  refine kw_ldc2 (pc := 0) dX6_digest_0 gX6_192 ?_
  refine kw_lstore_n (pc := 3) dX6_digest_3 (by decide) rfl ?_
  refine kw_iconst (v := 0) (pc := 4) dX6_digest_4 (by decide) ?_
  refine kw_istore_n (pc := 5) dX6_digest_5 (by decide) rfl ?_
  exact kW.locs (loop1 (10 - 0) 0 rfl (by omega)) ⟨rfl, rfl, rfl, trivial⟩
