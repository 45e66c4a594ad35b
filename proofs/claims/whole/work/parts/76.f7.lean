theorem rwH_app {f : Nat → Int32} {a : Nat} {h : Int64} : ∀ b, rwH f (a + b) h = rwH (fun j => f (a + j)) b (rwH f a h)
  | 0 => rfl
  | b + 1 => by
    show fo (rwH f (a + b) h) (f (a + b)) = fo (rwH (fun j => f (a + j)) b (rwH f a h)) (f (a + b))
    rw [rwH_app b]
theorem rwH_cg {f g : Nat → Int32} {h : Int64} : ∀ b, (∀ j, j < b → f j = g j) → rwH f b h = rwH g b h
  | 0, _ => rfl
  | b + 1, e => by
    show fo (rwH f b h) (f b) = fo (rwH g b h) (g b)
    rw [rwH_cg b (fun j hj => e j (by omega)), e b (by omega)]
def kpH (kp : Nat → Int32) : Nat → Int64 → Int64
  | 0, h => h
  | i + 1, h => fo (kpH kp i h) (if kp i = 0 then 0 else 1)
set_option maxRecDepth 100000 in
set_option maxHeartbeats 4000000 in
theorem c5_foldParcel {w : kM} {s : Nat → Int32} {q : Nat} {kp bf : Nat → Int32} {T : Nat} (C : cls w s q kp bf T) {c : Nat} (hc : s 20 = nI c) (hc7 : c ≤ 7) (F : fineS s c) (hN : ∀ k, k < c → nnP (pa s (21 + 7 * k))) {k : Nat} (hk : k < c) (x : Int64) : kCtrW mX5_foldParcel 6 [.ref 0, .long x, .int (nI k)] w (some (.long (opF s c x k))) (fun w' => cls w' s q kp bf T ∧ ∀ a, 128 ≤ a → w' a = w a) := by
  refine kCtrW.of pl5 nlX5_foldParcel rfl (Nat.le_of_ble_eq_true rfl) (fun n => ?_)
  obtain ⟨σ, H⟩ := C.2.1.c hc hc7
  have loop2 : ∀ (m j : Nat) (wi : kM), m = c - j → j ≤ c → cls wi s q kp bf T → (∀ a, 128 ≤ a → wi a = w a) → kW (0, fun _ => 0) mX5_foldParcel 6 (fun o' w' n' => o' = .inl (some (.long (opF s c x k))) ∧ (fun w' => cls w' s q kp bf T ∧ ∀ a, 128 ≤ a → w' a = w a) w' ∧ n' = n) 0 0 n wi 50 [(0, .ref 0), (1, .long x), (3, .int (nI k)), (4, .long (bdH (fun j => bdS s k j) k j (fo (prH s (pa s (21 + 7 * k)) 11 x) (wyF s (pa s (21 + 7 * k)))))), (6, .int (nI j))] [] := by
    intro m
    induction m using Nat.strongRecOn with
    | _ m ih =>
      intro j wi hm hj D FR
      obtain ⟨σ1, H1⟩ := D.2.1.c hc hc7
      refine kw_iload (pc := 50) dX5_foldParcel_50 rfl ?_
      refine kw_aload_n (pc := 52) dX5_foldParcel_52 rfl ?_
      refine kw_getfield (pc := 53) kfw dX5_foldParcel_53 fX5_10 D.1 rfl ?_
      refine kw_getfield (pc := 56) kfw dX5_foldParcel_56 fX5_88 H1.ob rfl ?_
      refine kw_icmp_ge (tgt := 89) (pc := 59) dX5_foldParcel_59 (by decide) (fun h59 => ?_) (fun h59 => ?_)
      · have h59 := (kLeI (a := c) (b := j) (by omega) (by omega) H1.sz rfl).mp h59
        refine kw_lload (pc := 89) dX5_foldParcel_89 rfl ?_
        exact kw_lreturn nlX5_foldParcel (pc := 91) dX5_foldParcel_91 rfl ⟨kv_eql (by rw [show j = c by omega]; rfl), ⟨D, FR⟩, rfl⟩
      · have h59 := mt (kLeI (a := c) (b := j) (by omega) (by omega) H1.sz rfl).mpr h59
        refine kw_iload (pc := 62) dX5_foldParcel_62 rfl ?_
        refine kw_iload_n (pc := 64) dX5_foldParcel_64 rfl ?_
        refine kw_icmp_eq (tgt := 83) (pc := 65) dX5_foldParcel_65 (by decide) (fun h65 => ?_) (fun h65 => ?_)
        · have h65 := (kEqI (a := j) (b := k) (by omega) (by omega) rfl rfl).mp h65
          refine kw_iinc (pc := 83) dX5_foldParcel_83 (by decide) rfl rfl rfl ?_
          refine kw_goto (tgt := 50) (pc := 86) dX5_foldParcel_86 (by decide) ?_
          exact kW.locs (ih (c - (j + 1)) (by omega) (j + 1) wi rfl (by omega) D FR) ⟨rfl, rfl, rfl, kgEl rfl (bdH_skip h65).symm, kgE rfl (kA (a := j) (b := 1) rfl (rfl : (Int32.ofInt 1) = nI 1)), trivial⟩
        · have h65 := mt (kEqI (a := j) (b := k) (by omega) (by omega) rfl rfl).mpr h65
          refine kw_lload (pc := 68) dX5_foldParcel_68 rfl ?_
          refine kw_aload_n (pc := 70) dX5_foldParcel_70 rfl ?_
          refine kw_iload_n (pc := 71) dX5_foldParcel_71 rfl ?_
          refine kw_iload (pc := 72) dX5_foldParcel_72 rfl ?_
          refine kw_callVw1 (pc := 74) dX5_foldParcel_74 lX5_261 (c5_ifBundled D hc hc7 F hN hk (j := j) (by omega) (fun e => h65 e.symm)) D.1 rfl rfl rfl ⟨by decide, by decide, Nat.le_of_ble_eq_true rfl⟩ (fun w2 hw2 => ?_)
          obtain ⟨D2, F2⟩ := hw2
          refine kw_i2l (pc := 77) dX5_foldParcel_77 ?_
          refine kw_callSr (pc := 78) dX5_foldParcel_78 lX5_197 (c5_fold _ _) rfl rfl ⟨by decide, by decide, Nat.le_of_ble_eq_true rfl⟩ ?_
          refine kw_lstore (pc := 81) dX5_foldParcel_81 (by decide) rfl ?_
          refine kw_iinc (pc := 83) dX5_foldParcel_83 (by decide) rfl rfl rfl ?_
          refine kw_goto (tgt := 50) (pc := 86) dX5_foldParcel_86 (by decide) ?_
          exact kW.locs (ih (c - (j + 1)) (by omega) (j + 1) w2 rfl (by omega) D2 (fun a h => (F2 a h).trans (FR a h))) ⟨rfl, rfl, rfl, kgEl rfl (bdH_add h65).symm, kgE rfl (kA (a := j) (b := 1) rfl (rfl : (Int32.ofInt 1) = nI 1)), trivial⟩
  have loop : ∀ (m i : Nat), m = 11 - i → i ≤ 11 → kW (0, fun _ => 0) mX5_foldParcel 6 (fun o' w' n' => o' = .inl (some (.long (opF s c x k))) ∧ (fun w' => cls w' s q kp bf T ∧ ∀ a, 128 ≤ a → w' a = w a) w' ∧ n' = n) 0 0 n w 6 [(0, .ref 0), (1, .long x), (3, .int (nI k)), (4, .long (prH s (pa s (21 + 7 * k)) i x)), (6, .int (nI i))] [] := by
    intro m
    induction m using Nat.strongRecOn with
    | _ m ih =>
      intro i hm hi
      refine kw_iload (pc := 6) dX5_foldParcel_6 rfl ?_
      refine kw_bipush (v := 10) (pc := 8) dX5_foldParcel_8 (by decide) ?_
      refine kw_icmp_gt (tgt := 34) (pc := 10) dX5_foldParcel_10 (by decide) (fun h10 => ?_) (fun h10 => ?_)
      · have h10 := (kLtI (a := 10) (b := i) (by omega) (by omega) (rfl : (10 : Int32) = nI 10) rfl).mp h10
        refine kw_lload (pc := 34) dX5_foldParcel_34 rfl ?_
        refine kw_aload_n (pc := 36) dX5_foldParcel_36 rfl ?_
        refine kw_iload_n (pc := 37) dX5_foldParcel_37 rfl ?_
        refine kw_callVr (pc := 38) dX5_foldParcel_38 lX5_258 (c5_cheapestWay C hc hc7 hk (F.2.2.1 k hk).2) C.1 rfl rfl rfl ⟨by decide, by decide, Nat.le_of_ble_eq_true rfl⟩ ?_
        refine kw_i2l (pc := 41) dX5_foldParcel_41 ?_
        refine kw_callSr (pc := 42) dX5_foldParcel_42 lX5_197 (c5_fold _ _) rfl rfl ⟨by decide, by decide, Nat.le_of_ble_eq_true rfl⟩ ?_
        refine kw_lstore (pc := 45) dX5_foldParcel_45 (by decide) rfl ?_
        refine kw_iconst (v := 0) (pc := 47) dX5_foldParcel_47 (by decide) ?_
        refine kw_istore (pc := 48) dX5_foldParcel_48 (by decide) rfl ?_
        exact kW.locs (loop2 (c - 0) 0 w rfl (Nat.zero_le _) C (fun _ _ => rfl)) ⟨rfl, rfl, rfl, kgEl rfl (by rw [show i = 11 by omega]; rfl), rfl, trivial⟩
      · have h10 := mt (kLtI (a := 10) (b := i) (by omega) (by omega) (rfl : (10 : Int32) = nI 10) rfl).mpr h10
        refine kw_lload (pc := 13) dX5_foldParcel_13 rfl ?_
        refine kw_aload_n (pc := 15) dX5_foldParcel_15 rfl ?_
        refine kw_iload_n (pc := 16) dX5_foldParcel_16 rfl ?_
        refine kw_iload (pc := 17) dX5_foldParcel_17 rfl ?_
        refine kw_callVr (pc := 19) dX5_foldParcel_19 lX5_255 (c5_parcelOf C hc hc7 hk (j := i) (by omega) (F.2.2.1 k hk).1) C.1 rfl rfl rfl ⟨by decide, by decide, Nat.le_of_ble_eq_true rfl⟩ ?_
        refine kw_i2l (pc := 22) dX5_foldParcel_22 ?_
        refine kw_callSr (pc := 23) dX5_foldParcel_23 lX5_197 (c5_fold _ _) rfl rfl ⟨by decide, by decide, Nat.le_of_ble_eq_true rfl⟩ ?_
        refine kw_lstore (pc := 26) dX5_foldParcel_26 (by decide) rfl ?_
        refine kw_iinc (pc := 28) dX5_foldParcel_28 (by decide) rfl rfl rfl ?_
        refine kw_goto (tgt := 6) (pc := 31) dX5_foldParcel_31 (by decide) ?_
        exact kW.locs (ih (11 - (i + 1)) (by omega) (i + 1) rfl (by omega)) ⟨rfl, rfl, rfl, kgEl rfl rfl, kgE rfl (kA (a := i) (b := 1) rfl (rfl : (Int32.ofInt 1) = nI 1)), trivial⟩
  refine kw_lload_n (pc := 0) dX5_foldParcel_0 rfl ?_
  refine kw_lstore (pc := 1) dX5_foldParcel_1 (by decide) rfl ?_
  refine kw_iconst (v := 0) (pc := 3) dX5_foldParcel_3 (by decide) ?_
  refine kw_istore (pc := 4) dX5_foldParcel_4 (by decide) rfl ?_
  exact kW.locs (loop (11 - 0) 0 rfl (Nat.zero_le _)) ⟨rfl, rfl, rfl, rfl, rfl, trivial⟩
set_option maxRecDepth 100000 in
set_option maxHeartbeats 4000000 in
theorem c5_digest {w : kM} {s : Nat → Int32} {q : Nat} {kp bf : Nat → Int32} {T : Nat} (C : cls w s q kp bf T) {c : Nat} (hc : s 20 = nI c) (hc7 : c ≤ 7) (F : fineS s c) (hN : ∀ k, k < c → nnP (pa s (21 + 7 * k))) (hty : lfF (alS s) (bdS s) c 0 0 = tryC s c) (hsh : shOK (shS s c)) : kCtrW mX5_digest 11 [.ref 0] w (some (.long (dgF s (nI q) kp bf T c))) (fun w' => cls w' s q kp bf T ∧ ∀ a, 128 ≤ a → w' a = w a) := by
  refine kCtrW.of pl5 nlX5_digest rfl (Nat.le_of_ble_eq_true rfl) (fun n => ?_)
  obtain ⟨σ, H⟩ := C.2.1.c hc hc7
  have tail : ∀ (wi : kM), cls wi s q kp bf T → (∀ a, 128 ≤ a → wi a = w a) → kW (0, fun _ => 0) mX5_digest 11 (fun o' w' n' => o' = .inl (some (.long (dgF s (nI q) kp bf T c))) ∧ (fun w' => cls w' s q kp bf T ∧ ∀ a, 128 ≤ a → w' a = w a) w' ∧ n' = n) 0 0 n wi 195 [(0, .ref 0), (1, .long (31 * dgB s (nI q) c + (shS s c).toInt64)), (3, .int (nI 0))] [] := by
    intro wi D FR
    obtain ⟨cf1, p1, v1, hcf1, hcb1, S1, -, hT60⟩ := D.2.2.2.2.1
    have loop4 : ∀ (m i : Nat), m = 2 - i → i ≤ 2 → kW (0, fun _ => 0) mX5_digest 11 (fun o' w' n' => o' = .inl (some (.long (dgF s (nI q) kp bf T c))) ∧ (fun w' => cls w' s q kp bf T ∧ ∀ a, 128 ≤ a → w' a = w a) w' ∧ n' = n) 0 0 n wi 195 [(0, .ref 0), (1, .long (kpH kp i (31 * dgB s (nI q) c + (shS s c).toInt64))), (3, .int (nI i))] [] := by
      intro m
      induction m using Nat.strongRecOn with
      | _ m ih =>
          intro i hm hi
          refine kw_iload_n (pc := 195) dX5_digest_195 rfl ?_
          refine kw_aload_n (pc := 196) dX5_digest_196 rfl ?_
          refine kw_getfield (pc := 197) kfw dX5_digest_197 fX5_20 D.1 rfl ?_
          refine kw_alenI (pc := 200) (v := 2) dX5_digest_200 D.2.2.2.1.2.1 rfl ?_
          refine kw_icmp_ge (tgt := 229) (pc := 201) dX5_digest_201 (by decide) (fun h201 => ?_) (fun h201 => ?_)
          · have h201 := (kLeI (a := 2) (b := i) (by omega) (by omega) (rfl : (2 : Int32) = nI 2) rfl).mp h201
            refine kw_lload_n (pc := 229) dX5_digest_229 rfl ?_
            refine kw_aload_n (pc := 230) dX5_digest_230 rfl ?_
            refine kw_getfield (pc := 231) kfw dX5_digest_231 fX5_34 D.1 rfl ?_
            refine kw_getfield (pc := 234) kfw dX5_digest_234 fX5_126 S1.1 rfl ?_
            refine kw_i2l (pc := 237) dX5_digest_237 ?_
            refine kw_callSr (pc := 238) dX5_digest_238 lX5_197 (c5_fold _ _) rfl rfl ⟨by decide, by decide, Nat.le_of_ble_eq_true rfl⟩ ?_
            refine kw_lstore_n (pc := 241) dX5_digest_241 (by decide) rfl ?_
            refine kw_lload_n (pc := 242) dX5_digest_242 rfl ?_
            refine kw_aload_n (pc := 243) dX5_digest_243 rfl ?_
            refine kw_getfield (pc := 244) kfw dX5_digest_244 fX5_34 D.1 rfl ?_
            refine kw_getfield (pc := 247) kfw dX5_digest_247 fX5_226 S1.1 rfl ?_
            refine kw_aload_n (pc := 250) dX5_digest_250 rfl ?_
            refine kw_getfield (pc := 251) kfw dX5_digest_251 fX5_34 D.1 rfl ?_
            refine kw_getfield (pc := 254) kfw dX5_digest_254 fX5_126 S1.1 rfl ?_
            refine kw_callSr (pc := 257) dX5_digest_257 lX5_201 (c5_foldRow hcf1 hT60 (by decide) _) rfl rfl ⟨by decide, by decide, Nat.le_of_ble_eq_true rfl⟩ ?_
            exact kw_lreturn nlX5_digest (pc := 260) dX5_digest_260 rfl ⟨kv_eql (by rw [show i = 2 by omega, rwH_cg T hcb1]; rfl), ⟨D, FR⟩, rfl⟩
          · have h201 := mt (kLeI (a := 2) (b := i) (by omega) (by omega) (rfl : (2 : Int32) = nI 2) rfl).mpr h201
            refine kw_lload_n (pc := 204) dX5_digest_204 rfl ?_
            refine kw_aload_n (pc := 205) dX5_digest_205 rfl ?_
            refine kw_getfield (pc := 206) kfw dX5_digest_206 fX5_20 D.1 rfl ?_
            refine kw_iload_n (pc := 209) dX5_digest_209 rfl ?_
            refine kw_zaloadT (pc := 210) (i := i) dX5_digest_210 D.2.2.2.1.2.1 rfl (by omega) (by decide) ?_
            refine kw_if_eq (tgt := 218) (pc := 211) dX5_digest_211 (by decide) (fun h211 => ?_) (fun h211 => ?_)
            · refine kw_lconst (pc := 218) dX5_digest_218 rfl ?_
              refine kw_callSr (pc := 219) dX5_digest_219 lX5_197 (c5_fold _ _) rfl rfl ⟨by decide, by decide, Nat.le_of_ble_eq_true rfl⟩ ?_
              refine kw_lstore_n (pc := 222) dX5_digest_222 (by decide) rfl ?_
              refine kw_iinc (pc := 223) dX5_digest_223 (by decide) rfl rfl rfl ?_
              refine kw_goto (tgt := 195) (pc := 226) dX5_digest_226 (by decide) ?_
              exact kW.locs (ih (2 - (i + 1)) (by omega) (i + 1) rfl (by omega)) ⟨rfl, kgEl rfl (by show _ = fo (kpH kp i (31 * dgB s (nI q) c + (shS s c).toInt64)) (if kp i = 0 then 0 else 1); first | (rw [if_pos h211]; rfl) | (rw [if_neg h211]; rfl)), kgE rfl (kA (a := i) (b := 1) rfl (rfl : (Int32.ofInt 1) = nI 1)), trivial⟩
            · refine kw_lconst (pc := 214) dX5_digest_214 rfl ?_
              refine kw_goto (tgt := 219) (pc := 215) dX5_digest_215 (by decide) ?_
              refine kw_callSr (pc := 219) dX5_digest_219 lX5_197 (c5_fold _ _) rfl rfl ⟨by decide, by decide, Nat.le_of_ble_eq_true rfl⟩ ?_
              refine kw_lstore_n (pc := 222) dX5_digest_222 (by decide) rfl ?_
              refine kw_iinc (pc := 223) dX5_digest_223 (by decide) rfl rfl rfl ?_
              refine kw_goto (tgt := 195) (pc := 226) dX5_digest_226 (by decide) ?_
              exact kW.locs (ih (2 - (i + 1)) (by omega) (i + 1) rfl (by omega)) ⟨rfl, kgEl rfl (by show _ = fo (kpH kp i (31 * dgB s (nI q) c + (shS s c).toInt64)) (if kp i = 0 then 0 else 1); first | (rw [if_pos h211]; rfl) | (rw [if_neg h211]; rfl)), kgE rfl (kA (a := i) (b := 1) rfl (rfl : (Int32.ofInt 1) = nI 1)), trivial⟩
    exact kW.locs (loop4 (2 - 0) 0 rfl (Nat.zero_le _)) ⟨rfl, rfl, rfl, trivial⟩
  have loop3 : ∀ (m k : Nat) (w1 : kM), m = c - k → k ≤ c → cls w1 s q kp bf T → (∀ a, 128 ≤ a → w1 a = w a) → kW (0, fun _ => 0) mX5_digest 11 (fun o' w' n' => o' = .inl (some (.long (dgF s (nI q) kp bf T c))) ∧ (fun w' => cls w' s q kp bf T ∧ ∀ a, 128 ≤ a → w' a = w a) w' ∧ n' = n) 0 0 n w1 125 [(0, .ref 0), (1, .long (opH s c k (dgA s (nI q) c))), (3, .int (nI k))] [] := by
    intro m
    induction m using Nat.strongRecOn with
    | _ m ih =>
      intro k w1 hm hk D1 FR
      obtain ⟨σ1, H1⟩ := D1.2.1.c hc hc7
      refine kw_iload_n (pc := 125) dX5_digest_125 rfl ?_
      refine kw_aload_n (pc := 126) dX5_digest_126 rfl ?_
      refine kw_getfield (pc := 127) kfw dX5_digest_127 fX5_10 D1.1 rfl ?_
      refine kw_getfield (pc := 130) kfw dX5_digest_130 fX5_88 H1.ob rfl ?_
      refine kw_icmp_ge (tgt := 149) (pc := 133) dX5_digest_133 (by decide) (fun h133 => ?_) (fun h133 => ?_)
      · have h133 := (kLeI (a := c) (b := k) (by omega) (by omega) H1.sz rfl).mp h133
        obtain rfl : c = k := by omega
        refine kw_lload_n (pc := 149) dX5_digest_149 rfl ?_
        refine kw_aload_n (pc := 150) dX5_digest_150 rfl ?_
        refine kw_iconst (v := 0) (pc := 151) dX5_digest_151 (by decide) ?_
        refine kw_callVw1 (pc := 152) dX5_digest_152 lX5_212 (c5_cheapest D1 hc hc7 F hN (by decide)) D1.1 rfl rfl rfl ⟨by decide, by decide, Nat.le_of_ble_eq_true rfl⟩ (fun w2 hw2 => ?_)
        obtain ⟨D2, F2⟩ := hw2
        refine kw_i2l (pc := 155) dX5_digest_155 ?_
        refine kw_callSr (pc := 156) dX5_digest_156 lX5_197 (c5_fold _ _) rfl rfl ⟨by decide, by decide, Nat.le_of_ble_eq_true rfl⟩ ?_
        refine kw_lstore_n (pc := 159) dX5_digest_159 (by decide) rfl ?_
        refine kW.locs (L' := [(0, .ref 0), (1, .long (fo (opH s c c (dgA s (nI q) c)) (setC (alS s) (bdS s) c)))]) ?_ ⟨rfl, kgEl rfl (by rw [if_pos rfl]), trivial⟩
        refine kw_lload_n (pc := 160) dX5_digest_160 rfl ?_
        refine kw_aload_n (pc := 161) dX5_digest_161 rfl ?_
        refine kw_iconst (v := 1) (pc := 162) dX5_digest_162 (by decide) ?_
        refine kw_callVw1 (pc := 163) dX5_digest_163 lX5_212 (c5_cheapest D2 hc hc7 F hN (by decide)) D2.1 rfl rfl rfl ⟨by decide, by decide, Nat.le_of_ble_eq_true rfl⟩ (fun w3 hw3 => ?_)
        obtain ⟨D3, F3⟩ := hw3
        refine kw_i2l (pc := 166) dX5_digest_166 ?_
        refine kw_callSr (pc := 167) dX5_digest_167 lX5_197 (c5_fold _ _) rfl rfl ⟨by decide, by decide, Nat.le_of_ble_eq_true rfl⟩ ?_
        refine kw_lstore_n (pc := 170) dX5_digest_170 (by decide) rfl ?_
        refine kW.locs (L' := [(0, .ref 0), (1, .long (fo (fo (opH s c c (dgA s (nI q) c)) (setC (alS s) (bdS s) c)) (tryC s c)))]) ?_ ⟨rfl, kgEl rfl (by rw [if_neg (by decide), hty]), trivial⟩
        refine kw_lload_n (pc := 171) dX5_digest_171 rfl ?_
        refine kw_aload_n (pc := 172) dX5_digest_172 rfl ?_
        refine kw_callVr (pc := 173) dX5_digest_173 lX5_215 (c5_dearest D3 hc hc7 (fun k hk => (F.2.2.1 k hk).1)) D3.1 rfl rfl rfl ⟨by decide, by decide, Nat.le_of_ble_eq_true rfl⟩ ?_
        refine kw_i2l (pc := 176) dX5_digest_176 ?_
        refine kw_callSr (pc := 177) dX5_digest_177 lX5_197 (c5_fold _ _) rfl rfl ⟨by decide, by decide, Nat.le_of_ble_eq_true rfl⟩ ?_
        refine kw_lstore_n (pc := 180) dX5_digest_180 (by decide) rfl ?_
        refine kW.locs (L' := [(0, .ref 0), (1, .long (dgB s (nI q) c))]) ?_ ⟨rfl, kgEl rfl (rfl), trivial⟩
        refine kw_lload_n (pc := 181) dX5_digest_181 rfl ?_
        refine kw_aload_n (pc := 182) dX5_digest_182 rfl ?_
        refine kw_callVw1 (pc := 183) dX5_digest_183 lX5_218 (c5_savedShare D3 hc hc7 F hN) D3.1 rfl rfl rfl ⟨by decide, by decide, Nat.le_of_ble_eq_true rfl⟩ (fun w4 hw4 => ?_)
        obtain ⟨D4, F4⟩ := hw4
        refine kw_callSr (pc := 186) dX5_digest_186 lX5_222 (c5_bitsX hsh) rfl rfl ⟨by decide, by decide, Nat.le_of_ble_eq_true rfl⟩ ?_
        refine kw_callSr (pc := 189) dX5_digest_189 lX5_197 (c5_fold _ _) rfl rfl ⟨by decide, by decide, Nat.le_of_ble_eq_true rfl⟩ ?_
        refine kw_lstore_n (pc := 192) dX5_digest_192 (by decide) rfl ?_
        refine kW.locs (L' := [(0, .ref 0), (1, .long (31 * dgB s (nI q) c + (shS s c).toInt64))]) ?_ ⟨rfl, kgEl rfl (rfl), trivial⟩
        refine kw_iconst (v := 0) (pc := 193) dX5_digest_193 (by decide) ?_
        refine kw_istore_n (pc := 194) dX5_digest_194 (by decide) rfl ?_
        exact kW.locs (tail w4 D4 (fun a h => (F4 a h).trans ((F3 a h).trans ((F2 a h).trans (FR a h))))) ⟨rfl, rfl, rfl, trivial⟩
      · have h133 := mt (kLeI (a := c) (b := k) (by omega) (by omega) H1.sz rfl).mpr h133
        refine kw_aload_n (pc := 136) dX5_digest_136 rfl ?_
        refine kw_lload_n (pc := 137) dX5_digest_137 rfl ?_
        refine kw_iload_n (pc := 138) dX5_digest_138 rfl ?_
        refine kw_callVw1 (pc := 139) dX5_digest_139 lX5_208 (c5_foldParcel D1 hc hc7 F hN (k := k) (by omega) _) D1.1 rfl rfl rfl ⟨by decide, by decide, Nat.le_of_ble_eq_true rfl⟩ (fun w2 hw2 => ?_)
        obtain ⟨D2, F2⟩ := hw2
        refine kw_lstore_n (pc := 142) dX5_digest_142 (by decide) rfl ?_
        refine kw_iinc (pc := 143) dX5_digest_143 (by decide) rfl rfl rfl ?_
        refine kw_goto (tgt := 125) (pc := 146) dX5_digest_146 (by decide) ?_
        exact kW.locs (ih (c - (k + 1)) (by omega) (k + 1) w2 rfl (by omega) D2 (fun a h => (F2 a h).trans (FR a h))) ⟨rfl, kgEl rfl rfl, kgE rfl (kA (a := k) (b := 1) rfl (rfl : (Int32.ofInt 1) = nI 1)), trivial⟩
  have loop1 : ∀ (m i : Nat), m = 10 - i → i ≤ 10 → kW (0, fun _ => 0) mX5_digest 11 (fun o' w' n' => o' = .inl (some (.long (dgF s (nI q) kp bf T c))) ∧ (fun w' => cls w' s q kp bf T ∧ ∀ a, 128 ≤ a → w' a = w a) w' ∧ n' = n) 0 0 n w 6 [(0, .ref 0), (1, .long (rwH (fun j => ctd s (nI q) c j) i 3691)), (3, .int (nI i))] [] := by
    intro m
    induction m using Nat.strongRecOn with
    | _ m ih =>
      intro i hm hi
      refine kw_iload_n (pc := 6) dX5_digest_6 rfl ?_
      refine kw_bipush (v := 9) (pc := 7) dX5_digest_7 (by decide) ?_
      refine kw_icmp_gt (tgt := 29) (pc := 9) dX5_digest_9 (by decide) (fun h9 => ?_) (fun h9 => ?_)
      · have h9 := (kLtI (a := 9) (b := i) (by omega) (by omega) (rfl : (9 : Int32) = nI 9) rfl).mp h9
        obtain rfl : i = 10 := by omega
        refine kw_lload_n (pc := 29) dX5_digest_29 rfl ?_
        refine kw_aload_n (pc := 30) dX5_digest_30 rfl ?_
        refine kw_getfield (pc := 31) kfw dX5_digest_31 fX5_10 C.1 rfl ?_
        refine kw_getfield (pc := 34) kfw dX5_digest_34 fX5_109 H.ob rfl ?_
        refine kw_iconst (v := 4) (pc := 37) dX5_digest_37 (by decide) ?_
        refine kw_callSr (pc := 38) dX5_digest_38 lX5_201 (c5_foldRow (u := 4) H.se (by decide) (by decide) _) rfl rfl ⟨by decide, by decide, Nat.le_of_ble_eq_true rfl⟩ ?_
        refine kw_lstore_n (pc := 41) dX5_digest_41 (by decide) rfl ?_
        refine kw_lload_n (pc := 42) dX5_digest_42 rfl ?_
        refine kw_aload_n (pc := 43) dX5_digest_43 rfl ?_
        refine kw_getfield (pc := 44) kfw dX5_digest_44 fX5_10 C.1 rfl ?_
        refine kw_getfield (pc := 47) kfw dX5_digest_47 fX5_96 H.ob rfl ?_
        refine kw_bipush (v := 12) (pc := 50) dX5_digest_50 (by decide) ?_
        refine kw_callSr (pc := 52) dX5_digest_52 lX5_201 (c5_foldRow (u := 12) H.pr (by decide) (by decide) _) rfl rfl ⟨by decide, by decide, Nat.le_of_ble_eq_true rfl⟩ ?_
        refine kw_lstore_n (pc := 55) dX5_digest_55 (by decide) rfl ?_
        refine kw_lload_n (pc := 56) dX5_digest_56 rfl ?_
        refine kw_aload_n (pc := 57) dX5_digest_57 rfl ?_
        refine kw_getfield (pc := 58) kfw dX5_digest_58 fX5_10 C.1 rfl ?_
        refine kw_getfield (pc := 61) kfw dX5_digest_61 fX5_100 H.ob rfl ?_
        refine kw_iconst (v := 4) (pc := 64) dX5_digest_64 (by decide) ?_
        refine kw_callSr (pc := 65) dX5_digest_65 lX5_201 (c5_foldRow (u := 4) H.fa (by decide) (by decide) _) rfl rfl ⟨by decide, by decide, Nat.le_of_ble_eq_true rfl⟩ ?_
        refine kw_lstore_n (pc := 68) dX5_digest_68 (by decide) rfl ?_
        refine kw_lload_n (pc := 69) dX5_digest_69 rfl ?_
        refine kw_aload_n (pc := 70) dX5_digest_70 rfl ?_
        refine kw_bipush (v := 120) (pc := 71) dX5_digest_71 (by decide) ?_
        refine kw_iconst (v := 0) (pc := 73) dX5_digest_73 (by decide) ?_
        refine kw_callVr (pc := 74) dX5_digest_74 lX5_205 (c5_rate C hc hc7 (by decide) (by decide) (K := 2) rfl (by decide)) C.1 rfl rfl rfl ⟨by decide, by decide, Nat.le_of_ble_eq_true rfl⟩ ?_
        refine kw_i2l (pc := 77) dX5_digest_77 ?_
        refine kw_callSr (pc := 78) dX5_digest_78 lX5_197 (c5_fold _ _) rfl rfl ⟨by decide, by decide, Nat.le_of_ble_eq_true rfl⟩ ?_
        refine kw_lstore_n (pc := 81) dX5_digest_81 (by decide) rfl ?_
        refine kw_lload_n (pc := 82) dX5_digest_82 rfl ?_
        refine kw_aload_n (pc := 83) dX5_digest_83 rfl ?_
        refine kw_bipush (v := 120) (pc := 84) dX5_digest_84 (by decide) ?_
        refine kw_iconst (v := 1) (pc := 86) dX5_digest_86 (by decide) ?_
        refine kw_callVr (pc := 87) dX5_digest_87 lX5_205 (c5_rate C hc hc7 (by decide) (by decide) (K := 2) rfl (by decide)) C.1 rfl rfl rfl ⟨by decide, by decide, Nat.le_of_ble_eq_true rfl⟩ ?_
        refine kw_i2l (pc := 90) dX5_digest_90 ?_
        refine kw_callSr (pc := 91) dX5_digest_91 lX5_197 (c5_fold _ _) rfl rfl ⟨by decide, by decide, Nat.le_of_ble_eq_true rfl⟩ ?_
        refine kw_lstore_n (pc := 94) dX5_digest_94 (by decide) rfl ?_
        refine kw_lload_n (pc := 95) dX5_digest_95 rfl ?_
        refine kw_aload_n (pc := 96) dX5_digest_96 rfl ?_
        refine kw_sipush (v := 999) (pc := 97) dX5_digest_97 (by decide) ?_
        refine kw_iconst (v := 0) (pc := 100) dX5_digest_100 (by decide) ?_
        refine kw_callVr (pc := 101) dX5_digest_101 lX5_205 (c5_rate C hc hc7 (by decide) (by decide) (K := 11) rfl (by decide)) C.1 rfl rfl rfl ⟨by decide, by decide, Nat.le_of_ble_eq_true rfl⟩ ?_
        refine kw_i2l (pc := 104) dX5_digest_104 ?_
        refine kw_callSr (pc := 105) dX5_digest_105 lX5_197 (c5_fold _ _) rfl rfl ⟨by decide, by decide, Nat.le_of_ble_eq_true rfl⟩ ?_
        refine kw_lstore_n (pc := 108) dX5_digest_108 (by decide) rfl ?_
        refine kw_lload_n (pc := 109) dX5_digest_109 rfl ?_
        refine kw_aload_n (pc := 110) dX5_digest_110 rfl ?_
        refine kw_sipush (v := 999) (pc := 111) dX5_digest_111 (by decide) ?_
        refine kw_iconst (v := 1) (pc := 114) dX5_digest_114 (by decide) ?_
        refine kw_callVr (pc := 115) dX5_digest_115 lX5_205 (c5_rate C hc hc7 (by decide) (by decide) (K := 11) rfl (by decide)) C.1 rfl rfl rfl ⟨by decide, by decide, Nat.le_of_ble_eq_true rfl⟩ ?_
        refine kw_i2l (pc := 118) dX5_digest_118 ?_
        refine kw_callSr (pc := 119) dX5_digest_119 lX5_197 (c5_fold _ _) rfl rfl ⟨by decide, by decide, Nat.le_of_ble_eq_true rfl⟩ ?_
        refine kw_lstore_n (pc := 122) dX5_digest_122 (by decide) rfl ?_
        refine kw_iconst (v := 0) (pc := 123) dX5_digest_123 (by decide) ?_
        refine kw_istore_n (pc := 124) dX5_digest_124 (by decide) rfl ?_
        exact kW.locs (loop3 (c - 0) 0 w rfl (Nat.zero_le _) C (fun _ _ => rfl)) ⟨rfl, kgEl rfl (by rw [if_pos rfl, if_pos rfl, if_neg (by decide), if_neg (by decide)]; show fo (fo (fo (fo (rwH (fun j => s (16 + j)) 4 (rwH (fun j => s (4 + j)) 12 (rwH s 4 (rwH (fun j => ctd s (nI q) c j) 10 3691)))) (rM s 3)) (s (4 + rDn s 2 2))) (rM s 12)) (s (4 + rDn s 11 11)) = _; rw [← rwH_app (f := s) (a := 4) 12, ← rwH_app (f := s) (a := 16) 4]; rfl), rfl, trivial⟩
      · have h9 := mt (kLtI (a := 9) (b := i) (by omega) (by omega) (rfl : (9 : Int32) = nI 9) rfl).mpr h9
        refine kw_lload_n (pc := 12) dX5_digest_12 rfl ?_
        refine kw_aload_n (pc := 13) dX5_digest_13 rfl ?_
        refine kw_iload_n (pc := 14) dX5_digest_14 rfl ?_
        refine kw_callVr (pc := 15) dX5_digest_15 lX5_194 (c5_count C hc hc7 (j := i) (by omega)) C.1 rfl rfl rfl ⟨by decide, by decide, Nat.le_of_ble_eq_true rfl⟩ ?_
        refine kw_i2l (pc := 18) dX5_digest_18 ?_
        refine kw_callSr (pc := 19) dX5_digest_19 lX5_197 (c5_fold _ _) rfl rfl ⟨by decide, by decide, Nat.le_of_ble_eq_true rfl⟩ ?_
        refine kw_lstore_n (pc := 22) dX5_digest_22 (by decide) rfl ?_
        refine kw_iinc (pc := 23) dX5_digest_23 (by decide) rfl rfl rfl ?_
        refine kw_goto (tgt := 6) (pc := 26) dX5_digest_26 (by decide) ?_
        exact kW.locs (ih (10 - (i + 1)) (by omega) (i + 1) rfl (by omega)) ⟨rfl, kgEl rfl rfl, kgE rfl (kA (a := i) (b := 1) rfl (rfl : (Int32.ofInt 1) = nI 1)), trivial⟩
  refine kw_ldc2 (pc := 0) dX5_digest_0 gX5_192 ?_
  refine kw_lstore_n (pc := 3) dX5_digest_3 (by decide) rfl ?_
  refine kw_iconst (v := 0) (pc := 4) dX5_digest_4 (by decide) ?_
  refine kw_istore_n (pc := 5) dX5_digest_5 (by decide) rfl ?_
  exact kW.locs (loop1 (10 - 0) 0 rfl (Nat.zero_le _)) ⟨rfl, rfl, rfl, trivial⟩
