/-! ===== the law: one round ===== -/
section LAWR
variable {X : mu_X} {G : mu_G} {cc : ByteArray} {own : String} {nL : Nat} {R : Room} {Qf : State → Prop} {w : mu_W} {kc ks pc : Nat} {lv st : List Value} {b L : Nat} {xs : Nat → Int32}
theorem mu_sld (B : mu_B X G cc own nL R) (hX : va_X b L xs X.2.2.2.2.1 X.2.2.2.2.1.heap) (hbl : b < X.2.2.2.2.1.heap.size) (hbA : ¬ mu_A G b) (hdg : decode cc pc = .ok (.iaload, 1)) {i : Int32} (hin : vp_in i L) (k : mu_WA X G nL Qf w kc ks (pc + 1) lv (.int (xs i.toNatClampNeg) :: st)) : mu_WA X G nL Qf w kc ks pc lv (.int i :: .ref b :: st) := fun H locs ls hH hS hl => va_sld B.1 B.2.1 hX hbl hbA hS hin hdg (k H locs ls hH hS hl)
theorem mu_slen (B : mu_B X G cc own nL R) (hX : va_X b L xs X.2.2.2.2.1 X.2.2.2.2.1.heap) (hbl : b < X.2.2.2.2.1.heap.size) (hbA : ¬ mu_A G b) (hdg : decode cc pc = .ok (.arraylength, 1)) (k : mu_WA X G nL Qf w kc ks (pc + 1) lv (.int (mI (L : Nat)) :: st)) : mu_WA X G nL Qf w kc ks pc lv (.ref b :: st) := fun H locs ls hH hS hl => va_slen B.1 B.2.1 hX hbl hbA hS hdg (k H locs ls hH hS hl)
theorem mu_wd {k' n' : Nat} (hk : kc ≤ k') (hn : ks ≤ n') (k : mu_WA X G nL Qf w k' n' pc lv st) : mu_WA X G nL Qf w kc ks pc lv st := fun H locs ls hH hS hl => W.widen hk hn (k H locs ls hH hS hl)
end LAWR
theorem and63 (x : Int32) : ∃ c : Nat, c < 64 ∧ x &&& mI 63 = mI (c : Nat) := by
  have h : (x &&& mI 63).toBitVec = BitVec.ofNat 32 (x.toBitVec.toNat % 64) := by
    rw [Int32.toBitVec_and]
    apply BitVec.eq_of_toNat_eq
    rw [BitVec.toNat_and, show (mI 63).toBitVec.toNat = 2 ^ 6 - 1 from rfl, Nat.and_two_pow_sub_one_eq_mod, BitVec.toNat_ofNat]
    omega
  refine ⟨x.toBitVec.toNat % 64, Nat.mod_lt _ (by decide), Int32.toBitVec_inj.mp ?_⟩
  rw [h]
  apply BitVec.eq_of_toNat_eq
  show _ = (BitVec.ofInt 32 _).toNat
  rw [BitVec.ofInt_natCast]

set_option maxHeartbeats 4000000 in
set_option maxRecDepth 100000 in
theorem lc_feed {X : mu_X} {G : mu_G} {Qf : State → Prop} {b L : Nat} {xs : Nat → Int32} (B : mu_B X G cL_law RL 4 room_1) (hX : va_X b L xs X.2.2.2.2.1 X.2.2.2.2.1.heap) (hbl : b < X.2.2.2.2.1.heap.size) (hbA : ¬ mu_A G b) (hL : L ≤ 3072) {w : mu_W} {o N : Nat} {n : Nat} {tp : Nat → Nat} {nr : Nat} {rs : Nat → mu_RS} {nf : Nat} {fs : Nat → mu_FS} {ng : Nat} {gs : Nat → mu_GS} {sr : Nat} {P : Nat → Prop} {sx sy : Int32} (hC : CST w o n tp nr rs nf fs ng gs sr P sx sy) (hM : MST w (o + 35) n tp nr rs nf fs ng gs sr P sx sy) (hB : GB ng gs N) (hN : N ≤ 999000) {i kc ks : Nat} (hi : i + 6 ≤ L) (hkc : kc + 5 ≤ room_1.cells) (hks : ks + 2539 ≤ room_1.slots)
    (k : ∀ (w' : mu_W) (n' : Nat) (tp' : Nat → Nat) (nr' : Nat) (rs' : Nat → mu_RS) (nf' : Nat) (fs' : Nat → mu_FS) (ng' : Nat) (gs' : Nat → mu_GS) (sr' : Nat) (P' : Nat → Prop) (sx' sy' : Int32), CST w' o n' tp' nr' rs' nf' fs' ng' gs' sr' P' sx' sy' → MST w' (o + 35) n' tp' nr' rs' nf' fs' ng' gs' sr' P' sx' sy' → GB ng' gs' (N + 1000) → mu_WA X G 4 Qf w' (kc + 5) (ks + 2539) 1349 [.ref b, .ref o, .ref (o + 35), .int (mI (i : Nat))] []) : mu_WA X G 4 Qf w kc ks 180 [.ref b, .ref o, .ref (o + 35), .int (mI (i : Nat))] [] := by
  have hko : mu_kd w o = some (11, 0) := by
    obtain ⟨ra, fa, ga, hf, hg, C⟩ := hC
    exact C.1.1
  refine mu_al_1 B dL_law_180 ?_
  refine mu_al_0 B dL_law_181 ?_
  refine mu_il_3 B dL_law_182 ?_
  refine mu_iconst (v := mI 1) B dL_law_183 rfl ?_
  refine mu_iadd B dL_law_184 ?_
  try rw [mI_add]
  refine mu_sld B hX hbl hbA dL_law_185 (mI_in (by omega) (by omega) (by omega)) ?_
  refine mu_al_0 B dL_law_186 ?_
  refine mu_il_3 B dL_law_187 ?_
  refine mu_iconst (v := mI 2) B dL_law_188 rfl ?_
  refine mu_iadd B dL_law_189 ?_
  try rw [mI_add]
  refine mu_sld B hX hbl hbA dL_law_190 (mI_in (by omega) (by omega) (by omega)) ?_
  refine mu_al_0 B dL_law_191 ?_
  refine mu_il_3 B dL_law_192 ?_
  refine mu_iconst (v := mI 3) B dL_law_193 rfl ?_
  refine mu_iadd B dL_law_194 ?_
  try rw [mI_add]
  refine mu_sld B hX hbl hbA dL_law_195 (mI_in (by omega) (by omega) (by omega)) ?_
  refine mu_al_0 B dL_law_196 ?_
  refine mu_il_3 B dL_law_197 ?_
  refine mu_iconst (v := mI 4) B dL_law_198 rfl ?_
  refine mu_iadd B dL_law_199 ?_
  try rw [mI_add]
  refine mu_sld B hX hbl hbA dL_law_200 (mI_in (by omega) (by omega) (by omega)) ?_
  refine mu_al_0 B dL_law_201 ?_
  refine mu_il_3 B dL_law_202 ?_
  refine mu_iconst (v := mI 5) B dL_law_203 rfl ?_
  refine mu_iadd B dL_law_204 ?_
  try rw [mI_add]
  refine mu_sld B hX hbl hbA dL_law_205 (mI_in (by omega) (by omega) (by omega)) ?_
  refine mu_cV5 B dL_law_206 mL_13 ⟨⟨by decide, by decide⟩, Nat.le_trans (Nat.add_le_add_left (by decide) kc) hkc, Nat.le_trans (Nat.add_le_add_left (by decide) ks) hks⟩ (Nat.le_of_ble_eq_true rfl) hko (rw_feed w o N n tp nr rs nf fs ng gs sr P sx sy hC hM hB hN) (fun r206 w206 q206 => ?_)
  obtain ⟨n', tp', nr', rs', nf', fs', ng', gs', sr', P', sx', sy', u, rfl, hB1, hkm, hm⟩ := q206
  refine mu_wd (k' := kc + 5) (n' := ks + 2539) (Nat.add_le_add_left (by decide) _) (Nat.add_le_add_left (by decide) _) ?_
  show mu_WA X G 4 _ _ _ _ 209 _ [.int u]
  refine mu_al_2 B dL_law_209 ?_
  refine mu_al_0 B dL_law_210 ?_
  refine mu_il_3 B dL_law_211 ?_
  refine mu_iconst (v := mI 1) B dL_law_212 rfl ?_
  refine mu_iadd B dL_law_213 ?_
  try rw [mI_add]
  refine mu_sld B hX hbl hbA dL_law_214 (mI_in (by omega) (by omega) (by omega)) ?_
  refine mu_al_0 B dL_law_215 ?_
  refine mu_il_3 B dL_law_216 ?_
  refine mu_iconst (v := mI 2) B dL_law_217 rfl ?_
  refine mu_iadd B dL_law_218 ?_
  try rw [mI_add]
  refine mu_sld B hX hbl hbA dL_law_219 (mI_in (by omega) (by omega) (by omega)) ?_
  refine mu_al_0 B dL_law_220 ?_
  refine mu_il_3 B dL_law_221 ?_
  refine mu_iconst (v := mI 3) B dL_law_222 rfl ?_
  refine mu_iadd B dL_law_223 ?_
  try rw [mI_add]
  refine mu_sld B hX hbl hbA dL_law_224 (mI_in (by omega) (by omega) (by omega)) ?_
  refine mu_al_0 B dL_law_225 ?_
  refine mu_il_3 B dL_law_226 ?_
  refine mu_iconst (v := mI 4) B dL_law_227 rfl ?_
  refine mu_iadd B dL_law_228 ?_
  try rw [mI_add]
  refine mu_sld B hX hbl hbA dL_law_229 (mI_in (by omega) (by omega) (by omega)) ?_
  refine mu_al_0 B dL_law_230 ?_
  refine mu_il_3 B dL_law_231 ?_
  refine mu_iconst (v := mI 5) B dL_law_232 rfl ?_
  refine mu_iadd B dL_law_233 ?_
  try rw [mI_add]
  refine mu_sld B hX hbl hbA dL_law_234 (mI_in (by omega) (by omega) (by omega)) ?_
  refine mu_cV5 B dL_law_235 mL_17 ⟨⟨by decide, by decide⟩, hkc, hks⟩ (Nat.le_of_ble_eq_true rfl) hkm hm (fun r235 w235 q235 => ?_)
  obtain ⟨rfl, hC2, hM2⟩ := q235
  show mu_WA X G 4 _ _ _ _ 238 _ [.int u, .int u]
  refine mu_icmp_eq (tgt := 1349) B dL_law_238 (by decide) (fun _ => ?_) (fun h => absurd rfl h)
  exact k _ _ _ _ _ _ _ _ _ _ _ _ _ hC2 hM2 hB1

set_option maxHeartbeats 4000000 in
set_option maxRecDepth 100000 in
theorem lc_end {X : mu_X} {G : mu_G} {Qf : State → Prop} {b L : Nat} {xs : Nat → Int32} (B : mu_B X G cL_law RL 4 room_1) (hX : va_X b L xs X.2.2.2.2.1 X.2.2.2.2.1.heap) (hbl : b < X.2.2.2.2.1.heap.size) (hbA : ¬ mu_A G b) (hL : L ≤ 3072) {w : mu_W} {o N : Nat} {n : Nat} {tp : Nat → Nat} {nr : Nat} {rs : Nat → mu_RS} {nf : Nat} {fs : Nat → mu_FS} {ng : Nat} {gs : Nat → mu_GS} {sr : Nat} {P : Nat → Prop} {sx sy : Int32} (hC : CST w o n tp nr rs nf fs ng gs sr P sx sy) (hM : MST w (o + 35) n tp nr rs nf fs ng gs sr P sx sy) (hB : GB ng gs N) (hN : N ≤ 999000) {i kc ks : Nat} (hi : i + 6 ≤ L) (hkc : kc + 5 ≤ room_1.cells) (hks : ks + 2539 ≤ room_1.slots)
    (k : ∀ (w' : mu_W) (n' : Nat) (tp' : Nat → Nat) (nr' : Nat) (rs' : Nat → mu_RS) (nf' : Nat) (fs' : Nat → mu_FS) (ng' : Nat) (gs' : Nat → mu_GS) (sr' : Nat) (P' : Nat → Prop) (sx' sy' : Int32), CST w' o n' tp' nr' rs' nf' fs' ng' gs' sr' P' sx' sy' → MST w' (o + 35) n' tp' nr' rs' nf' fs' ng' gs' sr' P' sx' sy' → GB ng' gs' (N + 1000) → mu_WA X G 4 Qf w' (kc + 5) (ks + 2539) 1349 [.ref b, .ref o, .ref (o + 35), .int (mI (i : Nat))] []) : mu_WA X G 4 Qf w kc ks 243 [.ref b, .ref o, .ref (o + 35), .int (mI (i : Nat))] [] := by
  have hko : mu_kd w o = some (11, 0) := by
    obtain ⟨ra, fa, ga, hf, hg, C⟩ := hC
    exact C.1.1
  refine mu_al_1 B dL_law_243 ?_
  refine mu_al_0 B dL_law_244 ?_
  refine mu_il_3 B dL_law_245 ?_
  refine mu_iconst (v := mI 1) B dL_law_246 rfl ?_
  refine mu_iadd B dL_law_247 ?_
  try rw [mI_add]
  refine mu_sld B hX hbl hbA dL_law_248 (mI_in (by omega) (by omega) (by omega)) ?_
  refine mu_cV1 B dL_law_249 mL_18 ⟨⟨by decide, by decide⟩, Nat.le_trans (Nat.add_le_add_left (by decide) kc) hkc, Nat.le_trans (Nat.add_le_add_left (by decide) ks) hks⟩ (Nat.le_of_ble_eq_true rfl) hko (rw_end w o N n tp nr rs nf fs ng gs sr P sx sy hC hM hB hN) (fun r249 w249 q249 => ?_)
  obtain ⟨n', tp', nr', rs', nf', fs', ng', gs', sr', P', sx', sy', u, rfl, hB1, hkm, hm⟩ := q249
  refine mu_wd (k' := kc + 5) (n' := ks + 2539) (Nat.add_le_add_left (by decide) _) (Nat.add_le_add_left (by decide) _) ?_
  show mu_WA X G 4 _ _ _ _ 252 _ [.int u]
  refine mu_al_2 B dL_law_252 ?_
  refine mu_al_0 B dL_law_253 ?_
  refine mu_il_3 B dL_law_254 ?_
  refine mu_iconst (v := mI 1) B dL_law_255 rfl ?_
  refine mu_iadd B dL_law_256 ?_
  try rw [mI_add]
  refine mu_sld B hX hbl hbA dL_law_257 (mI_in (by omega) (by omega) (by omega)) ?_
  refine mu_cV1 B dL_law_258 mL_22 ⟨⟨by decide, by decide⟩, hkc, hks⟩ (Nat.le_of_ble_eq_true rfl) hkm hm (fun r258 w258 q258 => ?_)
  obtain ⟨rfl, hC2, hM2⟩ := q258
  show mu_WA X G 4 _ _ _ _ 261 _ [.int u, .int u]
  refine mu_icmp_eq (tgt := 1349) B dL_law_261 (by decide) (fun _ => ?_) (fun h => absurd rfl h)
  exact k _ _ _ _ _ _ _ _ _ _ _ _ _ hC2 hM2 hB1

set_option maxHeartbeats 4000000 in
set_option maxRecDepth 100000 in
theorem lc_rule {X : mu_X} {G : mu_G} {Qf : State → Prop} {b L : Nat} {xs : Nat → Int32} (B : mu_B X G cL_law RL 4 room_1) (hX : va_X b L xs X.2.2.2.2.1 X.2.2.2.2.1.heap) (hbl : b < X.2.2.2.2.1.heap.size) (hbA : ¬ mu_A G b) (hL : L ≤ 3072) {w : mu_W} {o N : Nat} {n : Nat} {tp : Nat → Nat} {nr : Nat} {rs : Nat → mu_RS} {nf : Nat} {fs : Nat → mu_FS} {ng : Nat} {gs : Nat → mu_GS} {sr : Nat} {P : Nat → Prop} {sx sy : Int32} (hC : CST w o n tp nr rs nf fs ng gs sr P sx sy) (hM : MST w (o + 35) n tp nr rs nf fs ng gs sr P sx sy) (hB : GB ng gs N) (hN : N ≤ 999000) {i kc ks : Nat} (hi : i + 6 ≤ L) (hkc : kc + 5 ≤ room_1.cells) (hks : ks + 2539 ≤ room_1.slots)
    (k : ∀ (w' : mu_W) (n' : Nat) (tp' : Nat → Nat) (nr' : Nat) (rs' : Nat → mu_RS) (nf' : Nat) (fs' : Nat → mu_FS) (ng' : Nat) (gs' : Nat → mu_GS) (sr' : Nat) (P' : Nat → Prop) (sx' sy' : Int32), CST w' o n' tp' nr' rs' nf' fs' ng' gs' sr' P' sx' sy' → MST w' (o + 35) n' tp' nr' rs' nf' fs' ng' gs' sr' P' sx' sy' → GB ng' gs' (N + 1000) → mu_WA X G 4 Qf w' (kc + 5) (ks + 2539) 1349 [.ref b, .ref o, .ref (o + 35), .int (mI (i : Nat))] []) : mu_WA X G 4 Qf w kc ks 266 [.ref b, .ref o, .ref (o + 35), .int (mI (i : Nat))] [] := by
  have hko : mu_kd w o = some (11, 0) := by
    obtain ⟨ra, fa, ga, hf, hg, C⟩ := hC
    exact C.1.1
  refine mu_al_1 B dL_law_266 ?_
  refine mu_cV0 B dL_law_267 mL_23 ⟨⟨by decide, by decide⟩, Nat.le_trans (Nat.add_le_add_left (by decide) kc) hkc, Nat.le_trans (Nat.add_le_add_left (by decide) ks) hks⟩ (Nat.le_of_ble_eq_true rfl) hko (rw_rule w o N n tp nr rs nf fs ng gs sr P sx sy hC hM hB hN) (fun r267 w267 q267 => ?_)
  obtain ⟨n', tp', nr', rs', nf', fs', ng', gs', sr', P', sx', sy', u, rfl, hB1, hkm, hm⟩ := q267
  refine mu_wd (k' := kc + 5) (n' := ks + 2539) (Nat.add_le_add_left (by decide) _) (Nat.add_le_add_left (by decide) _) ?_
  show mu_WA X G 4 _ _ _ _ 270 _ [.int u]
  refine mu_al_2 B dL_law_270 ?_
  refine mu_cV0 B dL_law_271 mL_27 ⟨⟨by decide, by decide⟩, hkc, hks⟩ (Nat.le_of_ble_eq_true rfl) hkm hm (fun r271 w271 q271 => ?_)
  obtain ⟨rfl, hC2, hM2⟩ := q271
  show mu_WA X G 4 _ _ _ _ 274 _ [.int u, .int u]
  refine mu_icmp_eq (tgt := 1349) B dL_law_274 (by decide) (fun _ => ?_) (fun h => absurd rfl h)
  exact k _ _ _ _ _ _ _ _ _ _ _ _ _ hC2 hM2 hB1

set_option maxHeartbeats 4000000 in
set_option maxRecDepth 100000 in
theorem lc_ruleByte {X : mu_X} {G : mu_G} {Qf : State → Prop} {b L : Nat} {xs : Nat → Int32} (B : mu_B X G cL_law RL 4 room_1) (hX : va_X b L xs X.2.2.2.2.1 X.2.2.2.2.1.heap) (hbl : b < X.2.2.2.2.1.heap.size) (hbA : ¬ mu_A G b) (hL : L ≤ 3072) {w : mu_W} {o N : Nat} {n : Nat} {tp : Nat → Nat} {nr : Nat} {rs : Nat → mu_RS} {nf : Nat} {fs : Nat → mu_FS} {ng : Nat} {gs : Nat → mu_GS} {sr : Nat} {P : Nat → Prop} {sx sy : Int32} (hC : CST w o n tp nr rs nf fs ng gs sr P sx sy) (hM : MST w (o + 35) n tp nr rs nf fs ng gs sr P sx sy) (hB : GB ng gs N) (hN : N ≤ 999000) {i kc ks : Nat} (hi : i + 6 ≤ L) (hkc : kc + 5 ≤ room_1.cells) (hks : ks + 2539 ≤ room_1.slots)
    (k : ∀ (w' : mu_W) (n' : Nat) (tp' : Nat → Nat) (nr' : Nat) (rs' : Nat → mu_RS) (nf' : Nat) (fs' : Nat → mu_FS) (ng' : Nat) (gs' : Nat → mu_GS) (sr' : Nat) (P' : Nat → Prop) (sx' sy' : Int32), CST w' o n' tp' nr' rs' nf' fs' ng' gs' sr' P' sx' sy' → MST w' (o + 35) n' tp' nr' rs' nf' fs' ng' gs' sr' P' sx' sy' → GB ng' gs' (N + 1000) → mu_WA X G 4 Qf w' (kc + 5) (ks + 2539) 1349 [.ref b, .ref o, .ref (o + 35), .int (mI (i : Nat))] []) : mu_WA X G 4 Qf w kc ks 279 [.ref b, .ref o, .ref (o + 35), .int (mI (i : Nat))] [] := by
  have hko : mu_kd w o = some (11, 0) := by
    obtain ⟨ra, fa, ga, hf, hg, C⟩ := hC
    exact C.1.1
  refine mu_al_1 B dL_law_279 ?_
  refine mu_al_0 B dL_law_280 ?_
  refine mu_il_3 B dL_law_281 ?_
  refine mu_iconst (v := mI 1) B dL_law_282 rfl ?_
  refine mu_iadd B dL_law_283 ?_
  try rw [mI_add]
  refine mu_sld B hX hbl hbA dL_law_284 (mI_in (by omega) (by omega) (by omega)) ?_
  refine mu_al_0 B dL_law_285 ?_
  refine mu_il_3 B dL_law_286 ?_
  refine mu_iconst (v := mI 2) B dL_law_287 rfl ?_
  refine mu_iadd B dL_law_288 ?_
  try rw [mI_add]
  refine mu_sld B hX hbl hbA dL_law_289 (mI_in (by omega) (by omega) (by omega)) ?_
  refine mu_cV2 B dL_law_290 mL_28 ⟨⟨by decide, by decide⟩, Nat.le_trans (Nat.add_le_add_left (by decide) kc) hkc, Nat.le_trans (Nat.add_le_add_left (by decide) ks) hks⟩ (Nat.le_of_ble_eq_true rfl) hko (rw_ruleByte w o N n tp nr rs nf fs ng gs sr P sx sy hC hM hB hN) (fun r290 w290 q290 => ?_)
  obtain ⟨n', tp', nr', rs', nf', fs', ng', gs', sr', P', sx', sy', u, rfl, hB1, hkm, hm⟩ := q290
  refine mu_wd (k' := kc + 5) (n' := ks + 2539) (Nat.add_le_add_left (by decide) _) (Nat.add_le_add_left (by decide) _) ?_
  show mu_WA X G 4 _ _ _ _ 293 _ [.int u]
  refine mu_al_2 B dL_law_293 ?_
  refine mu_al_0 B dL_law_294 ?_
  refine mu_il_3 B dL_law_295 ?_
  refine mu_iconst (v := mI 1) B dL_law_296 rfl ?_
  refine mu_iadd B dL_law_297 ?_
  try rw [mI_add]
  refine mu_sld B hX hbl hbA dL_law_298 (mI_in (by omega) (by omega) (by omega)) ?_
  refine mu_al_0 B dL_law_299 ?_
  refine mu_il_3 B dL_law_300 ?_
  refine mu_iconst (v := mI 2) B dL_law_301 rfl ?_
  refine mu_iadd B dL_law_302 ?_
  try rw [mI_add]
  refine mu_sld B hX hbl hbA dL_law_303 (mI_in (by omega) (by omega) (by omega)) ?_
  refine mu_cV2 B dL_law_304 mL_32 ⟨⟨by decide, by decide⟩, hkc, hks⟩ (Nat.le_of_ble_eq_true rfl) hkm hm (fun r304 w304 q304 => ?_)
  obtain ⟨rfl, hC2, hM2⟩ := q304
  show mu_WA X G 4 _ _ _ _ 307 _ [.int u, .int u]
  refine mu_icmp_eq (tgt := 1349) B dL_law_307 (by decide) (fun _ => ?_) (fun h => absurd rfl h)
  exact k _ _ _ _ _ _ _ _ _ _ _ _ _ hC2 hM2 hB1

set_option maxHeartbeats 4000000 in
set_option maxRecDepth 100000 in
theorem lc_field {X : mu_X} {G : mu_G} {Qf : State → Prop} {b L : Nat} {xs : Nat → Int32} (B : mu_B X G cL_law RL 4 room_1) (hX : va_X b L xs X.2.2.2.2.1 X.2.2.2.2.1.heap) (hbl : b < X.2.2.2.2.1.heap.size) (hbA : ¬ mu_A G b) (hL : L ≤ 3072) {w : mu_W} {o N : Nat} {n : Nat} {tp : Nat → Nat} {nr : Nat} {rs : Nat → mu_RS} {nf : Nat} {fs : Nat → mu_FS} {ng : Nat} {gs : Nat → mu_GS} {sr : Nat} {P : Nat → Prop} {sx sy : Int32} (hC : CST w o n tp nr rs nf fs ng gs sr P sx sy) (hM : MST w (o + 35) n tp nr rs nf fs ng gs sr P sx sy) (hB : GB ng gs N) (hN : N ≤ 999000) {i kc ks : Nat} (hi : i + 6 ≤ L) (hkc : kc + 5 ≤ room_1.cells) (hks : ks + 2539 ≤ room_1.slots)
    (k : ∀ (w' : mu_W) (n' : Nat) (tp' : Nat → Nat) (nr' : Nat) (rs' : Nat → mu_RS) (nf' : Nat) (fs' : Nat → mu_FS) (ng' : Nat) (gs' : Nat → mu_GS) (sr' : Nat) (P' : Nat → Prop) (sx' sy' : Int32), CST w' o n' tp' nr' rs' nf' fs' ng' gs' sr' P' sx' sy' → MST w' (o + 35) n' tp' nr' rs' nf' fs' ng' gs' sr' P' sx' sy' → GB ng' gs' (N + 1000) → mu_WA X G 4 Qf w' (kc + 5) (ks + 2539) 1349 [.ref b, .ref o, .ref (o + 35), .int (mI (i : Nat))] []) : mu_WA X G 4 Qf w kc ks 312 [.ref b, .ref o, .ref (o + 35), .int (mI (i : Nat))] [] := by
  have hko : mu_kd w o = some (11, 0) := by
    obtain ⟨ra, fa, ga, hf, hg, C⟩ := hC
    exact C.1.1
  refine mu_al_1 B dL_law_312 ?_
  refine mu_al_0 B dL_law_313 ?_
  refine mu_il_3 B dL_law_314 ?_
  refine mu_iconst (v := mI 1) B dL_law_315 rfl ?_
  refine mu_iadd B dL_law_316 ?_
  try rw [mI_add]
  refine mu_sld B hX hbl hbA dL_law_317 (mI_in (by omega) (by omega) (by omega)) ?_
  refine mu_cV1 B dL_law_318 mL_33 ⟨⟨by decide, by decide⟩, Nat.le_trans (Nat.add_le_add_left (by decide) kc) hkc, Nat.le_trans (Nat.add_le_add_left (by decide) ks) hks⟩ (Nat.le_of_ble_eq_true rfl) hko (rw_field w o N n tp nr rs nf fs ng gs sr P sx sy hC hM hB hN) (fun r318 w318 q318 => ?_)
  obtain ⟨n', tp', nr', rs', nf', fs', ng', gs', sr', P', sx', sy', u, rfl, hB1, hkm, hm⟩ := q318
  refine mu_wd (k' := kc + 5) (n' := ks + 2539) (Nat.add_le_add_left (by decide) _) (Nat.add_le_add_left (by decide) _) ?_
  show mu_WA X G 4 _ _ _ _ 321 _ [.int u]
  refine mu_al_2 B dL_law_321 ?_
  refine mu_al_0 B dL_law_322 ?_
  refine mu_il_3 B dL_law_323 ?_
  refine mu_iconst (v := mI 1) B dL_law_324 rfl ?_
  refine mu_iadd B dL_law_325 ?_
  try rw [mI_add]
  refine mu_sld B hX hbl hbA dL_law_326 (mI_in (by omega) (by omega) (by omega)) ?_
  refine mu_cV1 B dL_law_327 mL_36 ⟨⟨by decide, by decide⟩, hkc, hks⟩ (Nat.le_of_ble_eq_true rfl) hkm hm (fun r327 w327 q327 => ?_)
  obtain ⟨rfl, hC2, hM2⟩ := q327
  show mu_WA X G 4 _ _ _ _ 330 _ [.int u, .int u]
  refine mu_icmp_eq (tgt := 1349) B dL_law_330 (by decide) (fun _ => ?_) (fun h => absurd rfl h)
  exact k _ _ _ _ _ _ _ _ _ _ _ _ _ hC2 hM2 hB1

set_option maxHeartbeats 4000000 in
set_option maxRecDepth 100000 in
theorem lc_put {X : mu_X} {G : mu_G} {Qf : State → Prop} {b L : Nat} {xs : Nat → Int32} (B : mu_B X G cL_law RL 4 room_1) (hX : va_X b L xs X.2.2.2.2.1 X.2.2.2.2.1.heap) (hbl : b < X.2.2.2.2.1.heap.size) (hbA : ¬ mu_A G b) (hL : L ≤ 3072) {w : mu_W} {o N : Nat} {n : Nat} {tp : Nat → Nat} {nr : Nat} {rs : Nat → mu_RS} {nf : Nat} {fs : Nat → mu_FS} {ng : Nat} {gs : Nat → mu_GS} {sr : Nat} {P : Nat → Prop} {sx sy : Int32} (hC : CST w o n tp nr rs nf fs ng gs sr P sx sy) (hM : MST w (o + 35) n tp nr rs nf fs ng gs sr P sx sy) (hB : GB ng gs N) (hN : N ≤ 999000) {i kc ks : Nat} (hi : i + 6 ≤ L) (hkc : kc + 5 ≤ room_1.cells) (hks : ks + 2539 ≤ room_1.slots)
    (k : ∀ (w' : mu_W) (n' : Nat) (tp' : Nat → Nat) (nr' : Nat) (rs' : Nat → mu_RS) (nf' : Nat) (fs' : Nat → mu_FS) (ng' : Nat) (gs' : Nat → mu_GS) (sr' : Nat) (P' : Nat → Prop) (sx' sy' : Int32), CST w' o n' tp' nr' rs' nf' fs' ng' gs' sr' P' sx' sy' → MST w' (o + 35) n' tp' nr' rs' nf' fs' ng' gs' sr' P' sx' sy' → GB ng' gs' (N + 1000) → mu_WA X G 4 Qf w' (kc + 5) (ks + 2539) 1349 [.ref b, .ref o, .ref (o + 35), .int (mI (i : Nat))] []) : mu_WA X G 4 Qf w kc ks 335 [.ref b, .ref o, .ref (o + 35), .int (mI (i : Nat))] [] := by
  have hko : mu_kd w o = some (11, 0) := by
    obtain ⟨ra, fa, ga, hf, hg, C⟩ := hC
    exact C.1.1
  refine mu_al_1 B dL_law_335 ?_
  refine mu_al_0 B dL_law_336 ?_
  refine mu_il_3 B dL_law_337 ?_
  refine mu_iconst (v := mI 1) B dL_law_338 rfl ?_
  refine mu_iadd B dL_law_339 ?_
  try rw [mI_add]
  refine mu_sld B hX hbl hbA dL_law_340 (mI_in (by omega) (by omega) (by omega)) ?_
  refine mu_al_0 B dL_law_341 ?_
  refine mu_il_3 B dL_law_342 ?_
  refine mu_iconst (v := mI 2) B dL_law_343 rfl ?_
  refine mu_iadd B dL_law_344 ?_
  try rw [mI_add]
  refine mu_sld B hX hbl hbA dL_law_345 (mI_in (by omega) (by omega) (by omega)) ?_
  refine mu_al_0 B dL_law_346 ?_
  refine mu_il_3 B dL_law_347 ?_
  refine mu_iconst (v := mI 3) B dL_law_348 rfl ?_
  refine mu_iadd B dL_law_349 ?_
  try rw [mI_add]
  refine mu_sld B hX hbl hbA dL_law_350 (mI_in (by omega) (by omega) (by omega)) ?_
  refine mu_al_0 B dL_law_351 ?_
  refine mu_il_3 B dL_law_352 ?_
  refine mu_iconst (v := mI 4) B dL_law_353 rfl ?_
  refine mu_iadd B dL_law_354 ?_
  try rw [mI_add]
  refine mu_sld B hX hbl hbA dL_law_355 (mI_in (by omega) (by omega) (by omega)) ?_
  refine mu_cV4 B dL_law_356 mL_37 ⟨⟨by decide, by decide⟩, Nat.le_trans (Nat.add_le_add_left (by decide) kc) hkc, Nat.le_trans (Nat.add_le_add_left (by decide) ks) hks⟩ (Nat.le_of_ble_eq_true rfl) hko (rw_put w o N n tp nr rs nf fs ng gs sr P sx sy hC hM hB hN) (fun r356 w356 q356 => ?_)
  obtain ⟨n', tp', nr', rs', nf', fs', ng', gs', sr', P', sx', sy', u, rfl, hB1, hkm, hm⟩ := q356
  refine mu_wd (k' := kc + 5) (n' := ks + 2539) (Nat.add_le_add_left (by decide) _) (Nat.add_le_add_left (by decide) _) ?_
  show mu_WA X G 4 _ _ _ _ 359 _ [.int u]
  refine mu_al_2 B dL_law_359 ?_
  refine mu_al_0 B dL_law_360 ?_
  refine mu_il_3 B dL_law_361 ?_
  refine mu_iconst (v := mI 1) B dL_law_362 rfl ?_
  refine mu_iadd B dL_law_363 ?_
  try rw [mI_add]
  refine mu_sld B hX hbl hbA dL_law_364 (mI_in (by omega) (by omega) (by omega)) ?_
  refine mu_al_0 B dL_law_365 ?_
  refine mu_il_3 B dL_law_366 ?_
  refine mu_iconst (v := mI 2) B dL_law_367 rfl ?_
  refine mu_iadd B dL_law_368 ?_
  try rw [mI_add]
  refine mu_sld B hX hbl hbA dL_law_369 (mI_in (by omega) (by omega) (by omega)) ?_
  refine mu_al_0 B dL_law_370 ?_
  refine mu_il_3 B dL_law_371 ?_
  refine mu_iconst (v := mI 3) B dL_law_372 rfl ?_
  refine mu_iadd B dL_law_373 ?_
  try rw [mI_add]
  refine mu_sld B hX hbl hbA dL_law_374 (mI_in (by omega) (by omega) (by omega)) ?_
  refine mu_al_0 B dL_law_375 ?_
  refine mu_il_3 B dL_law_376 ?_
  refine mu_iconst (v := mI 4) B dL_law_377 rfl ?_
  refine mu_iadd B dL_law_378 ?_
  try rw [mI_add]
  refine mu_sld B hX hbl hbA dL_law_379 (mI_in (by omega) (by omega) (by omega)) ?_
  refine mu_cV4 B dL_law_380 mL_41 ⟨⟨by decide, by decide⟩, hkc, hks⟩ (Nat.le_of_ble_eq_true rfl) hkm hm (fun r380 w380 q380 => ?_)
  obtain ⟨rfl, hC2, hM2⟩ := q380
  show mu_WA X G 4 _ _ _ _ 383 _ [.int u, .int u]
  refine mu_icmp_eq (tgt := 1349) B dL_law_383 (by decide) (fun _ => ?_) (fun h => absurd rfl h)
  exact k _ _ _ _ _ _ _ _ _ _ _ _ _ hC2 hM2 hB1

set_option maxHeartbeats 4000000 in
set_option maxRecDepth 100000 in
theorem lc_at {X : mu_X} {G : mu_G} {Qf : State → Prop} {b L : Nat} {xs : Nat → Int32} (B : mu_B X G cL_law RL 4 room_1) (hX : va_X b L xs X.2.2.2.2.1 X.2.2.2.2.1.heap) (hbl : b < X.2.2.2.2.1.heap.size) (hbA : ¬ mu_A G b) (hL : L ≤ 3072) {w : mu_W} {o N : Nat} {n : Nat} {tp : Nat → Nat} {nr : Nat} {rs : Nat → mu_RS} {nf : Nat} {fs : Nat → mu_FS} {ng : Nat} {gs : Nat → mu_GS} {sr : Nat} {P : Nat → Prop} {sx sy : Int32} (hC : CST w o n tp nr rs nf fs ng gs sr P sx sy) (hM : MST w (o + 35) n tp nr rs nf fs ng gs sr P sx sy) (hB : GB ng gs N) (hN : N ≤ 999000) {i kc ks : Nat} (hi : i + 6 ≤ L) (hkc : kc + 5 ≤ room_1.cells) (hks : ks + 2539 ≤ room_1.slots)
    (k : ∀ (w' : mu_W) (n' : Nat) (tp' : Nat → Nat) (nr' : Nat) (rs' : Nat → mu_RS) (nf' : Nat) (fs' : Nat → mu_FS) (ng' : Nat) (gs' : Nat → mu_GS) (sr' : Nat) (P' : Nat → Prop) (sx' sy' : Int32), CST w' o n' tp' nr' rs' nf' fs' ng' gs' sr' P' sx' sy' → MST w' (o + 35) n' tp' nr' rs' nf' fs' ng' gs' sr' P' sx' sy' → GB ng' gs' (N + 1000) → mu_WA X G 4 Qf w' (kc + 5) (ks + 2539) 1349 [.ref b, .ref o, .ref (o + 35), .int (mI (i : Nat))] []) : mu_WA X G 4 Qf w kc ks 388 [.ref b, .ref o, .ref (o + 35), .int (mI (i : Nat))] [] := by
  have hko : mu_kd w o = some (11, 0) := by
    obtain ⟨ra, fa, ga, hf, hg, C⟩ := hC
    exact C.1.1
  refine mu_al_1 B dL_law_388 ?_
  refine mu_al_0 B dL_law_389 ?_
  refine mu_il_3 B dL_law_390 ?_
  refine mu_iconst (v := mI 1) B dL_law_391 rfl ?_
  refine mu_iadd B dL_law_392 ?_
  try rw [mI_add]
  refine mu_sld B hX hbl hbA dL_law_393 (mI_in (by omega) (by omega) (by omega)) ?_
  refine mu_al_0 B dL_law_394 ?_
  refine mu_il_3 B dL_law_395 ?_
  refine mu_iconst (v := mI 2) B dL_law_396 rfl ?_
  refine mu_iadd B dL_law_397 ?_
  try rw [mI_add]
  refine mu_sld B hX hbl hbA dL_law_398 (mI_in (by omega) (by omega) (by omega)) ?_
  refine mu_al_0 B dL_law_399 ?_
  refine mu_il_3 B dL_law_400 ?_
  refine mu_iconst (v := mI 3) B dL_law_401 rfl ?_
  refine mu_iadd B dL_law_402 ?_
  try rw [mI_add]
  refine mu_sld B hX hbl hbA dL_law_403 (mI_in (by omega) (by omega) (by omega)) ?_
  refine mu_cV3 B dL_law_404 mL_42 ⟨⟨by decide, by decide⟩, Nat.le_trans (Nat.add_le_add_left (by decide) kc) hkc, Nat.le_trans (Nat.add_le_add_left (by decide) ks) hks⟩ (Nat.le_of_ble_eq_true rfl) hko (rw_at w o N n tp nr rs nf fs ng gs sr P sx sy hC hM hB hN) (fun r404 w404 q404 => ?_)
  obtain ⟨n', tp', nr', rs', nf', fs', ng', gs', sr', P', sx', sy', u, rfl, hB1, hkm, hm⟩ := q404
  refine mu_wd (k' := kc + 5) (n' := ks + 2539) (Nat.add_le_add_left (by decide) _) (Nat.add_le_add_left (by decide) _) ?_
  show mu_WA X G 4 _ _ _ _ 407 _ [.int u]
  refine mu_al_2 B dL_law_407 ?_
  refine mu_al_0 B dL_law_408 ?_
  refine mu_il_3 B dL_law_409 ?_
  refine mu_iconst (v := mI 1) B dL_law_410 rfl ?_
  refine mu_iadd B dL_law_411 ?_
  try rw [mI_add]
  refine mu_sld B hX hbl hbA dL_law_412 (mI_in (by omega) (by omega) (by omega)) ?_
  refine mu_al_0 B dL_law_413 ?_
  refine mu_il_3 B dL_law_414 ?_
  refine mu_iconst (v := mI 2) B dL_law_415 rfl ?_
  refine mu_iadd B dL_law_416 ?_
  try rw [mI_add]
  refine mu_sld B hX hbl hbA dL_law_417 (mI_in (by omega) (by omega) (by omega)) ?_
  refine mu_al_0 B dL_law_418 ?_
  refine mu_il_3 B dL_law_419 ?_
  refine mu_iconst (v := mI 3) B dL_law_420 rfl ?_
  refine mu_iadd B dL_law_421 ?_
  try rw [mI_add]
  refine mu_sld B hX hbl hbA dL_law_422 (mI_in (by omega) (by omega) (by omega)) ?_
  refine mu_cV3 B dL_law_423 mL_46 ⟨⟨by decide, by decide⟩, hkc, hks⟩ (Nat.le_of_ble_eq_true rfl) hkm hm (fun r423 w423 q423 => ?_)
  obtain ⟨rfl, hC2, hM2⟩ := q423
  show mu_WA X G 4 _ _ _ _ 426 _ [.int u, .int u]
  refine mu_icmp_eq (tgt := 1349) B dL_law_426 (by decide) (fun _ => ?_) (fun h => absurd rfl h)
  exact k _ _ _ _ _ _ _ _ _ _ _ _ _ hC2 hM2 hB1

set_option maxHeartbeats 4000000 in
set_option maxRecDepth 100000 in
theorem lc_read {X : mu_X} {G : mu_G} {Qf : State → Prop} {b L : Nat} {xs : Nat → Int32} (B : mu_B X G cL_law RL 4 room_1) (hX : va_X b L xs X.2.2.2.2.1 X.2.2.2.2.1.heap) (hbl : b < X.2.2.2.2.1.heap.size) (hbA : ¬ mu_A G b) (hL : L ≤ 3072) {w : mu_W} {o N : Nat} {n : Nat} {tp : Nat → Nat} {nr : Nat} {rs : Nat → mu_RS} {nf : Nat} {fs : Nat → mu_FS} {ng : Nat} {gs : Nat → mu_GS} {sr : Nat} {P : Nat → Prop} {sx sy : Int32} (hC : CST w o n tp nr rs nf fs ng gs sr P sx sy) (hM : MST w (o + 35) n tp nr rs nf fs ng gs sr P sx sy) (hB : GB ng gs N) (hN : N ≤ 999000) {i kc ks : Nat} (hi : i + 6 ≤ L) (hkc : kc + 5 ≤ room_1.cells) (hks : ks + 2539 ≤ room_1.slots)
    (k : ∀ (w' : mu_W) (n' : Nat) (tp' : Nat → Nat) (nr' : Nat) (rs' : Nat → mu_RS) (nf' : Nat) (fs' : Nat → mu_FS) (ng' : Nat) (gs' : Nat → mu_GS) (sr' : Nat) (P' : Nat → Prop) (sx' sy' : Int32), CST w' o n' tp' nr' rs' nf' fs' ng' gs' sr' P' sx' sy' → MST w' (o + 35) n' tp' nr' rs' nf' fs' ng' gs' sr' P' sx' sy' → GB ng' gs' (N + 1000) → mu_WA X G 4 Qf w' (kc + 5) (ks + 2539) 1349 [.ref b, .ref o, .ref (o + 35), .int (mI (i : Nat))] []) : mu_WA X G 4 Qf w kc ks 431 [.ref b, .ref o, .ref (o + 35), .int (mI (i : Nat))] [] := by
  have hko : mu_kd w o = some (11, 0) := by
    obtain ⟨ra, fa, ga, hf, hg, C⟩ := hC
    exact C.1.1
  refine mu_al_1 B dL_law_431 ?_
  refine mu_al_0 B dL_law_432 ?_
  refine mu_il_3 B dL_law_433 ?_
  refine mu_iconst (v := mI 1) B dL_law_434 rfl ?_
  refine mu_iadd B dL_law_435 ?_
  try rw [mI_add]
  refine mu_sld B hX hbl hbA dL_law_436 (mI_in (by omega) (by omega) (by omega)) ?_
  refine mu_al_0 B dL_law_437 ?_
  refine mu_il_3 B dL_law_438 ?_
  refine mu_iconst (v := mI 2) B dL_law_439 rfl ?_
  refine mu_iadd B dL_law_440 ?_
  try rw [mI_add]
  refine mu_sld B hX hbl hbA dL_law_441 (mI_in (by omega) (by omega) (by omega)) ?_
  refine mu_al_0 B dL_law_442 ?_
  refine mu_il_3 B dL_law_443 ?_
  refine mu_iconst (v := mI 3) B dL_law_444 rfl ?_
  refine mu_iadd B dL_law_445 ?_
  try rw [mI_add]
  refine mu_sld B hX hbl hbA dL_law_446 (mI_in (by omega) (by omega) (by omega)) ?_
  refine mu_cV3 B dL_law_447 mL_47 ⟨⟨by decide, by decide⟩, Nat.le_trans (Nat.add_le_add_left (by decide) kc) hkc, Nat.le_trans (Nat.add_le_add_left (by decide) ks) hks⟩ (Nat.le_of_ble_eq_true rfl) hko (rw_read w o N n tp nr rs nf fs ng gs sr P sx sy hC hM hB hN) (fun r447 w447 q447 => ?_)
  obtain ⟨n', tp', nr', rs', nf', fs', ng', gs', sr', P', sx', sy', u, rfl, hB1, hkm, hm⟩ := q447
  refine mu_wd (k' := kc + 5) (n' := ks + 2539) (Nat.add_le_add_left (by decide) _) (Nat.add_le_add_left (by decide) _) ?_
  show mu_WA X G 4 _ _ _ _ 450 _ [.int u]
  refine mu_al_2 B dL_law_450 ?_
  refine mu_al_0 B dL_law_451 ?_
  refine mu_il_3 B dL_law_452 ?_
  refine mu_iconst (v := mI 1) B dL_law_453 rfl ?_
  refine mu_iadd B dL_law_454 ?_
  try rw [mI_add]
  refine mu_sld B hX hbl hbA dL_law_455 (mI_in (by omega) (by omega) (by omega)) ?_
  refine mu_al_0 B dL_law_456 ?_
  refine mu_il_3 B dL_law_457 ?_
  refine mu_iconst (v := mI 2) B dL_law_458 rfl ?_
  refine mu_iadd B dL_law_459 ?_
  try rw [mI_add]
  refine mu_sld B hX hbl hbA dL_law_460 (mI_in (by omega) (by omega) (by omega)) ?_
  refine mu_al_0 B dL_law_461 ?_
  refine mu_il_3 B dL_law_462 ?_
  refine mu_iconst (v := mI 3) B dL_law_463 rfl ?_
  refine mu_iadd B dL_law_464 ?_
  try rw [mI_add]
  refine mu_sld B hX hbl hbA dL_law_465 (mI_in (by omega) (by omega) (by omega)) ?_
  refine mu_cV3 B dL_law_466 mL_50 ⟨⟨by decide, by decide⟩, hkc, hks⟩ (Nat.le_of_ble_eq_true rfl) hkm hm (fun r466 w466 q466 => ?_)
  obtain ⟨rfl, hC2, hM2⟩ := q466
  show mu_WA X G 4 _ _ _ _ 469 _ [.int u, .int u]
  refine mu_icmp_eq (tgt := 1349) B dL_law_469 (by decide) (fun _ => ?_) (fun h => absurd rfl h)
  exact k _ _ _ _ _ _ _ _ _ _ _ _ _ hC2 hM2 hB1

set_option maxHeartbeats 4000000 in
set_option maxRecDepth 100000 in
theorem lc_textByte {X : mu_X} {G : mu_G} {Qf : State → Prop} {b L : Nat} {xs : Nat → Int32} (B : mu_B X G cL_law RL 4 room_1) (hX : va_X b L xs X.2.2.2.2.1 X.2.2.2.2.1.heap) (hbl : b < X.2.2.2.2.1.heap.size) (hbA : ¬ mu_A G b) (hL : L ≤ 3072) {w : mu_W} {o N : Nat} {n : Nat} {tp : Nat → Nat} {nr : Nat} {rs : Nat → mu_RS} {nf : Nat} {fs : Nat → mu_FS} {ng : Nat} {gs : Nat → mu_GS} {sr : Nat} {P : Nat → Prop} {sx sy : Int32} (hC : CST w o n tp nr rs nf fs ng gs sr P sx sy) (hM : MST w (o + 35) n tp nr rs nf fs ng gs sr P sx sy) (hB : GB ng gs N) (hN : N ≤ 999000) {i kc ks : Nat} (hi : i + 6 ≤ L) (hkc : kc + 5 ≤ room_1.cells) (hks : ks + 2539 ≤ room_1.slots)
    (k : ∀ (w' : mu_W) (n' : Nat) (tp' : Nat → Nat) (nr' : Nat) (rs' : Nat → mu_RS) (nf' : Nat) (fs' : Nat → mu_FS) (ng' : Nat) (gs' : Nat → mu_GS) (sr' : Nat) (P' : Nat → Prop) (sx' sy' : Int32), CST w' o n' tp' nr' rs' nf' fs' ng' gs' sr' P' sx' sy' → MST w' (o + 35) n' tp' nr' rs' nf' fs' ng' gs' sr' P' sx' sy' → GB ng' gs' (N + 1000) → mu_WA X G 4 Qf w' (kc + 5) (ks + 2539) 1349 [.ref b, .ref o, .ref (o + 35), .int (mI (i : Nat))] []) : mu_WA X G 4 Qf w kc ks 474 [.ref b, .ref o, .ref (o + 35), .int (mI (i : Nat))] [] := by
  have hko : mu_kd w o = some (11, 0) := by
    obtain ⟨ra, fa, ga, hf, hg, C⟩ := hC
    exact C.1.1
  refine mu_al_1 B dL_law_474 ?_
  refine mu_al_0 B dL_law_475 ?_
  refine mu_il_3 B dL_law_476 ?_
  refine mu_iconst (v := mI 1) B dL_law_477 rfl ?_
  refine mu_iadd B dL_law_478 ?_
  try rw [mI_add]
  refine mu_sld B hX hbl hbA dL_law_479 (mI_in (by omega) (by omega) (by omega)) ?_
  refine mu_al_0 B dL_law_480 ?_
  refine mu_il_3 B dL_law_481 ?_
  refine mu_iconst (v := mI 2) B dL_law_482 rfl ?_
  refine mu_iadd B dL_law_483 ?_
  try rw [mI_add]
  refine mu_sld B hX hbl hbA dL_law_484 (mI_in (by omega) (by omega) (by omega)) ?_
  refine mu_cV2 B dL_law_485 mL_51 ⟨⟨by decide, by decide⟩, Nat.le_trans (Nat.add_le_add_left (by decide) kc) hkc, Nat.le_trans (Nat.add_le_add_left (by decide) ks) hks⟩ (Nat.le_of_ble_eq_true rfl) hko (rw_textByte w o N n tp nr rs nf fs ng gs sr P sx sy hC hM hB hN) (fun r485 w485 q485 => ?_)
  obtain ⟨n', tp', nr', rs', nf', fs', ng', gs', sr', P', sx', sy', u, rfl, hB1, hkm, hm⟩ := q485
  refine mu_wd (k' := kc + 5) (n' := ks + 2539) (Nat.add_le_add_left (by decide) _) (Nat.add_le_add_left (by decide) _) ?_
  show mu_WA X G 4 _ _ _ _ 488 _ [.int u]
  refine mu_al_2 B dL_law_488 ?_
  refine mu_al_0 B dL_law_489 ?_
  refine mu_il_3 B dL_law_490 ?_
  refine mu_iconst (v := mI 1) B dL_law_491 rfl ?_
  refine mu_iadd B dL_law_492 ?_
  try rw [mI_add]
  refine mu_sld B hX hbl hbA dL_law_493 (mI_in (by omega) (by omega) (by omega)) ?_
  refine mu_al_0 B dL_law_494 ?_
  refine mu_il_3 B dL_law_495 ?_
  refine mu_iconst (v := mI 2) B dL_law_496 rfl ?_
  refine mu_iadd B dL_law_497 ?_
  try rw [mI_add]
  refine mu_sld B hX hbl hbA dL_law_498 (mI_in (by omega) (by omega) (by omega)) ?_
  refine mu_cV2 B dL_law_499 mL_54 ⟨⟨by decide, by decide⟩, hkc, hks⟩ (Nat.le_of_ble_eq_true rfl) hkm hm (fun r499 w499 q499 => ?_)
  obtain ⟨rfl, hC2, hM2⟩ := q499
  show mu_WA X G 4 _ _ _ _ 502 _ [.int u, .int u]
  refine mu_icmp_eq (tgt := 1349) B dL_law_502 (by decide) (fun _ => ?_) (fun h => absurd rfl h)
  exact k _ _ _ _ _ _ _ _ _ _ _ _ _ hC2 hM2 hB1

set_option maxHeartbeats 4000000 in
set_option maxRecDepth 100000 in
theorem lc_steps {X : mu_X} {G : mu_G} {Qf : State → Prop} {b L : Nat} {xs : Nat → Int32} (B : mu_B X G cL_law RL 4 room_1) (hX : va_X b L xs X.2.2.2.2.1 X.2.2.2.2.1.heap) (hbl : b < X.2.2.2.2.1.heap.size) (hbA : ¬ mu_A G b) (hL : L ≤ 3072) {w : mu_W} {o N : Nat} {n : Nat} {tp : Nat → Nat} {nr : Nat} {rs : Nat → mu_RS} {nf : Nat} {fs : Nat → mu_FS} {ng : Nat} {gs : Nat → mu_GS} {sr : Nat} {P : Nat → Prop} {sx sy : Int32} (hC : CST w o n tp nr rs nf fs ng gs sr P sx sy) (hM : MST w (o + 35) n tp nr rs nf fs ng gs sr P sx sy) (hB : GB ng gs N) (hN : N ≤ 999000) {i kc ks : Nat} (hi : i + 6 ≤ L) (hkc : kc + 5 ≤ room_1.cells) (hks : ks + 2539 ≤ room_1.slots)
    (k : ∀ (w' : mu_W) (n' : Nat) (tp' : Nat → Nat) (nr' : Nat) (rs' : Nat → mu_RS) (nf' : Nat) (fs' : Nat → mu_FS) (ng' : Nat) (gs' : Nat → mu_GS) (sr' : Nat) (P' : Nat → Prop) (sx' sy' : Int32), CST w' o n' tp' nr' rs' nf' fs' ng' gs' sr' P' sx' sy' → MST w' (o + 35) n' tp' nr' rs' nf' fs' ng' gs' sr' P' sx' sy' → GB ng' gs' (N + 1000) → mu_WA X G 4 Qf w' (kc + 5) (ks + 2539) 1349 [.ref b, .ref o, .ref (o + 35), .int (mI (i : Nat))] []) : mu_WA X G 4 Qf w kc ks 507 [.ref b, .ref o, .ref (o + 35), .int (mI (i : Nat))] [] := by
  have hko : mu_kd w o = some (11, 0) := by
    obtain ⟨ra, fa, ga, hf, hg, C⟩ := hC
    exact C.1.1
  refine mu_al_1 B dL_law_507 ?_
  refine mu_al_0 B dL_law_508 ?_
  refine mu_il_3 B dL_law_509 ?_
  refine mu_iconst (v := mI 1) B dL_law_510 rfl ?_
  refine mu_iadd B dL_law_511 ?_
  try rw [mI_add]
  refine mu_sld B hX hbl hbA dL_law_512 (mI_in (by omega) (by omega) (by omega)) ?_
  refine mu_al_0 B dL_law_513 ?_
  refine mu_il_3 B dL_law_514 ?_
  refine mu_iconst (v := mI 2) B dL_law_515 rfl ?_
  refine mu_iadd B dL_law_516 ?_
  try rw [mI_add]
  refine mu_sld B hX hbl hbA dL_law_517 (mI_in (by omega) (by omega) (by omega)) ?_
  refine mu_cV2 B dL_law_518 mL_55 ⟨⟨by decide, by decide⟩, Nat.le_trans (Nat.add_le_add_left (by decide) kc) hkc, Nat.le_trans (Nat.add_le_add_left (by decide) ks) hks⟩ (Nat.le_of_ble_eq_true rfl) hko (rw_steps w o N n tp nr rs nf fs ng gs sr P sx sy hC hM hB hN) (fun r518 w518 q518 => ?_)
  obtain ⟨n', tp', nr', rs', nf', fs', ng', gs', sr', P', sx', sy', u, rfl, hB1, hkm, hm⟩ := q518
  refine mu_wd (k' := kc + 5) (n' := ks + 2539) (Nat.add_le_add_left (by decide) _) (Nat.add_le_add_left (by decide) _) ?_
  show mu_WA X G 4 _ _ _ _ 521 _ [.int u]
  refine mu_al_2 B dL_law_521 ?_
  refine mu_al_0 B dL_law_522 ?_
  refine mu_il_3 B dL_law_523 ?_
  refine mu_iconst (v := mI 1) B dL_law_524 rfl ?_
  refine mu_iadd B dL_law_525 ?_
  try rw [mI_add]
  refine mu_sld B hX hbl hbA dL_law_526 (mI_in (by omega) (by omega) (by omega)) ?_
  refine mu_al_0 B dL_law_527 ?_
  refine mu_il_3 B dL_law_528 ?_
  refine mu_iconst (v := mI 2) B dL_law_529 rfl ?_
  refine mu_iadd B dL_law_530 ?_
  try rw [mI_add]
  refine mu_sld B hX hbl hbA dL_law_531 (mI_in (by omega) (by omega) (by omega)) ?_
  refine mu_cV2 B dL_law_532 mL_58 ⟨⟨by decide, by decide⟩, hkc, hks⟩ (Nat.le_of_ble_eq_true rfl) hkm hm (fun r532 w532 q532 => ?_)
  obtain ⟨rfl, hC2, hM2⟩ := q532
  show mu_WA X G 4 _ _ _ _ 535 _ [.int u, .int u]
  refine mu_icmp_eq (tgt := 1349) B dL_law_535 (by decide) (fun _ => ?_) (fun h => absurd rfl h)
  exact k _ _ _ _ _ _ _ _ _ _ _ _ _ hC2 hM2 hB1

set_option maxHeartbeats 4000000 in
set_option maxRecDepth 100000 in
theorem lc_jump {X : mu_X} {G : mu_G} {Qf : State → Prop} {b L : Nat} {xs : Nat → Int32} (B : mu_B X G cL_law RL 4 room_1) (hX : va_X b L xs X.2.2.2.2.1 X.2.2.2.2.1.heap) (hbl : b < X.2.2.2.2.1.heap.size) (hbA : ¬ mu_A G b) (hL : L ≤ 3072) {w : mu_W} {o N : Nat} {n : Nat} {tp : Nat → Nat} {nr : Nat} {rs : Nat → mu_RS} {nf : Nat} {fs : Nat → mu_FS} {ng : Nat} {gs : Nat → mu_GS} {sr : Nat} {P : Nat → Prop} {sx sy : Int32} (hC : CST w o n tp nr rs nf fs ng gs sr P sx sy) (hM : MST w (o + 35) n tp nr rs nf fs ng gs sr P sx sy) (hB : GB ng gs N) (hN : N ≤ 999000) {i kc ks : Nat} (hi : i + 6 ≤ L) (hkc : kc + 5 ≤ room_1.cells) (hks : ks + 2539 ≤ room_1.slots)
    (k : ∀ (w' : mu_W) (n' : Nat) (tp' : Nat → Nat) (nr' : Nat) (rs' : Nat → mu_RS) (nf' : Nat) (fs' : Nat → mu_FS) (ng' : Nat) (gs' : Nat → mu_GS) (sr' : Nat) (P' : Nat → Prop) (sx' sy' : Int32), CST w' o n' tp' nr' rs' nf' fs' ng' gs' sr' P' sx' sy' → MST w' (o + 35) n' tp' nr' rs' nf' fs' ng' gs' sr' P' sx' sy' → GB ng' gs' (N + 1000) → mu_WA X G 4 Qf w' (kc + 5) (ks + 2539) 1349 [.ref b, .ref o, .ref (o + 35), .int (mI (i : Nat))] []) : mu_WA X G 4 Qf w kc ks 540 [.ref b, .ref o, .ref (o + 35), .int (mI (i : Nat))] [] := by
  have hko : mu_kd w o = some (11, 0) := by
    obtain ⟨ra, fa, ga, hf, hg, C⟩ := hC
    exact C.1.1
  refine mu_al_1 B dL_law_540 ?_
  refine mu_al_0 B dL_law_541 ?_
  refine mu_il_3 B dL_law_542 ?_
  refine mu_iconst (v := mI 1) B dL_law_543 rfl ?_
  refine mu_iadd B dL_law_544 ?_
  try rw [mI_add]
  refine mu_sld B hX hbl hbA dL_law_545 (mI_in (by omega) (by omega) (by omega)) ?_
  refine mu_al_0 B dL_law_546 ?_
  refine mu_il_3 B dL_law_547 ?_
  refine mu_iconst (v := mI 2) B dL_law_548 rfl ?_
  refine mu_iadd B dL_law_549 ?_
  try rw [mI_add]
  refine mu_sld B hX hbl hbA dL_law_550 (mI_in (by omega) (by omega) (by omega)) ?_
  refine mu_cV2 B dL_law_551 mL_59 ⟨⟨by decide, by decide⟩, Nat.le_trans (Nat.add_le_add_left (by decide) kc) hkc, Nat.le_trans (Nat.add_le_add_left (by decide) ks) hks⟩ (Nat.le_of_ble_eq_true rfl) hko (rw_jump w o N n tp nr rs nf fs ng gs sr P sx sy hC hM hB hN) (fun r551 w551 q551 => ?_)
  obtain ⟨n', tp', nr', rs', nf', fs', ng', gs', sr', P', sx', sy', u, rfl, hB1, hkm, hm⟩ := q551
  refine mu_wd (k' := kc + 5) (n' := ks + 2539) (Nat.add_le_add_left (by decide) _) (Nat.add_le_add_left (by decide) _) ?_
  show mu_WA X G 4 _ _ _ _ 554 _ [.int u]
  refine mu_al_2 B dL_law_554 ?_
  refine mu_al_0 B dL_law_555 ?_
  refine mu_il_3 B dL_law_556 ?_
  refine mu_iconst (v := mI 1) B dL_law_557 rfl ?_
  refine mu_iadd B dL_law_558 ?_
  try rw [mI_add]
  refine mu_sld B hX hbl hbA dL_law_559 (mI_in (by omega) (by omega) (by omega)) ?_
  refine mu_al_0 B dL_law_560 ?_
  refine mu_il_3 B dL_law_561 ?_
  refine mu_iconst (v := mI 2) B dL_law_562 rfl ?_
  refine mu_iadd B dL_law_563 ?_
  try rw [mI_add]
  refine mu_sld B hX hbl hbA dL_law_564 (mI_in (by omega) (by omega) (by omega)) ?_
  refine mu_cV2 B dL_law_565 mL_62 ⟨⟨by decide, by decide⟩, hkc, hks⟩ (Nat.le_of_ble_eq_true rfl) hkm hm (fun r565 w565 q565 => ?_)
  obtain ⟨rfl, hC2, hM2⟩ := q565
  show mu_WA X G 4 _ _ _ _ 568 _ [.int u, .int u]
  refine mu_icmp_eq (tgt := 1349) B dL_law_568 (by decide) (fun _ => ?_) (fun h => absurd rfl h)
  exact k _ _ _ _ _ _ _ _ _ _ _ _ _ hC2 hM2 hB1

set_option maxHeartbeats 4000000 in
set_option maxRecDepth 100000 in
theorem lc_about {X : mu_X} {G : mu_G} {Qf : State → Prop} {b L : Nat} {xs : Nat → Int32} (B : mu_B X G cL_law RL 4 room_1) (hX : va_X b L xs X.2.2.2.2.1 X.2.2.2.2.1.heap) (hbl : b < X.2.2.2.2.1.heap.size) (hbA : ¬ mu_A G b) (hL : L ≤ 3072) {w : mu_W} {o N : Nat} {n : Nat} {tp : Nat → Nat} {nr : Nat} {rs : Nat → mu_RS} {nf : Nat} {fs : Nat → mu_FS} {ng : Nat} {gs : Nat → mu_GS} {sr : Nat} {P : Nat → Prop} {sx sy : Int32} (hC : CST w o n tp nr rs nf fs ng gs sr P sx sy) (hM : MST w (o + 35) n tp nr rs nf fs ng gs sr P sx sy) (hB : GB ng gs N) (hN : N ≤ 999000) {i kc ks : Nat} (hi : i + 6 ≤ L) (hkc : kc + 5 ≤ room_1.cells) (hks : ks + 2539 ≤ room_1.slots)
    (k : ∀ (w' : mu_W) (n' : Nat) (tp' : Nat → Nat) (nr' : Nat) (rs' : Nat → mu_RS) (nf' : Nat) (fs' : Nat → mu_FS) (ng' : Nat) (gs' : Nat → mu_GS) (sr' : Nat) (P' : Nat → Prop) (sx' sy' : Int32), CST w' o n' tp' nr' rs' nf' fs' ng' gs' sr' P' sx' sy' → MST w' (o + 35) n' tp' nr' rs' nf' fs' ng' gs' sr' P' sx' sy' → GB ng' gs' (N + 1000) → mu_WA X G 4 Qf w' (kc + 5) (ks + 2539) 1349 [.ref b, .ref o, .ref (o + 35), .int (mI (i : Nat))] []) : mu_WA X G 4 Qf w kc ks 573 [.ref b, .ref o, .ref (o + 35), .int (mI (i : Nat))] [] := by
  have hko : mu_kd w o = some (11, 0) := by
    obtain ⟨ra, fa, ga, hf, hg, C⟩ := hC
    exact C.1.1
  refine mu_al_1 B dL_law_573 ?_
  refine mu_al_0 B dL_law_574 ?_
  refine mu_il_3 B dL_law_575 ?_
  refine mu_iconst (v := mI 1) B dL_law_576 rfl ?_
  refine mu_iadd B dL_law_577 ?_
  try rw [mI_add]
  refine mu_sld B hX hbl hbA dL_law_578 (mI_in (by omega) (by omega) (by omega)) ?_
  refine mu_al_0 B dL_law_579 ?_
  refine mu_il_3 B dL_law_580 ?_
  refine mu_iconst (v := mI 2) B dL_law_581 rfl ?_
  refine mu_iadd B dL_law_582 ?_
  try rw [mI_add]
  refine mu_sld B hX hbl hbA dL_law_583 (mI_in (by omega) (by omega) (by omega)) ?_
  refine mu_cV2 B dL_law_584 mL_63 ⟨⟨by decide, by decide⟩, Nat.le_trans (Nat.add_le_add_left (by decide) kc) hkc, Nat.le_trans (Nat.add_le_add_left (by decide) ks) hks⟩ (Nat.le_of_ble_eq_true rfl) hko (rw_about w o N n tp nr rs nf fs ng gs sr P sx sy hC hM hB hN) (fun r584 w584 q584 => ?_)
  obtain ⟨n', tp', nr', rs', nf', fs', ng', gs', sr', P', sx', sy', u, rfl, hB1, hkm, hm⟩ := q584
  refine mu_wd (k' := kc + 5) (n' := ks + 2539) (Nat.add_le_add_left (by decide) _) (Nat.add_le_add_left (by decide) _) ?_
  show mu_WA X G 4 _ _ _ _ 587 _ [.int u]
  refine mu_al_2 B dL_law_587 ?_
  refine mu_al_0 B dL_law_588 ?_
  refine mu_il_3 B dL_law_589 ?_
  refine mu_iconst (v := mI 1) B dL_law_590 rfl ?_
  refine mu_iadd B dL_law_591 ?_
  try rw [mI_add]
  refine mu_sld B hX hbl hbA dL_law_592 (mI_in (by omega) (by omega) (by omega)) ?_
  refine mu_al_0 B dL_law_593 ?_
  refine mu_il_3 B dL_law_594 ?_
  refine mu_iconst (v := mI 2) B dL_law_595 rfl ?_
  refine mu_iadd B dL_law_596 ?_
  try rw [mI_add]
  refine mu_sld B hX hbl hbA dL_law_597 (mI_in (by omega) (by omega) (by omega)) ?_
  refine mu_cV2 B dL_law_598 mL_66 ⟨⟨by decide, by decide⟩, hkc, hks⟩ (Nat.le_of_ble_eq_true rfl) hkm hm (fun r598 w598 q598 => ?_)
  obtain ⟨rfl, hC2, hM2⟩ := q598
  show mu_WA X G 4 _ _ _ _ 601 _ [.int u, .int u]
  refine mu_icmp_eq (tgt := 1349) B dL_law_601 (by decide) (fun _ => ?_) (fun h => absurd rfl h)
  exact k _ _ _ _ _ _ _ _ _ _ _ _ _ hC2 hM2 hB1

set_option maxHeartbeats 4000000 in
set_option maxRecDepth 100000 in
theorem lc_period {X : mu_X} {G : mu_G} {Qf : State → Prop} {b L : Nat} {xs : Nat → Int32} (B : mu_B X G cL_law RL 4 room_1) (hX : va_X b L xs X.2.2.2.2.1 X.2.2.2.2.1.heap) (hbl : b < X.2.2.2.2.1.heap.size) (hbA : ¬ mu_A G b) (hL : L ≤ 3072) {w : mu_W} {o N : Nat} {n : Nat} {tp : Nat → Nat} {nr : Nat} {rs : Nat → mu_RS} {nf : Nat} {fs : Nat → mu_FS} {ng : Nat} {gs : Nat → mu_GS} {sr : Nat} {P : Nat → Prop} {sx sy : Int32} (hC : CST w o n tp nr rs nf fs ng gs sr P sx sy) (hM : MST w (o + 35) n tp nr rs nf fs ng gs sr P sx sy) (hB : GB ng gs N) (hN : N ≤ 999000) {i kc ks : Nat} (hi : i + 6 ≤ L) (hkc : kc + 5 ≤ room_1.cells) (hks : ks + 2539 ≤ room_1.slots)
    (k : ∀ (w' : mu_W) (n' : Nat) (tp' : Nat → Nat) (nr' : Nat) (rs' : Nat → mu_RS) (nf' : Nat) (fs' : Nat → mu_FS) (ng' : Nat) (gs' : Nat → mu_GS) (sr' : Nat) (P' : Nat → Prop) (sx' sy' : Int32), CST w' o n' tp' nr' rs' nf' fs' ng' gs' sr' P' sx' sy' → MST w' (o + 35) n' tp' nr' rs' nf' fs' ng' gs' sr' P' sx' sy' → GB ng' gs' (N + 1000) → mu_WA X G 4 Qf w' (kc + 5) (ks + 2539) 1349 [.ref b, .ref o, .ref (o + 35), .int (mI (i : Nat))] []) : mu_WA X G 4 Qf w kc ks 606 [.ref b, .ref o, .ref (o + 35), .int (mI (i : Nat))] [] := by
  have hko : mu_kd w o = some (11, 0) := by
    obtain ⟨ra, fa, ga, hf, hg, C⟩ := hC
    exact C.1.1
  refine mu_al_1 B dL_law_606 ?_
  refine mu_al_0 B dL_law_607 ?_
  refine mu_il_3 B dL_law_608 ?_
  refine mu_iconst (v := mI 1) B dL_law_609 rfl ?_
  refine mu_iadd B dL_law_610 ?_
  try rw [mI_add]
  refine mu_sld B hX hbl hbA dL_law_611 (mI_in (by omega) (by omega) (by omega)) ?_
  refine mu_al_0 B dL_law_612 ?_
  refine mu_il_3 B dL_law_613 ?_
  refine mu_iconst (v := mI 2) B dL_law_614 rfl ?_
  refine mu_iadd B dL_law_615 ?_
  try rw [mI_add]
  refine mu_sld B hX hbl hbA dL_law_616 (mI_in (by omega) (by omega) (by omega)) ?_
  refine mu_cV2 B dL_law_617 mL_67 ⟨⟨by decide, by decide⟩, Nat.le_trans (Nat.add_le_add_left (by decide) kc) hkc, Nat.le_trans (Nat.add_le_add_left (by decide) ks) hks⟩ (Nat.le_of_ble_eq_true rfl) hko (rw_period w o N n tp nr rs nf fs ng gs sr P sx sy hC hM hB hN) (fun r617 w617 q617 => ?_)
  obtain ⟨n', tp', nr', rs', nf', fs', ng', gs', sr', P', sx', sy', u, rfl, hB1, hkm, hm⟩ := q617
  refine mu_wd (k' := kc + 5) (n' := ks + 2539) (Nat.add_le_add_left (by decide) _) (Nat.add_le_add_left (by decide) _) ?_
  show mu_WA X G 4 _ _ _ _ 620 _ [.int u]
  refine mu_al_2 B dL_law_620 ?_
  refine mu_al_0 B dL_law_621 ?_
  refine mu_il_3 B dL_law_622 ?_
  refine mu_iconst (v := mI 1) B dL_law_623 rfl ?_
  refine mu_iadd B dL_law_624 ?_
  try rw [mI_add]
  refine mu_sld B hX hbl hbA dL_law_625 (mI_in (by omega) (by omega) (by omega)) ?_
  refine mu_al_0 B dL_law_626 ?_
  refine mu_il_3 B dL_law_627 ?_
  refine mu_iconst (v := mI 2) B dL_law_628 rfl ?_
  refine mu_iadd B dL_law_629 ?_
  try rw [mI_add]
  refine mu_sld B hX hbl hbA dL_law_630 (mI_in (by omega) (by omega) (by omega)) ?_
  refine mu_cV2 B dL_law_631 mL_70 ⟨⟨by decide, by decide⟩, hkc, hks⟩ (Nat.le_of_ble_eq_true rfl) hkm hm (fun r631 w631 q631 => ?_)
  obtain ⟨rfl, hC2, hM2⟩ := q631
  show mu_WA X G 4 _ _ _ _ 634 _ [.int u, .int u]
  refine mu_icmp_eq (tgt := 1349) B dL_law_634 (by decide) (fun _ => ?_) (fun h => absurd rfl h)
  exact k _ _ _ _ _ _ _ _ _ _ _ _ _ hC2 hM2 hB1

set_option maxHeartbeats 4000000 in
set_option maxRecDepth 100000 in
theorem lc_shift {X : mu_X} {G : mu_G} {Qf : State → Prop} {b L : Nat} {xs : Nat → Int32} (B : mu_B X G cL_law RL 4 room_1) (hX : va_X b L xs X.2.2.2.2.1 X.2.2.2.2.1.heap) (hbl : b < X.2.2.2.2.1.heap.size) (hbA : ¬ mu_A G b) (hL : L ≤ 3072) {w : mu_W} {o N : Nat} {n : Nat} {tp : Nat → Nat} {nr : Nat} {rs : Nat → mu_RS} {nf : Nat} {fs : Nat → mu_FS} {ng : Nat} {gs : Nat → mu_GS} {sr : Nat} {P : Nat → Prop} {sx sy : Int32} (hC : CST w o n tp nr rs nf fs ng gs sr P sx sy) (hM : MST w (o + 35) n tp nr rs nf fs ng gs sr P sx sy) (hB : GB ng gs N) (hN : N ≤ 999000) {i kc ks : Nat} (hi : i + 6 ≤ L) (hkc : kc + 5 ≤ room_1.cells) (hks : ks + 2539 ≤ room_1.slots)
    (k : ∀ (w' : mu_W) (n' : Nat) (tp' : Nat → Nat) (nr' : Nat) (rs' : Nat → mu_RS) (nf' : Nat) (fs' : Nat → mu_FS) (ng' : Nat) (gs' : Nat → mu_GS) (sr' : Nat) (P' : Nat → Prop) (sx' sy' : Int32), CST w' o n' tp' nr' rs' nf' fs' ng' gs' sr' P' sx' sy' → MST w' (o + 35) n' tp' nr' rs' nf' fs' ng' gs' sr' P' sx' sy' → GB ng' gs' (N + 1000) → mu_WA X G 4 Qf w' (kc + 5) (ks + 2539) 1349 [.ref b, .ref o, .ref (o + 35), .int (mI (i : Nat))] []) : mu_WA X G 4 Qf w kc ks 639 [.ref b, .ref o, .ref (o + 35), .int (mI (i : Nat))] [] := by
  have hko : mu_kd w o = some (11, 0) := by
    obtain ⟨ra, fa, ga, hf, hg, C⟩ := hC
    exact C.1.1
  refine mu_al_1 B dL_law_639 ?_
  refine mu_al_0 B dL_law_640 ?_
  refine mu_il_3 B dL_law_641 ?_
  refine mu_iconst (v := mI 1) B dL_law_642 rfl ?_
  refine mu_iadd B dL_law_643 ?_
  try rw [mI_add]
  refine mu_sld B hX hbl hbA dL_law_644 (mI_in (by omega) (by omega) (by omega)) ?_
  refine mu_cV1 B dL_law_645 mL_71 ⟨⟨by decide, by decide⟩, Nat.le_trans (Nat.add_le_add_left (by decide) kc) hkc, Nat.le_trans (Nat.add_le_add_left (by decide) ks) hks⟩ (Nat.le_of_ble_eq_true rfl) hko (rw_shift w o N n tp nr rs nf fs ng gs sr P sx sy hC hM hB hN) (fun r645 w645 q645 => ?_)
  obtain ⟨n', tp', nr', rs', nf', fs', ng', gs', sr', P', sx', sy', u, rfl, hB1, hkm, hm⟩ := q645
  refine mu_wd (k' := kc + 5) (n' := ks + 2539) (Nat.add_le_add_left (by decide) _) (Nat.add_le_add_left (by decide) _) ?_
  show mu_WA X G 4 _ _ _ _ 648 _ [.int u]
  refine mu_al_2 B dL_law_648 ?_
  refine mu_al_0 B dL_law_649 ?_
  refine mu_il_3 B dL_law_650 ?_
  refine mu_iconst (v := mI 1) B dL_law_651 rfl ?_
  refine mu_iadd B dL_law_652 ?_
  try rw [mI_add]
  refine mu_sld B hX hbl hbA dL_law_653 (mI_in (by omega) (by omega) (by omega)) ?_
  refine mu_cV1 B dL_law_654 mL_74 ⟨⟨by decide, by decide⟩, hkc, hks⟩ (Nat.le_of_ble_eq_true rfl) hkm hm (fun r654 w654 q654 => ?_)
  obtain ⟨rfl, hC2, hM2⟩ := q654
  show mu_WA X G 4 _ _ _ _ 657 _ [.int u, .int u]
  refine mu_icmp_eq (tgt := 1349) B dL_law_657 (by decide) (fun _ => ?_) (fun h => absurd rfl h)
  exact k _ _ _ _ _ _ _ _ _ _ _ _ _ hC2 hM2 hB1

set_option maxHeartbeats 4000000 in
set_option maxRecDepth 100000 in
theorem lc_congruent {X : mu_X} {G : mu_G} {Qf : State → Prop} {b L : Nat} {xs : Nat → Int32} (B : mu_B X G cL_law RL 4 room_1) (hX : va_X b L xs X.2.2.2.2.1 X.2.2.2.2.1.heap) (hbl : b < X.2.2.2.2.1.heap.size) (hbA : ¬ mu_A G b) (hL : L ≤ 3072) {w : mu_W} {o N : Nat} {n : Nat} {tp : Nat → Nat} {nr : Nat} {rs : Nat → mu_RS} {nf : Nat} {fs : Nat → mu_FS} {ng : Nat} {gs : Nat → mu_GS} {sr : Nat} {P : Nat → Prop} {sx sy : Int32} (hC : CST w o n tp nr rs nf fs ng gs sr P sx sy) (hM : MST w (o + 35) n tp nr rs nf fs ng gs sr P sx sy) (hB : GB ng gs N) (hN : N ≤ 999000) {i kc ks : Nat} (hi : i + 6 ≤ L) (hkc : kc + 5 ≤ room_1.cells) (hks : ks + 2539 ≤ room_1.slots)
    (k : ∀ (w' : mu_W) (n' : Nat) (tp' : Nat → Nat) (nr' : Nat) (rs' : Nat → mu_RS) (nf' : Nat) (fs' : Nat → mu_FS) (ng' : Nat) (gs' : Nat → mu_GS) (sr' : Nat) (P' : Nat → Prop) (sx' sy' : Int32), CST w' o n' tp' nr' rs' nf' fs' ng' gs' sr' P' sx' sy' → MST w' (o + 35) n' tp' nr' rs' nf' fs' ng' gs' sr' P' sx' sy' → GB ng' gs' (N + 1000) → mu_WA X G 4 Qf w' (kc + 5) (ks + 2539) 1349 [.ref b, .ref o, .ref (o + 35), .int (mI (i : Nat))] []) : mu_WA X G 4 Qf w kc ks 662 [.ref b, .ref o, .ref (o + 35), .int (mI (i : Nat))] [] := by
  have hko : mu_kd w o = some (11, 0) := by
    obtain ⟨ra, fa, ga, hf, hg, C⟩ := hC
    exact C.1.1
  refine mu_al_1 B dL_law_662 ?_
  refine mu_al_0 B dL_law_663 ?_
  refine mu_il_3 B dL_law_664 ?_
  refine mu_iconst (v := mI 1) B dL_law_665 rfl ?_
  refine mu_iadd B dL_law_666 ?_
  try rw [mI_add]
  refine mu_sld B hX hbl hbA dL_law_667 (mI_in (by omega) (by omega) (by omega)) ?_
  refine mu_al_0 B dL_law_668 ?_
  refine mu_il_3 B dL_law_669 ?_
  refine mu_iconst (v := mI 2) B dL_law_670 rfl ?_
  refine mu_iadd B dL_law_671 ?_
  try rw [mI_add]
  refine mu_sld B hX hbl hbA dL_law_672 (mI_in (by omega) (by omega) (by omega)) ?_
  refine mu_cV2 B dL_law_673 mL_75 ⟨⟨by decide, by decide⟩, Nat.le_trans (Nat.add_le_add_left (by decide) kc) hkc, Nat.le_trans (Nat.add_le_add_left (by decide) ks) hks⟩ (Nat.le_of_ble_eq_true rfl) hko (rw_congruent w o N n tp nr rs nf fs ng gs sr P sx sy hC hM hB hN) (fun r673 w673 q673 => ?_)
  obtain ⟨n', tp', nr', rs', nf', fs', ng', gs', sr', P', sx', sy', u, rfl, hB1, hkm, hm⟩ := q673
  refine mu_wd (k' := kc + 5) (n' := ks + 2539) (Nat.add_le_add_left (by decide) _) (Nat.add_le_add_left (by decide) _) ?_
  show mu_WA X G 4 _ _ _ _ 676 _ [.int u]
  refine mu_al_2 B dL_law_676 ?_
  refine mu_al_0 B dL_law_677 ?_
  refine mu_il_3 B dL_law_678 ?_
  refine mu_iconst (v := mI 1) B dL_law_679 rfl ?_
  refine mu_iadd B dL_law_680 ?_
  try rw [mI_add]
  refine mu_sld B hX hbl hbA dL_law_681 (mI_in (by omega) (by omega) (by omega)) ?_
  refine mu_al_0 B dL_law_682 ?_
  refine mu_il_3 B dL_law_683 ?_
  refine mu_iconst (v := mI 2) B dL_law_684 rfl ?_
  refine mu_iadd B dL_law_685 ?_
  try rw [mI_add]
  refine mu_sld B hX hbl hbA dL_law_686 (mI_in (by omega) (by omega) (by omega)) ?_
  refine mu_cV2 B dL_law_687 mL_78 ⟨⟨by decide, by decide⟩, hkc, hks⟩ (Nat.le_of_ble_eq_true rfl) hkm hm (fun r687 w687 q687 => ?_)
  obtain ⟨rfl, hC2, hM2⟩ := q687
  show mu_WA X G 4 _ _ _ _ 690 _ [.int u, .int u]
  refine mu_icmp_eq (tgt := 1349) B dL_law_690 (by decide) (fun _ => ?_) (fun h => absurd rfl h)
  exact k _ _ _ _ _ _ _ _ _ _ _ _ _ hC2 hM2 hB1

set_option maxHeartbeats 4000000 in
set_option maxRecDepth 100000 in
theorem lc_empty {X : mu_X} {G : mu_G} {Qf : State → Prop} {b L : Nat} {xs : Nat → Int32} (B : mu_B X G cL_law RL 4 room_1) (hX : va_X b L xs X.2.2.2.2.1 X.2.2.2.2.1.heap) (hbl : b < X.2.2.2.2.1.heap.size) (hbA : ¬ mu_A G b) (hL : L ≤ 3072) {w : mu_W} {o N : Nat} {n : Nat} {tp : Nat → Nat} {nr : Nat} {rs : Nat → mu_RS} {nf : Nat} {fs : Nat → mu_FS} {ng : Nat} {gs : Nat → mu_GS} {sr : Nat} {P : Nat → Prop} {sx sy : Int32} (hC : CST w o n tp nr rs nf fs ng gs sr P sx sy) (hM : MST w (o + 35) n tp nr rs nf fs ng gs sr P sx sy) (hB : GB ng gs N) (hN : N ≤ 999000) {i kc ks : Nat} (hi : i + 6 ≤ L) (hkc : kc + 5 ≤ room_1.cells) (hks : ks + 2539 ≤ room_1.slots)
    (k : ∀ (w' : mu_W) (n' : Nat) (tp' : Nat → Nat) (nr' : Nat) (rs' : Nat → mu_RS) (nf' : Nat) (fs' : Nat → mu_FS) (ng' : Nat) (gs' : Nat → mu_GS) (sr' : Nat) (P' : Nat → Prop) (sx' sy' : Int32), CST w' o n' tp' nr' rs' nf' fs' ng' gs' sr' P' sx' sy' → MST w' (o + 35) n' tp' nr' rs' nf' fs' ng' gs' sr' P' sx' sy' → GB ng' gs' (N + 1000) → mu_WA X G 4 Qf w' (kc + 5) (ks + 2539) 1349 [.ref b, .ref o, .ref (o + 35), .int (mI (i : Nat))] []) : mu_WA X G 4 Qf w kc ks 695 [.ref b, .ref o, .ref (o + 35), .int (mI (i : Nat))] [] := by
  have hko : mu_kd w o = some (11, 0) := by
    obtain ⟨ra, fa, ga, hf, hg, C⟩ := hC
    exact C.1.1
  refine mu_al_1 B dL_law_695 ?_
  refine mu_al_0 B dL_law_696 ?_
  refine mu_il_3 B dL_law_697 ?_
  refine mu_iconst (v := mI 1) B dL_law_698 rfl ?_
  refine mu_iadd B dL_law_699 ?_
  try rw [mI_add]
  refine mu_sld B hX hbl hbA dL_law_700 (mI_in (by omega) (by omega) (by omega)) ?_
  refine mu_cV1 B dL_law_701 mL_79 ⟨⟨by decide, by decide⟩, Nat.le_trans (Nat.add_le_add_left (by decide) kc) hkc, Nat.le_trans (Nat.add_le_add_left (by decide) ks) hks⟩ (Nat.le_of_ble_eq_true rfl) hko (rw_empty w o N n tp nr rs nf fs ng gs sr P sx sy hC hM hB hN) (fun r701 w701 q701 => ?_)
  obtain ⟨n', tp', nr', rs', nf', fs', ng', gs', sr', P', sx', sy', u, rfl, hB1, hkm, hm⟩ := q701
  refine mu_wd (k' := kc + 5) (n' := ks + 2539) (Nat.add_le_add_left (by decide) _) (Nat.add_le_add_left (by decide) _) ?_
  show mu_WA X G 4 _ _ _ _ 704 _ [.int u]
  refine mu_al_2 B dL_law_704 ?_
  refine mu_al_0 B dL_law_705 ?_
  refine mu_il_3 B dL_law_706 ?_
  refine mu_iconst (v := mI 1) B dL_law_707 rfl ?_
  refine mu_iadd B dL_law_708 ?_
  try rw [mI_add]
  refine mu_sld B hX hbl hbA dL_law_709 (mI_in (by omega) (by omega) (by omega)) ?_
  refine mu_cV1 B dL_law_710 mL_82 ⟨⟨by decide, by decide⟩, hkc, hks⟩ (Nat.le_of_ble_eq_true rfl) hkm hm (fun r710 w710 q710 => ?_)
  obtain ⟨rfl, hC2, hM2⟩ := q710
  show mu_WA X G 4 _ _ _ _ 713 _ [.int u, .int u]
  refine mu_icmp_eq (tgt := 1349) B dL_law_713 (by decide) (fun _ => ?_) (fun h => absurd rfl h)
  exact k _ _ _ _ _ _ _ _ _ _ _ _ _ hC2 hM2 hB1

set_option maxHeartbeats 4000000 in
set_option maxRecDepth 100000 in
theorem lc_still {X : mu_X} {G : mu_G} {Qf : State → Prop} {b L : Nat} {xs : Nat → Int32} (B : mu_B X G cL_law RL 4 room_1) (hX : va_X b L xs X.2.2.2.2.1 X.2.2.2.2.1.heap) (hbl : b < X.2.2.2.2.1.heap.size) (hbA : ¬ mu_A G b) (hL : L ≤ 3072) {w : mu_W} {o N : Nat} {n : Nat} {tp : Nat → Nat} {nr : Nat} {rs : Nat → mu_RS} {nf : Nat} {fs : Nat → mu_FS} {ng : Nat} {gs : Nat → mu_GS} {sr : Nat} {P : Nat → Prop} {sx sy : Int32} (hC : CST w o n tp nr rs nf fs ng gs sr P sx sy) (hM : MST w (o + 35) n tp nr rs nf fs ng gs sr P sx sy) (hB : GB ng gs N) (hN : N ≤ 999000) {i kc ks : Nat} (hi : i + 6 ≤ L) (hkc : kc + 5 ≤ room_1.cells) (hks : ks + 2539 ≤ room_1.slots)
    (k : ∀ (w' : mu_W) (n' : Nat) (tp' : Nat → Nat) (nr' : Nat) (rs' : Nat → mu_RS) (nf' : Nat) (fs' : Nat → mu_FS) (ng' : Nat) (gs' : Nat → mu_GS) (sr' : Nat) (P' : Nat → Prop) (sx' sy' : Int32), CST w' o n' tp' nr' rs' nf' fs' ng' gs' sr' P' sx' sy' → MST w' (o + 35) n' tp' nr' rs' nf' fs' ng' gs' sr' P' sx' sy' → GB ng' gs' (N + 1000) → mu_WA X G 4 Qf w' (kc + 5) (ks + 2539) 1349 [.ref b, .ref o, .ref (o + 35), .int (mI (i : Nat))] []) : mu_WA X G 4 Qf w kc ks 718 [.ref b, .ref o, .ref (o + 35), .int (mI (i : Nat))] [] := by
  have hko : mu_kd w o = some (11, 0) := by
    obtain ⟨ra, fa, ga, hf, hg, C⟩ := hC
    exact C.1.1
  refine mu_al_1 B dL_law_718 ?_
  refine mu_al_0 B dL_law_719 ?_
  refine mu_il_3 B dL_law_720 ?_
  refine mu_iconst (v := mI 1) B dL_law_721 rfl ?_
  refine mu_iadd B dL_law_722 ?_
  try rw [mI_add]
  refine mu_sld B hX hbl hbA dL_law_723 (mI_in (by omega) (by omega) (by omega)) ?_
  refine mu_al_0 B dL_law_724 ?_
  refine mu_il_3 B dL_law_725 ?_
  refine mu_iconst (v := mI 2) B dL_law_726 rfl ?_
  refine mu_iadd B dL_law_727 ?_
  try rw [mI_add]
  refine mu_sld B hX hbl hbA dL_law_728 (mI_in (by omega) (by omega) (by omega)) ?_
  refine mu_al_0 B dL_law_729 ?_
  refine mu_il_3 B dL_law_730 ?_
  refine mu_iconst (v := mI 3) B dL_law_731 rfl ?_
  refine mu_iadd B dL_law_732 ?_
  try rw [mI_add]
  refine mu_sld B hX hbl hbA dL_law_733 (mI_in (by omega) (by omega) (by omega)) ?_
  refine mu_cV3 B dL_law_734 mL_83 ⟨⟨by decide, by decide⟩, Nat.le_trans (Nat.add_le_add_left (by decide) kc) hkc, Nat.le_trans (Nat.add_le_add_left (by decide) ks) hks⟩ (Nat.le_of_ble_eq_true rfl) hko (rw_still w o N n tp nr rs nf fs ng gs sr P sx sy hC hM hB hN) (fun r734 w734 q734 => ?_)
  obtain ⟨n', tp', nr', rs', nf', fs', ng', gs', sr', P', sx', sy', u, rfl, hB1, hkm, hm⟩ := q734
  refine mu_wd (k' := kc + 5) (n' := ks + 2539) (Nat.add_le_add_left (by decide) _) (Nat.add_le_add_left (by decide) _) ?_
  show mu_WA X G 4 _ _ _ _ 737 _ [.int u]
  refine mu_al_2 B dL_law_737 ?_
  refine mu_al_0 B dL_law_738 ?_
  refine mu_il_3 B dL_law_739 ?_
  refine mu_iconst (v := mI 1) B dL_law_740 rfl ?_
  refine mu_iadd B dL_law_741 ?_
  try rw [mI_add]
  refine mu_sld B hX hbl hbA dL_law_742 (mI_in (by omega) (by omega) (by omega)) ?_
  refine mu_al_0 B dL_law_743 ?_
  refine mu_il_3 B dL_law_744 ?_
  refine mu_iconst (v := mI 2) B dL_law_745 rfl ?_
  refine mu_iadd B dL_law_746 ?_
  try rw [mI_add]
  refine mu_sld B hX hbl hbA dL_law_747 (mI_in (by omega) (by omega) (by omega)) ?_
  refine mu_al_0 B dL_law_748 ?_
  refine mu_il_3 B dL_law_749 ?_
  refine mu_iconst (v := mI 3) B dL_law_750 rfl ?_
  refine mu_iadd B dL_law_751 ?_
  try rw [mI_add]
  refine mu_sld B hX hbl hbA dL_law_752 (mI_in (by omega) (by omega) (by omega)) ?_
  refine mu_cV3 B dL_law_753 mL_86 ⟨⟨by decide, by decide⟩, hkc, hks⟩ (Nat.le_of_ble_eq_true rfl) hkm hm (fun r753 w753 q753 => ?_)
  obtain ⟨rfl, hC2, hM2⟩ := q753
  show mu_WA X G 4 _ _ _ _ 756 _ [.int u, .int u]
  refine mu_icmp_eq (tgt := 1349) B dL_law_756 (by decide) (fun _ => ?_) (fun h => absurd rfl h)
  exact k _ _ _ _ _ _ _ _ _ _ _ _ _ hC2 hM2 hB1

set_option maxHeartbeats 4000000 in
set_option maxRecDepth 100000 in
theorem lc_oscillators {X : mu_X} {G : mu_G} {Qf : State → Prop} {b L : Nat} {xs : Nat → Int32} (B : mu_B X G cL_law RL 4 room_1) (hX : va_X b L xs X.2.2.2.2.1 X.2.2.2.2.1.heap) (hbl : b < X.2.2.2.2.1.heap.size) (hbA : ¬ mu_A G b) (hL : L ≤ 3072) {w : mu_W} {o N : Nat} {n : Nat} {tp : Nat → Nat} {nr : Nat} {rs : Nat → mu_RS} {nf : Nat} {fs : Nat → mu_FS} {ng : Nat} {gs : Nat → mu_GS} {sr : Nat} {P : Nat → Prop} {sx sy : Int32} (hC : CST w o n tp nr rs nf fs ng gs sr P sx sy) (hM : MST w (o + 35) n tp nr rs nf fs ng gs sr P sx sy) (hB : GB ng gs N) (hN : N ≤ 999000) {i kc ks : Nat} (hi : i + 6 ≤ L) (hkc : kc + 5 ≤ room_1.cells) (hks : ks + 2539 ≤ room_1.slots)
    (k : ∀ (w' : mu_W) (n' : Nat) (tp' : Nat → Nat) (nr' : Nat) (rs' : Nat → mu_RS) (nf' : Nat) (fs' : Nat → mu_FS) (ng' : Nat) (gs' : Nat → mu_GS) (sr' : Nat) (P' : Nat → Prop) (sx' sy' : Int32), CST w' o n' tp' nr' rs' nf' fs' ng' gs' sr' P' sx' sy' → MST w' (o + 35) n' tp' nr' rs' nf' fs' ng' gs' sr' P' sx' sy' → GB ng' gs' (N + 1000) → mu_WA X G 4 Qf w' (kc + 5) (ks + 2539) 1349 [.ref b, .ref o, .ref (o + 35), .int (mI (i : Nat))] []) : mu_WA X G 4 Qf w kc ks 761 [.ref b, .ref o, .ref (o + 35), .int (mI (i : Nat))] [] := by
  have hko : mu_kd w o = some (11, 0) := by
    obtain ⟨ra, fa, ga, hf, hg, C⟩ := hC
    exact C.1.1
  refine mu_al_1 B dL_law_761 ?_
  refine mu_al_0 B dL_law_762 ?_
  refine mu_il_3 B dL_law_763 ?_
  refine mu_iconst (v := mI 1) B dL_law_764 rfl ?_
  refine mu_iadd B dL_law_765 ?_
  try rw [mI_add]
  refine mu_sld B hX hbl hbA dL_law_766 (mI_in (by omega) (by omega) (by omega)) ?_
  refine mu_al_0 B dL_law_767 ?_
  refine mu_il_3 B dL_law_768 ?_
  refine mu_iconst (v := mI 2) B dL_law_769 rfl ?_
  refine mu_iadd B dL_law_770 ?_
  try rw [mI_add]
  refine mu_sld B hX hbl hbA dL_law_771 (mI_in (by omega) (by omega) (by omega)) ?_
  refine mu_al_0 B dL_law_772 ?_
  refine mu_il_3 B dL_law_773 ?_
  refine mu_iconst (v := mI 3) B dL_law_774 rfl ?_
  refine mu_iadd B dL_law_775 ?_
  try rw [mI_add]
  refine mu_sld B hX hbl hbA dL_law_776 (mI_in (by omega) (by omega) (by omega)) ?_
  refine mu_al_0 B dL_law_777 ?_
  refine mu_il_3 B dL_law_778 ?_
  refine mu_iconst (v := mI 4) B dL_law_779 rfl ?_
  refine mu_iadd B dL_law_780 ?_
  try rw [mI_add]
  refine mu_sld B hX hbl hbA dL_law_781 (mI_in (by omega) (by omega) (by omega)) ?_
  refine mu_cV4 B dL_law_782 mL_87 ⟨⟨by decide, by decide⟩, Nat.le_trans (Nat.add_le_add_left (by decide) kc) hkc, Nat.le_trans (Nat.add_le_add_left (by decide) ks) hks⟩ (Nat.le_of_ble_eq_true rfl) hko (rw_oscillators w o N n tp nr rs nf fs ng gs sr P sx sy hC hM hB hN) (fun r782 w782 q782 => ?_)
  obtain ⟨n', tp', nr', rs', nf', fs', ng', gs', sr', P', sx', sy', u, rfl, hB1, hkm, hm⟩ := q782
  refine mu_wd (k' := kc + 5) (n' := ks + 2539) (Nat.add_le_add_left (by decide) _) (Nat.add_le_add_left (by decide) _) ?_
  show mu_WA X G 4 _ _ _ _ 785 _ [.int u]
  refine mu_al_2 B dL_law_785 ?_
  refine mu_al_0 B dL_law_786 ?_
  refine mu_il_3 B dL_law_787 ?_
  refine mu_iconst (v := mI 1) B dL_law_788 rfl ?_
  refine mu_iadd B dL_law_789 ?_
  try rw [mI_add]
  refine mu_sld B hX hbl hbA dL_law_790 (mI_in (by omega) (by omega) (by omega)) ?_
  refine mu_al_0 B dL_law_791 ?_
  refine mu_il_3 B dL_law_792 ?_
  refine mu_iconst (v := mI 2) B dL_law_793 rfl ?_
  refine mu_iadd B dL_law_794 ?_
  try rw [mI_add]
  refine mu_sld B hX hbl hbA dL_law_795 (mI_in (by omega) (by omega) (by omega)) ?_
  refine mu_al_0 B dL_law_796 ?_
  refine mu_il_3 B dL_law_797 ?_
  refine mu_iconst (v := mI 3) B dL_law_798 rfl ?_
  refine mu_iadd B dL_law_799 ?_
  try rw [mI_add]
  refine mu_sld B hX hbl hbA dL_law_800 (mI_in (by omega) (by omega) (by omega)) ?_
  refine mu_al_0 B dL_law_801 ?_
  refine mu_il_3 B dL_law_802 ?_
  refine mu_iconst (v := mI 4) B dL_law_803 rfl ?_
  refine mu_iadd B dL_law_804 ?_
  try rw [mI_add]
  refine mu_sld B hX hbl hbA dL_law_805 (mI_in (by omega) (by omega) (by omega)) ?_
  refine mu_cV4 B dL_law_806 mL_90 ⟨⟨by decide, by decide⟩, hkc, hks⟩ (Nat.le_of_ble_eq_true rfl) hkm hm (fun r806 w806 q806 => ?_)
  obtain ⟨rfl, hC2, hM2⟩ := q806
  show mu_WA X G 4 _ _ _ _ 809 _ [.int u, .int u]
  refine mu_icmp_eq (tgt := 1349) B dL_law_809 (by decide) (fun _ => ?_) (fun h => absurd rfl h)
  exact k _ _ _ _ _ _ _ _ _ _ _ _ _ hC2 hM2 hB1

set_option maxHeartbeats 4000000 in
set_option maxRecDepth 100000 in
theorem lc_ancestors {X : mu_X} {G : mu_G} {Qf : State → Prop} {b L : Nat} {xs : Nat → Int32} (B : mu_B X G cL_law RL 4 room_1) (hX : va_X b L xs X.2.2.2.2.1 X.2.2.2.2.1.heap) (hbl : b < X.2.2.2.2.1.heap.size) (hbA : ¬ mu_A G b) (hL : L ≤ 3072) {w : mu_W} {o N : Nat} {n : Nat} {tp : Nat → Nat} {nr : Nat} {rs : Nat → mu_RS} {nf : Nat} {fs : Nat → mu_FS} {ng : Nat} {gs : Nat → mu_GS} {sr : Nat} {P : Nat → Prop} {sx sy : Int32} (hC : CST w o n tp nr rs nf fs ng gs sr P sx sy) (hM : MST w (o + 35) n tp nr rs nf fs ng gs sr P sx sy) (hB : GB ng gs N) (hN : N ≤ 999000) {i kc ks : Nat} (hi : i + 6 ≤ L) (hkc : kc + 5 ≤ room_1.cells) (hks : ks + 2539 ≤ room_1.slots)
    (k : ∀ (w' : mu_W) (n' : Nat) (tp' : Nat → Nat) (nr' : Nat) (rs' : Nat → mu_RS) (nf' : Nat) (fs' : Nat → mu_FS) (ng' : Nat) (gs' : Nat → mu_GS) (sr' : Nat) (P' : Nat → Prop) (sx' sy' : Int32), CST w' o n' tp' nr' rs' nf' fs' ng' gs' sr' P' sx' sy' → MST w' (o + 35) n' tp' nr' rs' nf' fs' ng' gs' sr' P' sx' sy' → GB ng' gs' (N + 1000) → mu_WA X G 4 Qf w' (kc + 5) (ks + 2539) 1349 [.ref b, .ref o, .ref (o + 35), .int (mI (i : Nat))] []) : mu_WA X G 4 Qf w kc ks 814 [.ref b, .ref o, .ref (o + 35), .int (mI (i : Nat))] [] := by
  have hko : mu_kd w o = some (11, 0) := by
    obtain ⟨ra, fa, ga, hf, hg, C⟩ := hC
    exact C.1.1
  refine mu_al_1 B dL_law_814 ?_
  refine mu_al_0 B dL_law_815 ?_
  refine mu_il_3 B dL_law_816 ?_
  refine mu_iconst (v := mI 1) B dL_law_817 rfl ?_
  refine mu_iadd B dL_law_818 ?_
  try rw [mI_add]
  refine mu_sld B hX hbl hbA dL_law_819 (mI_in (by omega) (by omega) (by omega)) ?_
  refine mu_al_0 B dL_law_820 ?_
  refine mu_il_3 B dL_law_821 ?_
  refine mu_iconst (v := mI 2) B dL_law_822 rfl ?_
  refine mu_iadd B dL_law_823 ?_
  try rw [mI_add]
  refine mu_sld B hX hbl hbA dL_law_824 (mI_in (by omega) (by omega) (by omega)) ?_
  refine mu_al_0 B dL_law_825 ?_
  refine mu_il_3 B dL_law_826 ?_
  refine mu_iconst (v := mI 3) B dL_law_827 rfl ?_
  refine mu_iadd B dL_law_828 ?_
  try rw [mI_add]
  refine mu_sld B hX hbl hbA dL_law_829 (mI_in (by omega) (by omega) (by omega)) ?_
  refine mu_al_0 B dL_law_830 ?_
  refine mu_il_3 B dL_law_831 ?_
  refine mu_iconst (v := mI 4) B dL_law_832 rfl ?_
  refine mu_iadd B dL_law_833 ?_
  try rw [mI_add]
  refine mu_sld B hX hbl hbA dL_law_834 (mI_in (by omega) (by omega) (by omega)) ?_
  refine mu_cV4 B dL_law_835 mL_91 ⟨⟨by decide, by decide⟩, Nat.le_trans (Nat.add_le_add_left (by decide) kc) hkc, Nat.le_trans (Nat.add_le_add_left (by decide) ks) hks⟩ (Nat.le_of_ble_eq_true rfl) hko (rw_ancestors w o N n tp nr rs nf fs ng gs sr P sx sy hC hM hB hN) (fun r835 w835 q835 => ?_)
  obtain ⟨n', tp', nr', rs', nf', fs', ng', gs', sr', P', sx', sy', u, rfl, hB1, hkm, hm⟩ := q835
  refine mu_wd (k' := kc + 5) (n' := ks + 2539) (Nat.add_le_add_left (by decide) _) (Nat.add_le_add_left (by decide) _) ?_
  show mu_WA X G 4 _ _ _ _ 838 _ [.int u]
  refine mu_al_2 B dL_law_838 ?_
  refine mu_al_0 B dL_law_839 ?_
  refine mu_il_3 B dL_law_840 ?_
  refine mu_iconst (v := mI 1) B dL_law_841 rfl ?_
  refine mu_iadd B dL_law_842 ?_
  try rw [mI_add]
  refine mu_sld B hX hbl hbA dL_law_843 (mI_in (by omega) (by omega) (by omega)) ?_
  refine mu_al_0 B dL_law_844 ?_
  refine mu_il_3 B dL_law_845 ?_
  refine mu_iconst (v := mI 2) B dL_law_846 rfl ?_
  refine mu_iadd B dL_law_847 ?_
  try rw [mI_add]
  refine mu_sld B hX hbl hbA dL_law_848 (mI_in (by omega) (by omega) (by omega)) ?_
  refine mu_al_0 B dL_law_849 ?_
  refine mu_il_3 B dL_law_850 ?_
  refine mu_iconst (v := mI 3) B dL_law_851 rfl ?_
  refine mu_iadd B dL_law_852 ?_
  try rw [mI_add]
  refine mu_sld B hX hbl hbA dL_law_853 (mI_in (by omega) (by omega) (by omega)) ?_
  refine mu_al_0 B dL_law_854 ?_
  refine mu_il_3 B dL_law_855 ?_
  refine mu_iconst (v := mI 4) B dL_law_856 rfl ?_
  refine mu_iadd B dL_law_857 ?_
  try rw [mI_add]
  refine mu_sld B hX hbl hbA dL_law_858 (mI_in (by omega) (by omega) (by omega)) ?_
  refine mu_cV4 B dL_law_859 mL_94 ⟨⟨by decide, by decide⟩, hkc, hks⟩ (Nat.le_of_ble_eq_true rfl) hkm hm (fun r859 w859 q859 => ?_)
  obtain ⟨rfl, hC2, hM2⟩ := q859
  show mu_WA X G 4 _ _ _ _ 862 _ [.int u, .int u]
  refine mu_icmp_eq (tgt := 1349) B dL_law_862 (by decide) (fun _ => ?_) (fun h => absurd rfl h)
  exact k _ _ _ _ _ _ _ _ _ _ _ _ _ hC2 hM2 hB1

set_option maxHeartbeats 4000000 in
set_option maxRecDepth 100000 in
theorem lc_garden {X : mu_X} {G : mu_G} {Qf : State → Prop} {b L : Nat} {xs : Nat → Int32} (B : mu_B X G cL_law RL 4 room_1) (hX : va_X b L xs X.2.2.2.2.1 X.2.2.2.2.1.heap) (hbl : b < X.2.2.2.2.1.heap.size) (hbA : ¬ mu_A G b) (hL : L ≤ 3072) {w : mu_W} {o N : Nat} {n : Nat} {tp : Nat → Nat} {nr : Nat} {rs : Nat → mu_RS} {nf : Nat} {fs : Nat → mu_FS} {ng : Nat} {gs : Nat → mu_GS} {sr : Nat} {P : Nat → Prop} {sx sy : Int32} (hC : CST w o n tp nr rs nf fs ng gs sr P sx sy) (hM : MST w (o + 35) n tp nr rs nf fs ng gs sr P sx sy) (hB : GB ng gs N) (hN : N ≤ 999000) {i kc ks : Nat} (hi : i + 6 ≤ L) (hkc : kc + 5 ≤ room_1.cells) (hks : ks + 2539 ≤ room_1.slots)
    (k : ∀ (w' : mu_W) (n' : Nat) (tp' : Nat → Nat) (nr' : Nat) (rs' : Nat → mu_RS) (nf' : Nat) (fs' : Nat → mu_FS) (ng' : Nat) (gs' : Nat → mu_GS) (sr' : Nat) (P' : Nat → Prop) (sx' sy' : Int32), CST w' o n' tp' nr' rs' nf' fs' ng' gs' sr' P' sx' sy' → MST w' (o + 35) n' tp' nr' rs' nf' fs' ng' gs' sr' P' sx' sy' → GB ng' gs' (N + 1000) → mu_WA X G 4 Qf w' (kc + 5) (ks + 2539) 1349 [.ref b, .ref o, .ref (o + 35), .int (mI (i : Nat))] []) : mu_WA X G 4 Qf w kc ks 867 [.ref b, .ref o, .ref (o + 35), .int (mI (i : Nat))] [] := by
  have hko : mu_kd w o = some (11, 0) := by
    obtain ⟨ra, fa, ga, hf, hg, C⟩ := hC
    exact C.1.1
  refine mu_al_1 B dL_law_867 ?_
  refine mu_al_0 B dL_law_868 ?_
  refine mu_il_3 B dL_law_869 ?_
  refine mu_iconst (v := mI 1) B dL_law_870 rfl ?_
  refine mu_iadd B dL_law_871 ?_
  try rw [mI_add]
  refine mu_sld B hX hbl hbA dL_law_872 (mI_in (by omega) (by omega) (by omega)) ?_
  refine mu_al_0 B dL_law_873 ?_
  refine mu_il_3 B dL_law_874 ?_
  refine mu_iconst (v := mI 2) B dL_law_875 rfl ?_
  refine mu_iadd B dL_law_876 ?_
  try rw [mI_add]
  refine mu_sld B hX hbl hbA dL_law_877 (mI_in (by omega) (by omega) (by omega)) ?_
  refine mu_al_0 B dL_law_878 ?_
  refine mu_il_3 B dL_law_879 ?_
  refine mu_iconst (v := mI 3) B dL_law_880 rfl ?_
  refine mu_iadd B dL_law_881 ?_
  try rw [mI_add]
  refine mu_sld B hX hbl hbA dL_law_882 (mI_in (by omega) (by omega) (by omega)) ?_
  refine mu_cV3 B dL_law_883 mL_95 ⟨⟨by decide, by decide⟩, Nat.le_trans (Nat.add_le_add_left (by decide) kc) hkc, Nat.le_trans (Nat.add_le_add_left (by decide) ks) hks⟩ (Nat.le_of_ble_eq_true rfl) hko (rw_garden w o N n tp nr rs nf fs ng gs sr P sx sy hC hM hB hN) (fun r883 w883 q883 => ?_)
  obtain ⟨n', tp', nr', rs', nf', fs', ng', gs', sr', P', sx', sy', u, rfl, hB1, hkm, hm⟩ := q883
  refine mu_wd (k' := kc + 5) (n' := ks + 2539) (Nat.add_le_add_left (by decide) _) (Nat.add_le_add_left (by decide) _) ?_
  show mu_WA X G 4 _ _ _ _ 886 _ [.int u]
  refine mu_al_2 B dL_law_886 ?_
  refine mu_al_0 B dL_law_887 ?_
  refine mu_il_3 B dL_law_888 ?_
  refine mu_iconst (v := mI 1) B dL_law_889 rfl ?_
  refine mu_iadd B dL_law_890 ?_
  try rw [mI_add]
  refine mu_sld B hX hbl hbA dL_law_891 (mI_in (by omega) (by omega) (by omega)) ?_
  refine mu_al_0 B dL_law_892 ?_
  refine mu_il_3 B dL_law_893 ?_
  refine mu_iconst (v := mI 2) B dL_law_894 rfl ?_
  refine mu_iadd B dL_law_895 ?_
  try rw [mI_add]
  refine mu_sld B hX hbl hbA dL_law_896 (mI_in (by omega) (by omega) (by omega)) ?_
  refine mu_al_0 B dL_law_897 ?_
  refine mu_il_3 B dL_law_898 ?_
  refine mu_iconst (v := mI 3) B dL_law_899 rfl ?_
  refine mu_iadd B dL_law_900 ?_
  try rw [mI_add]
  refine mu_sld B hX hbl hbA dL_law_901 (mI_in (by omega) (by omega) (by omega)) ?_
  refine mu_cV3 B dL_law_902 mL_98 ⟨⟨by decide, by decide⟩, hkc, hks⟩ (Nat.le_of_ble_eq_true rfl) hkm hm (fun r902 w902 q902 => ?_)
  obtain ⟨rfl, hC2, hM2⟩ := q902
  show mu_WA X G 4 _ _ _ _ 905 _ [.int u, .int u]
  refine mu_icmp_eq (tgt := 1349) B dL_law_905 (by decide) (fun _ => ?_) (fun h => absurd rfl h)
  exact k _ _ _ _ _ _ _ _ _ _ _ _ _ hC2 hM2 hB1

set_option maxHeartbeats 4000000 in
set_option maxRecDepth 100000 in
theorem lc_found {X : mu_X} {G : mu_G} {Qf : State → Prop} {b L : Nat} {xs : Nat → Int32} (B : mu_B X G cL_law RL 4 room_1) (hX : va_X b L xs X.2.2.2.2.1 X.2.2.2.2.1.heap) (hbl : b < X.2.2.2.2.1.heap.size) (hbA : ¬ mu_A G b) (hL : L ≤ 3072) {w : mu_W} {o N : Nat} {n : Nat} {tp : Nat → Nat} {nr : Nat} {rs : Nat → mu_RS} {nf : Nat} {fs : Nat → mu_FS} {ng : Nat} {gs : Nat → mu_GS} {sr : Nat} {P : Nat → Prop} {sx sy : Int32} (hC : CST w o n tp nr rs nf fs ng gs sr P sx sy) (hM : MST w (o + 35) n tp nr rs nf fs ng gs sr P sx sy) (hB : GB ng gs N) (hN : N ≤ 999000) {i kc ks : Nat} (hi : i + 6 ≤ L) (hkc : kc + 5 ≤ room_1.cells) (hks : ks + 2539 ≤ room_1.slots)
    (k : ∀ (w' : mu_W) (n' : Nat) (tp' : Nat → Nat) (nr' : Nat) (rs' : Nat → mu_RS) (nf' : Nat) (fs' : Nat → mu_FS) (ng' : Nat) (gs' : Nat → mu_GS) (sr' : Nat) (P' : Nat → Prop) (sx' sy' : Int32), CST w' o n' tp' nr' rs' nf' fs' ng' gs' sr' P' sx' sy' → MST w' (o + 35) n' tp' nr' rs' nf' fs' ng' gs' sr' P' sx' sy' → GB ng' gs' (N + 1000) → mu_WA X G 4 Qf w' (kc + 5) (ks + 2539) 1349 [.ref b, .ref o, .ref (o + 35), .int (mI (i : Nat))] []) : mu_WA X G 4 Qf w kc ks 910 [.ref b, .ref o, .ref (o + 35), .int (mI (i : Nat))] [] := by
  have hko : mu_kd w o = some (11, 0) := by
    obtain ⟨ra, fa, ga, hf, hg, C⟩ := hC
    exact C.1.1
  refine mu_al_1 B dL_law_910 ?_
  refine mu_al_0 B dL_law_911 ?_
  refine mu_il_3 B dL_law_912 ?_
  refine mu_iconst (v := mI 1) B dL_law_913 rfl ?_
  refine mu_iadd B dL_law_914 ?_
  try rw [mI_add]
  refine mu_sld B hX hbl hbA dL_law_915 (mI_in (by omega) (by omega) (by omega)) ?_
  refine mu_cV1 B dL_law_916 mL_99 ⟨⟨by decide, by decide⟩, Nat.le_trans (Nat.add_le_add_left (by decide) kc) hkc, Nat.le_trans (Nat.add_le_add_left (by decide) ks) hks⟩ (Nat.le_of_ble_eq_true rfl) hko (rw_found w o N n tp nr rs nf fs ng gs sr P sx sy hC hM hB hN) (fun r916 w916 q916 => ?_)
  obtain ⟨n', tp', nr', rs', nf', fs', ng', gs', sr', P', sx', sy', u, rfl, hB1, hkm, hm⟩ := q916
  refine mu_wd (k' := kc + 5) (n' := ks + 2539) (Nat.add_le_add_left (by decide) _) (Nat.add_le_add_left (by decide) _) ?_
  show mu_WA X G 4 _ _ _ _ 919 _ [.int u]
  refine mu_al_2 B dL_law_919 ?_
  refine mu_al_0 B dL_law_920 ?_
  refine mu_il_3 B dL_law_921 ?_
  refine mu_iconst (v := mI 1) B dL_law_922 rfl ?_
  refine mu_iadd B dL_law_923 ?_
  try rw [mI_add]
  refine mu_sld B hX hbl hbA dL_law_924 (mI_in (by omega) (by omega) (by omega)) ?_
  refine mu_cV1 B dL_law_925 mL_102 ⟨⟨by decide, by decide⟩, hkc, hks⟩ (Nat.le_of_ble_eq_true rfl) hkm hm (fun r925 w925 q925 => ?_)
  obtain ⟨rfl, hC2, hM2⟩ := q925
  show mu_WA X G 4 _ _ _ _ 928 _ [.int u, .int u]
  refine mu_icmp_eq (tgt := 1349) B dL_law_928 (by decide) (fun _ => ?_) (fun h => absurd rfl h)
  exact k _ _ _ _ _ _ _ _ _ _ _ _ _ hC2 hM2 hB1

set_option maxHeartbeats 4000000 in
set_option maxRecDepth 100000 in
theorem lc_grid {X : mu_X} {G : mu_G} {Qf : State → Prop} {b L : Nat} {xs : Nat → Int32} (B : mu_B X G cL_law RL 4 room_1) (hX : va_X b L xs X.2.2.2.2.1 X.2.2.2.2.1.heap) (hbl : b < X.2.2.2.2.1.heap.size) (hbA : ¬ mu_A G b) (hL : L ≤ 3072) {w : mu_W} {o N : Nat} {n : Nat} {tp : Nat → Nat} {nr : Nat} {rs : Nat → mu_RS} {nf : Nat} {fs : Nat → mu_FS} {ng : Nat} {gs : Nat → mu_GS} {sr : Nat} {P : Nat → Prop} {sx sy : Int32} (hC : CST w o n tp nr rs nf fs ng gs sr P sx sy) (hM : MST w (o + 35) n tp nr rs nf fs ng gs sr P sx sy) (hB : GB ng gs N) (hN : N ≤ 999000) {i kc ks : Nat} (hi : i + 6 ≤ L) (hkc : kc + 5 ≤ room_1.cells) (hks : ks + 2539 ≤ room_1.slots)
    (k : ∀ (w' : mu_W) (n' : Nat) (tp' : Nat → Nat) (nr' : Nat) (rs' : Nat → mu_RS) (nf' : Nat) (fs' : Nat → mu_FS) (ng' : Nat) (gs' : Nat → mu_GS) (sr' : Nat) (P' : Nat → Prop) (sx' sy' : Int32), CST w' o n' tp' nr' rs' nf' fs' ng' gs' sr' P' sx' sy' → MST w' (o + 35) n' tp' nr' rs' nf' fs' ng' gs' sr' P' sx' sy' → GB ng' gs' (N + 1000) → mu_WA X G 4 Qf w' (kc + 5) (ks + 2539) 1349 [.ref b, .ref o, .ref (o + 35), .int (mI (i : Nat))] []) : mu_WA X G 4 Qf w kc ks 933 [.ref b, .ref o, .ref (o + 35), .int (mI (i : Nat))] [] := by
  have hko : mu_kd w o = some (11, 0) := by
    obtain ⟨ra, fa, ga, hf, hg, C⟩ := hC
    exact C.1.1
  refine mu_al_1 B dL_law_933 ?_
  refine mu_al_0 B dL_law_934 ?_
  refine mu_il_3 B dL_law_935 ?_
  refine mu_iconst (v := mI 1) B dL_law_936 rfl ?_
  refine mu_iadd B dL_law_937 ?_
  try rw [mI_add]
  refine mu_sld B hX hbl hbA dL_law_938 (mI_in (by omega) (by omega) (by omega)) ?_
  refine mu_al_0 B dL_law_939 ?_
  refine mu_il_3 B dL_law_940 ?_
  refine mu_iconst (v := mI 2) B dL_law_941 rfl ?_
  refine mu_iadd B dL_law_942 ?_
  try rw [mI_add]
  refine mu_sld B hX hbl hbA dL_law_943 (mI_in (by omega) (by omega) (by omega)) ?_
  refine mu_al_0 B dL_law_944 ?_
  refine mu_il_3 B dL_law_945 ?_
  refine mu_iconst (v := mI 3) B dL_law_946 rfl ?_
  refine mu_iadd B dL_law_947 ?_
  try rw [mI_add]
  refine mu_sld B hX hbl hbA dL_law_948 (mI_in (by omega) (by omega) (by omega)) ?_
  refine mu_cV3 B dL_law_949 mL_103 ⟨⟨by decide, by decide⟩, Nat.le_trans (Nat.add_le_add_left (by decide) kc) hkc, Nat.le_trans (Nat.add_le_add_left (by decide) ks) hks⟩ (Nat.le_of_ble_eq_true rfl) hko (rw_grid w o N n tp nr rs nf fs ng gs sr P sx sy hC hM hB hN) (fun r949 w949 q949 => ?_)
  obtain ⟨n', tp', nr', rs', nf', fs', ng', gs', sr', P', sx', sy', u, rfl, hB1, hkm, hm⟩ := q949
  refine mu_wd (k' := kc + 5) (n' := ks + 2539) (Nat.add_le_add_left (by decide) _) (Nat.add_le_add_left (by decide) _) ?_
  show mu_WA X G 4 _ _ _ _ 952 _ [.int u]
  refine mu_al_2 B dL_law_952 ?_
  refine mu_al_0 B dL_law_953 ?_
  refine mu_il_3 B dL_law_954 ?_
  refine mu_iconst (v := mI 1) B dL_law_955 rfl ?_
  refine mu_iadd B dL_law_956 ?_
  try rw [mI_add]
  refine mu_sld B hX hbl hbA dL_law_957 (mI_in (by omega) (by omega) (by omega)) ?_
  refine mu_al_0 B dL_law_958 ?_
  refine mu_il_3 B dL_law_959 ?_
  refine mu_iconst (v := mI 2) B dL_law_960 rfl ?_
  refine mu_iadd B dL_law_961 ?_
  try rw [mI_add]
  refine mu_sld B hX hbl hbA dL_law_962 (mI_in (by omega) (by omega) (by omega)) ?_
  refine mu_al_0 B dL_law_963 ?_
  refine mu_il_3 B dL_law_964 ?_
  refine mu_iconst (v := mI 3) B dL_law_965 rfl ?_
  refine mu_iadd B dL_law_966 ?_
  try rw [mI_add]
  refine mu_sld B hX hbl hbA dL_law_967 (mI_in (by omega) (by omega) (by omega)) ?_
  refine mu_cV3 B dL_law_968 mL_106 ⟨⟨by decide, by decide⟩, hkc, hks⟩ (Nat.le_of_ble_eq_true rfl) hkm hm (fun r968 w968 q968 => ?_)
  obtain ⟨rfl, hC2, hM2⟩ := q968
  show mu_WA X G 4 _ _ _ _ 971 _ [.int u, .int u]
  refine mu_icmp_eq (tgt := 1349) B dL_law_971 (by decide) (fun _ => ?_) (fun h => absurd rfl h)
  exact k _ _ _ _ _ _ _ _ _ _ _ _ _ hC2 hM2 hB1

set_option maxHeartbeats 4000000 in
set_option maxRecDepth 100000 in
theorem lc_set {X : mu_X} {G : mu_G} {Qf : State → Prop} {b L : Nat} {xs : Nat → Int32} (B : mu_B X G cL_law RL 4 room_1) (hX : va_X b L xs X.2.2.2.2.1 X.2.2.2.2.1.heap) (hbl : b < X.2.2.2.2.1.heap.size) (hbA : ¬ mu_A G b) (hL : L ≤ 3072) {w : mu_W} {o N : Nat} {n : Nat} {tp : Nat → Nat} {nr : Nat} {rs : Nat → mu_RS} {nf : Nat} {fs : Nat → mu_FS} {ng : Nat} {gs : Nat → mu_GS} {sr : Nat} {P : Nat → Prop} {sx sy : Int32} (hC : CST w o n tp nr rs nf fs ng gs sr P sx sy) (hM : MST w (o + 35) n tp nr rs nf fs ng gs sr P sx sy) (hB : GB ng gs N) (hN : N ≤ 999000) {i kc ks : Nat} (hi : i + 6 ≤ L) (hkc : kc + 5 ≤ room_1.cells) (hks : ks + 2539 ≤ room_1.slots)
    (k : ∀ (w' : mu_W) (n' : Nat) (tp' : Nat → Nat) (nr' : Nat) (rs' : Nat → mu_RS) (nf' : Nat) (fs' : Nat → mu_FS) (ng' : Nat) (gs' : Nat → mu_GS) (sr' : Nat) (P' : Nat → Prop) (sx' sy' : Int32), CST w' o n' tp' nr' rs' nf' fs' ng' gs' sr' P' sx' sy' → MST w' (o + 35) n' tp' nr' rs' nf' fs' ng' gs' sr' P' sx' sy' → GB ng' gs' (N + 1000) → mu_WA X G 4 Qf w' (kc + 5) (ks + 2539) 1349 [.ref b, .ref o, .ref (o + 35), .int (mI (i : Nat))] []) : mu_WA X G 4 Qf w kc ks 976 [.ref b, .ref o, .ref (o + 35), .int (mI (i : Nat))] [] := by
  have hko : mu_kd w o = some (11, 0) := by
    obtain ⟨ra, fa, ga, hf, hg, C⟩ := hC
    exact C.1.1
  refine mu_al_1 B dL_law_976 ?_
  refine mu_al_0 B dL_law_977 ?_
  refine mu_il_3 B dL_law_978 ?_
  refine mu_iconst (v := mI 1) B dL_law_979 rfl ?_
  refine mu_iadd B dL_law_980 ?_
  try rw [mI_add]
  refine mu_sld B hX hbl hbA dL_law_981 (mI_in (by omega) (by omega) (by omega)) ?_
  refine mu_al_0 B dL_law_982 ?_
  refine mu_il_3 B dL_law_983 ?_
  refine mu_iconst (v := mI 2) B dL_law_984 rfl ?_
  refine mu_iadd B dL_law_985 ?_
  try rw [mI_add]
  refine mu_sld B hX hbl hbA dL_law_986 (mI_in (by omega) (by omega) (by omega)) ?_
  refine mu_al_0 B dL_law_987 ?_
  refine mu_il_3 B dL_law_988 ?_
  refine mu_iconst (v := mI 3) B dL_law_989 rfl ?_
  refine mu_iadd B dL_law_990 ?_
  try rw [mI_add]
  refine mu_sld B hX hbl hbA dL_law_991 (mI_in (by omega) (by omega) (by omega)) ?_
  refine mu_al_0 B dL_law_992 ?_
  refine mu_il_3 B dL_law_993 ?_
  refine mu_iconst (v := mI 4) B dL_law_994 rfl ?_
  refine mu_iadd B dL_law_995 ?_
  try rw [mI_add]
  refine mu_sld B hX hbl hbA dL_law_996 (mI_in (by omega) (by omega) (by omega)) ?_
  refine mu_cV4 B dL_law_997 mL_107 ⟨⟨by decide, by decide⟩, Nat.le_trans (Nat.add_le_add_left (by decide) kc) hkc, Nat.le_trans (Nat.add_le_add_left (by decide) ks) hks⟩ (Nat.le_of_ble_eq_true rfl) hko (rw_set w o N n tp nr rs nf fs ng gs sr P sx sy hC hM hB hN) (fun r997 w997 q997 => ?_)
  obtain ⟨n', tp', nr', rs', nf', fs', ng', gs', sr', P', sx', sy', u, rfl, hB1, hkm, hm⟩ := q997
  refine mu_wd (k' := kc + 5) (n' := ks + 2539) (Nat.add_le_add_left (by decide) _) (Nat.add_le_add_left (by decide) _) ?_
  show mu_WA X G 4 _ _ _ _ 1000 _ [.int u]
  refine mu_al_2 B dL_law_1000 ?_
  refine mu_al_0 B dL_law_1001 ?_
  refine mu_il_3 B dL_law_1002 ?_
  refine mu_iconst (v := mI 1) B dL_law_1003 rfl ?_
  refine mu_iadd B dL_law_1004 ?_
  try rw [mI_add]
  refine mu_sld B hX hbl hbA dL_law_1005 (mI_in (by omega) (by omega) (by omega)) ?_
  refine mu_al_0 B dL_law_1006 ?_
  refine mu_il_3 B dL_law_1007 ?_
  refine mu_iconst (v := mI 2) B dL_law_1008 rfl ?_
  refine mu_iadd B dL_law_1009 ?_
  try rw [mI_add]
  refine mu_sld B hX hbl hbA dL_law_1010 (mI_in (by omega) (by omega) (by omega)) ?_
  refine mu_al_0 B dL_law_1011 ?_
  refine mu_il_3 B dL_law_1012 ?_
  refine mu_iconst (v := mI 3) B dL_law_1013 rfl ?_
  refine mu_iadd B dL_law_1014 ?_
  try rw [mI_add]
  refine mu_sld B hX hbl hbA dL_law_1015 (mI_in (by omega) (by omega) (by omega)) ?_
  refine mu_al_0 B dL_law_1016 ?_
  refine mu_il_3 B dL_law_1017 ?_
  refine mu_iconst (v := mI 4) B dL_law_1018 rfl ?_
  refine mu_iadd B dL_law_1019 ?_
  try rw [mI_add]
  refine mu_sld B hX hbl hbA dL_law_1020 (mI_in (by omega) (by omega) (by omega)) ?_
  refine mu_cV4 B dL_law_1021 mL_110 ⟨⟨by decide, by decide⟩, hkc, hks⟩ (Nat.le_of_ble_eq_true rfl) hkm hm (fun r1021 w1021 q1021 => ?_)
  obtain ⟨rfl, hC2, hM2⟩ := q1021
  show mu_WA X G 4 _ _ _ _ 1024 _ [.int u, .int u]
  refine mu_icmp_eq (tgt := 1349) B dL_law_1024 (by decide) (fun _ => ?_) (fun h => absurd rfl h)
  exact k _ _ _ _ _ _ _ _ _ _ _ _ _ hC2 hM2 hB1

set_option maxHeartbeats 4000000 in
set_option maxRecDepth 100000 in
theorem lc_cell {X : mu_X} {G : mu_G} {Qf : State → Prop} {b L : Nat} {xs : Nat → Int32} (B : mu_B X G cL_law RL 4 room_1) (hX : va_X b L xs X.2.2.2.2.1 X.2.2.2.2.1.heap) (hbl : b < X.2.2.2.2.1.heap.size) (hbA : ¬ mu_A G b) (hL : L ≤ 3072) {w : mu_W} {o N : Nat} {n : Nat} {tp : Nat → Nat} {nr : Nat} {rs : Nat → mu_RS} {nf : Nat} {fs : Nat → mu_FS} {ng : Nat} {gs : Nat → mu_GS} {sr : Nat} {P : Nat → Prop} {sx sy : Int32} (hC : CST w o n tp nr rs nf fs ng gs sr P sx sy) (hM : MST w (o + 35) n tp nr rs nf fs ng gs sr P sx sy) (hB : GB ng gs N) (hN : N ≤ 999000) {i kc ks : Nat} (hi : i + 6 ≤ L) (hkc : kc + 5 ≤ room_1.cells) (hks : ks + 2539 ≤ room_1.slots)
    (k : ∀ (w' : mu_W) (n' : Nat) (tp' : Nat → Nat) (nr' : Nat) (rs' : Nat → mu_RS) (nf' : Nat) (fs' : Nat → mu_FS) (ng' : Nat) (gs' : Nat → mu_GS) (sr' : Nat) (P' : Nat → Prop) (sx' sy' : Int32), CST w' o n' tp' nr' rs' nf' fs' ng' gs' sr' P' sx' sy' → MST w' (o + 35) n' tp' nr' rs' nf' fs' ng' gs' sr' P' sx' sy' → GB ng' gs' (N + 1000) → mu_WA X G 4 Qf w' (kc + 5) (ks + 2539) 1349 [.ref b, .ref o, .ref (o + 35), .int (mI (i : Nat))] []) : mu_WA X G 4 Qf w kc ks 1029 [.ref b, .ref o, .ref (o + 35), .int (mI (i : Nat))] [] := by
  have hko : mu_kd w o = some (11, 0) := by
    obtain ⟨ra, fa, ga, hf, hg, C⟩ := hC
    exact C.1.1
  refine mu_al_1 B dL_law_1029 ?_
  refine mu_al_0 B dL_law_1030 ?_
  refine mu_il_3 B dL_law_1031 ?_
  refine mu_iconst (v := mI 1) B dL_law_1032 rfl ?_
  refine mu_iadd B dL_law_1033 ?_
  try rw [mI_add]
  refine mu_sld B hX hbl hbA dL_law_1034 (mI_in (by omega) (by omega) (by omega)) ?_
  refine mu_al_0 B dL_law_1035 ?_
  refine mu_il_3 B dL_law_1036 ?_
  refine mu_iconst (v := mI 2) B dL_law_1037 rfl ?_
  refine mu_iadd B dL_law_1038 ?_
  try rw [mI_add]
  refine mu_sld B hX hbl hbA dL_law_1039 (mI_in (by omega) (by omega) (by omega)) ?_
  refine mu_al_0 B dL_law_1040 ?_
  refine mu_il_3 B dL_law_1041 ?_
  refine mu_iconst (v := mI 3) B dL_law_1042 rfl ?_
  refine mu_iadd B dL_law_1043 ?_
  try rw [mI_add]
  refine mu_sld B hX hbl hbA dL_law_1044 (mI_in (by omega) (by omega) (by omega)) ?_
  refine mu_cV3 B dL_law_1045 mL_111 ⟨⟨by decide, by decide⟩, Nat.le_trans (Nat.add_le_add_left (by decide) kc) hkc, Nat.le_trans (Nat.add_le_add_left (by decide) ks) hks⟩ (Nat.le_of_ble_eq_true rfl) hko (rw_cell w o N n tp nr rs nf fs ng gs sr P sx sy hC hM hB hN) (fun r1045 w1045 q1045 => ?_)
  obtain ⟨n', tp', nr', rs', nf', fs', ng', gs', sr', P', sx', sy', u, rfl, hB1, hkm, hm⟩ := q1045
  refine mu_wd (k' := kc + 5) (n' := ks + 2539) (Nat.add_le_add_left (by decide) _) (Nat.add_le_add_left (by decide) _) ?_
  show mu_WA X G 4 _ _ _ _ 1048 _ [.int u]
  refine mu_al_2 B dL_law_1048 ?_
  refine mu_al_0 B dL_law_1049 ?_
  refine mu_il_3 B dL_law_1050 ?_
  refine mu_iconst (v := mI 1) B dL_law_1051 rfl ?_
  refine mu_iadd B dL_law_1052 ?_
  try rw [mI_add]
  refine mu_sld B hX hbl hbA dL_law_1053 (mI_in (by omega) (by omega) (by omega)) ?_
  refine mu_al_0 B dL_law_1054 ?_
  refine mu_il_3 B dL_law_1055 ?_
  refine mu_iconst (v := mI 2) B dL_law_1056 rfl ?_
  refine mu_iadd B dL_law_1057 ?_
  try rw [mI_add]
  refine mu_sld B hX hbl hbA dL_law_1058 (mI_in (by omega) (by omega) (by omega)) ?_
  refine mu_al_0 B dL_law_1059 ?_
  refine mu_il_3 B dL_law_1060 ?_
  refine mu_iconst (v := mI 3) B dL_law_1061 rfl ?_
  refine mu_iadd B dL_law_1062 ?_
  try rw [mI_add]
  refine mu_sld B hX hbl hbA dL_law_1063 (mI_in (by omega) (by omega) (by omega)) ?_
  refine mu_cV3 B dL_law_1064 mL_114 ⟨⟨by decide, by decide⟩, hkc, hks⟩ (Nat.le_of_ble_eq_true rfl) hkm hm (fun r1064 w1064 q1064 => ?_)
  obtain ⟨rfl, hC2, hM2⟩ := q1064
  show mu_WA X G 4 _ _ _ _ 1067 _ [.int u, .int u]
  refine mu_icmp_eq (tgt := 1349) B dL_law_1067 (by decide) (fun _ => ?_) (fun h => absurd rfl h)
  exact k _ _ _ _ _ _ _ _ _ _ _ _ _ hC2 hM2 hB1

set_option maxHeartbeats 4000000 in
set_option maxRecDepth 100000 in
theorem lc_fill {X : mu_X} {G : mu_G} {Qf : State → Prop} {b L : Nat} {xs : Nat → Int32} (B : mu_B X G cL_law RL 4 room_1) (hX : va_X b L xs X.2.2.2.2.1 X.2.2.2.2.1.heap) (hbl : b < X.2.2.2.2.1.heap.size) (hbA : ¬ mu_A G b) (hL : L ≤ 3072) {w : mu_W} {o N : Nat} {n : Nat} {tp : Nat → Nat} {nr : Nat} {rs : Nat → mu_RS} {nf : Nat} {fs : Nat → mu_FS} {ng : Nat} {gs : Nat → mu_GS} {sr : Nat} {P : Nat → Prop} {sx sy : Int32} (hC : CST w o n tp nr rs nf fs ng gs sr P sx sy) (hM : MST w (o + 35) n tp nr rs nf fs ng gs sr P sx sy) (hB : GB ng gs N) (hN : N ≤ 999000) {i kc ks : Nat} (hi : i + 6 ≤ L) (hkc : kc + 5 ≤ room_1.cells) (hks : ks + 2539 ≤ room_1.slots)
    (k : ∀ (w' : mu_W) (n' : Nat) (tp' : Nat → Nat) (nr' : Nat) (rs' : Nat → mu_RS) (nf' : Nat) (fs' : Nat → mu_FS) (ng' : Nat) (gs' : Nat → mu_GS) (sr' : Nat) (P' : Nat → Prop) (sx' sy' : Int32), CST w' o n' tp' nr' rs' nf' fs' ng' gs' sr' P' sx' sy' → MST w' (o + 35) n' tp' nr' rs' nf' fs' ng' gs' sr' P' sx' sy' → GB ng' gs' (N + 1000) → mu_WA X G 4 Qf w' (kc + 5) (ks + 2539) 1349 [.ref b, .ref o, .ref (o + 35), .int (mI (i : Nat))] []) : mu_WA X G 4 Qf w kc ks 1072 [.ref b, .ref o, .ref (o + 35), .int (mI (i : Nat))] [] := by
  have hko : mu_kd w o = some (11, 0) := by
    obtain ⟨ra, fa, ga, hf, hg, C⟩ := hC
    exact C.1.1
  refine mu_al_1 B dL_law_1072 ?_
  refine mu_al_0 B dL_law_1073 ?_
  refine mu_il_3 B dL_law_1074 ?_
  refine mu_iconst (v := mI 1) B dL_law_1075 rfl ?_
  refine mu_iadd B dL_law_1076 ?_
  try rw [mI_add]
  refine mu_sld B hX hbl hbA dL_law_1077 (mI_in (by omega) (by omega) (by omega)) ?_
  refine mu_al_0 B dL_law_1078 ?_
  refine mu_il_3 B dL_law_1079 ?_
  refine mu_iconst (v := mI 2) B dL_law_1080 rfl ?_
  refine mu_iadd B dL_law_1081 ?_
  try rw [mI_add]
  refine mu_sld B hX hbl hbA dL_law_1082 (mI_in (by omega) (by omega) (by omega)) ?_
  refine mu_al_0 B dL_law_1083 ?_
  refine mu_il_3 B dL_law_1084 ?_
  refine mu_iconst (v := mI 3) B dL_law_1085 rfl ?_
  refine mu_iadd B dL_law_1086 ?_
  try rw [mI_add]
  refine mu_sld B hX hbl hbA dL_law_1087 (mI_in (by omega) (by omega) (by omega)) ?_
  refine mu_cV3 B dL_law_1088 mL_115 ⟨⟨by decide, by decide⟩, Nat.le_trans (Nat.add_le_add_left (by decide) kc) hkc, Nat.le_trans (Nat.add_le_add_left (by decide) ks) hks⟩ (Nat.le_of_ble_eq_true rfl) hko (rw_fill w o N n tp nr rs nf fs ng gs sr P sx sy hC hM hB hN) (fun r1088 w1088 q1088 => ?_)
  obtain ⟨n', tp', nr', rs', nf', fs', ng', gs', sr', P', sx', sy', u, rfl, hB1, hkm, hm⟩ := q1088
  refine mu_wd (k' := kc + 5) (n' := ks + 2539) (Nat.add_le_add_left (by decide) _) (Nat.add_le_add_left (by decide) _) ?_
  show mu_WA X G 4 _ _ _ _ 1091 _ [.int u]
  refine mu_al_2 B dL_law_1091 ?_
  refine mu_al_0 B dL_law_1092 ?_
  refine mu_il_3 B dL_law_1093 ?_
  refine mu_iconst (v := mI 1) B dL_law_1094 rfl ?_
  refine mu_iadd B dL_law_1095 ?_
  try rw [mI_add]
  refine mu_sld B hX hbl hbA dL_law_1096 (mI_in (by omega) (by omega) (by omega)) ?_
  refine mu_al_0 B dL_law_1097 ?_
  refine mu_il_3 B dL_law_1098 ?_
  refine mu_iconst (v := mI 2) B dL_law_1099 rfl ?_
  refine mu_iadd B dL_law_1100 ?_
  try rw [mI_add]
  refine mu_sld B hX hbl hbA dL_law_1101 (mI_in (by omega) (by omega) (by omega)) ?_
  refine mu_al_0 B dL_law_1102 ?_
  refine mu_il_3 B dL_law_1103 ?_
  refine mu_iconst (v := mI 3) B dL_law_1104 rfl ?_
  refine mu_iadd B dL_law_1105 ?_
  try rw [mI_add]
  refine mu_sld B hX hbl hbA dL_law_1106 (mI_in (by omega) (by omega) (by omega)) ?_
  refine mu_cV3 B dL_law_1107 mL_118 ⟨⟨by decide, by decide⟩, hkc, hks⟩ (Nat.le_of_ble_eq_true rfl) hkm hm (fun r1107 w1107 q1107 => ?_)
  obtain ⟨rfl, hC2, hM2⟩ := q1107
  show mu_WA X G 4 _ _ _ _ 1110 _ [.int u, .int u]
  refine mu_icmp_eq (tgt := 1349) B dL_law_1110 (by decide) (fun _ => ?_) (fun h => absurd rfl h)
  exact k _ _ _ _ _ _ _ _ _ _ _ _ _ hC2 hM2 hB1

set_option maxHeartbeats 4000000 in
set_option maxRecDepth 100000 in
theorem lc_go {X : mu_X} {G : mu_G} {Qf : State → Prop} {b L : Nat} {xs : Nat → Int32} (B : mu_B X G cL_law RL 4 room_1) (hX : va_X b L xs X.2.2.2.2.1 X.2.2.2.2.1.heap) (hbl : b < X.2.2.2.2.1.heap.size) (hbA : ¬ mu_A G b) (hL : L ≤ 3072) {w : mu_W} {o N : Nat} {n : Nat} {tp : Nat → Nat} {nr : Nat} {rs : Nat → mu_RS} {nf : Nat} {fs : Nat → mu_FS} {ng : Nat} {gs : Nat → mu_GS} {sr : Nat} {P : Nat → Prop} {sx sy : Int32} (hC : CST w o n tp nr rs nf fs ng gs sr P sx sy) (hM : MST w (o + 35) n tp nr rs nf fs ng gs sr P sx sy) (hB : GB ng gs N) (hN : N ≤ 999000) {i kc ks : Nat} (hi : i + 6 ≤ L) (hkc : kc + 5 ≤ room_1.cells) (hks : ks + 2539 ≤ room_1.slots)
    (k : ∀ (w' : mu_W) (n' : Nat) (tp' : Nat → Nat) (nr' : Nat) (rs' : Nat → mu_RS) (nf' : Nat) (fs' : Nat → mu_FS) (ng' : Nat) (gs' : Nat → mu_GS) (sr' : Nat) (P' : Nat → Prop) (sx' sy' : Int32), CST w' o n' tp' nr' rs' nf' fs' ng' gs' sr' P' sx' sy' → MST w' (o + 35) n' tp' nr' rs' nf' fs' ng' gs' sr' P' sx' sy' → GB ng' gs' (N + 1000) → mu_WA X G 4 Qf w' (kc + 5) (ks + 2539) 1349 [.ref b, .ref o, .ref (o + 35), .int (mI (i : Nat))] []) : mu_WA X G 4 Qf w kc ks 1115 [.ref b, .ref o, .ref (o + 35), .int (mI (i : Nat))] [] := by
  have hko : mu_kd w o = some (11, 0) := by
    obtain ⟨ra, fa, ga, hf, hg, C⟩ := hC
    exact C.1.1
  refine mu_al_1 B dL_law_1115 ?_
  refine mu_al_0 B dL_law_1116 ?_
  refine mu_il_3 B dL_law_1117 ?_
  refine mu_iconst (v := mI 1) B dL_law_1118 rfl ?_
  refine mu_iadd B dL_law_1119 ?_
  try rw [mI_add]
  refine mu_sld B hX hbl hbA dL_law_1120 (mI_in (by omega) (by omega) (by omega)) ?_
  refine mu_al_0 B dL_law_1121 ?_
  refine mu_il_3 B dL_law_1122 ?_
  refine mu_iconst (v := mI 2) B dL_law_1123 rfl ?_
  refine mu_iadd B dL_law_1124 ?_
  try rw [mI_add]
  refine mu_sld B hX hbl hbA dL_law_1125 (mI_in (by omega) (by omega) (by omega)) ?_
  refine mu_cV2 B dL_law_1126 mL_119 ⟨⟨by decide, by decide⟩, Nat.le_trans (Nat.add_le_add_left (by decide) kc) hkc, Nat.le_trans (Nat.add_le_add_left (by decide) ks) hks⟩ (Nat.le_of_ble_eq_true rfl) hko (rw_go w o N n tp nr rs nf fs ng gs sr P sx sy hC hM hB hN) (fun r1126 w1126 q1126 => ?_)
  obtain ⟨n', tp', nr', rs', nf', fs', ng', gs', sr', P', sx', sy', u, rfl, hB1, hkm, hm⟩ := q1126
  refine mu_wd (k' := kc + 5) (n' := ks + 2539) (Nat.add_le_add_left (by decide) _) (Nat.add_le_add_left (by decide) _) ?_
  show mu_WA X G 4 _ _ _ _ 1129 _ [.int u]
  refine mu_al_2 B dL_law_1129 ?_
  refine mu_al_0 B dL_law_1130 ?_
  refine mu_il_3 B dL_law_1131 ?_
  refine mu_iconst (v := mI 1) B dL_law_1132 rfl ?_
  refine mu_iadd B dL_law_1133 ?_
  try rw [mI_add]
  refine mu_sld B hX hbl hbA dL_law_1134 (mI_in (by omega) (by omega) (by omega)) ?_
  refine mu_al_0 B dL_law_1135 ?_
  refine mu_il_3 B dL_law_1136 ?_
  refine mu_iconst (v := mI 2) B dL_law_1137 rfl ?_
  refine mu_iadd B dL_law_1138 ?_
  try rw [mI_add]
  refine mu_sld B hX hbl hbA dL_law_1139 (mI_in (by omega) (by omega) (by omega)) ?_
  refine mu_cV2 B dL_law_1140 mL_122 ⟨⟨by decide, by decide⟩, hkc, hks⟩ (Nat.le_of_ble_eq_true rfl) hkm hm (fun r1140 w1140 q1140 => ?_)
  obtain ⟨rfl, hC2, hM2⟩ := q1140
  show mu_WA X G 4 _ _ _ _ 1143 _ [.int u, .int u]
  refine mu_icmp_eq (tgt := 1349) B dL_law_1143 (by decide) (fun _ => ?_) (fun h => absurd rfl h)
  exact k _ _ _ _ _ _ _ _ _ _ _ _ _ hC2 hM2 hB1

set_option maxHeartbeats 4000000 in
set_option maxRecDepth 100000 in
theorem lc_amount {X : mu_X} {G : mu_G} {Qf : State → Prop} {b L : Nat} {xs : Nat → Int32} (B : mu_B X G cL_law RL 4 room_1) (hX : va_X b L xs X.2.2.2.2.1 X.2.2.2.2.1.heap) (hbl : b < X.2.2.2.2.1.heap.size) (hbA : ¬ mu_A G b) (hL : L ≤ 3072) {w : mu_W} {o N : Nat} {n : Nat} {tp : Nat → Nat} {nr : Nat} {rs : Nat → mu_RS} {nf : Nat} {fs : Nat → mu_FS} {ng : Nat} {gs : Nat → mu_GS} {sr : Nat} {P : Nat → Prop} {sx sy : Int32} (hC : CST w o n tp nr rs nf fs ng gs sr P sx sy) (hM : MST w (o + 35) n tp nr rs nf fs ng gs sr P sx sy) (hB : GB ng gs N) (hN : N ≤ 999000) {i kc ks : Nat} (hi : i + 6 ≤ L) (hkc : kc + 5 ≤ room_1.cells) (hks : ks + 2539 ≤ room_1.slots)
    (k : ∀ (w' : mu_W) (n' : Nat) (tp' : Nat → Nat) (nr' : Nat) (rs' : Nat → mu_RS) (nf' : Nat) (fs' : Nat → mu_FS) (ng' : Nat) (gs' : Nat → mu_GS) (sr' : Nat) (P' : Nat → Prop) (sx' sy' : Int32), CST w' o n' tp' nr' rs' nf' fs' ng' gs' sr' P' sx' sy' → MST w' (o + 35) n' tp' nr' rs' nf' fs' ng' gs' sr' P' sx' sy' → GB ng' gs' (N + 1000) → mu_WA X G 4 Qf w' (kc + 5) (ks + 2539) 1349 [.ref b, .ref o, .ref (o + 35), .int (mI (i : Nat))] []) : mu_WA X G 4 Qf w kc ks 1148 [.ref b, .ref o, .ref (o + 35), .int (mI (i : Nat))] [] := by
  have hko : mu_kd w o = some (11, 0) := by
    obtain ⟨ra, fa, ga, hf, hg, C⟩ := hC
    exact C.1.1
  refine mu_al_1 B dL_law_1148 ?_
  refine mu_al_0 B dL_law_1149 ?_
  refine mu_il_3 B dL_law_1150 ?_
  refine mu_iconst (v := mI 1) B dL_law_1151 rfl ?_
  refine mu_iadd B dL_law_1152 ?_
  try rw [mI_add]
  refine mu_sld B hX hbl hbA dL_law_1153 (mI_in (by omega) (by omega) (by omega)) ?_
  refine mu_al_0 B dL_law_1154 ?_
  refine mu_il_3 B dL_law_1155 ?_
  refine mu_iconst (v := mI 2) B dL_law_1156 rfl ?_
  refine mu_iadd B dL_law_1157 ?_
  try rw [mI_add]
  refine mu_sld B hX hbl hbA dL_law_1158 (mI_in (by omega) (by omega) (by omega)) ?_
  refine mu_cV2 B dL_law_1159 mL_123 ⟨⟨by decide, by decide⟩, Nat.le_trans (Nat.add_le_add_left (by decide) kc) hkc, Nat.le_trans (Nat.add_le_add_left (by decide) ks) hks⟩ (Nat.le_of_ble_eq_true rfl) hko (rw_amount w o N n tp nr rs nf fs ng gs sr P sx sy hC hM hB hN) (fun r1159 w1159 q1159 => ?_)
  obtain ⟨n', tp', nr', rs', nf', fs', ng', gs', sr', P', sx', sy', u, rfl, hB1, hkm, hm⟩ := q1159
  refine mu_wd (k' := kc + 5) (n' := ks + 2539) (Nat.add_le_add_left (by decide) _) (Nat.add_le_add_left (by decide) _) ?_
  show mu_WA X G 4 _ _ _ _ 1162 _ [.int u]
  refine mu_al_2 B dL_law_1162 ?_
  refine mu_al_0 B dL_law_1163 ?_
  refine mu_il_3 B dL_law_1164 ?_
  refine mu_iconst (v := mI 1) B dL_law_1165 rfl ?_
  refine mu_iadd B dL_law_1166 ?_
  try rw [mI_add]
  refine mu_sld B hX hbl hbA dL_law_1167 (mI_in (by omega) (by omega) (by omega)) ?_
  refine mu_al_0 B dL_law_1168 ?_
  refine mu_il_3 B dL_law_1169 ?_
  refine mu_iconst (v := mI 2) B dL_law_1170 rfl ?_
  refine mu_iadd B dL_law_1171 ?_
  try rw [mI_add]
  refine mu_sld B hX hbl hbA dL_law_1172 (mI_in (by omega) (by omega) (by omega)) ?_
  refine mu_cV2 B dL_law_1173 mL_126 ⟨⟨by decide, by decide⟩, hkc, hks⟩ (Nat.le_of_ble_eq_true rfl) hkm hm (fun r1173 w1173 q1173 => ?_)
  obtain ⟨rfl, hC2, hM2⟩ := q1173
  show mu_WA X G 4 _ _ _ _ 1176 _ [.int u, .int u]
  refine mu_icmp_eq (tgt := 1349) B dL_law_1176 (by decide) (fun _ => ?_) (fun h => absurd rfl h)
  exact k _ _ _ _ _ _ _ _ _ _ _ _ _ hC2 hM2 hB1

set_option maxHeartbeats 4000000 in
set_option maxRecDepth 100000 in
theorem lc_reversible {X : mu_X} {G : mu_G} {Qf : State → Prop} {b L : Nat} {xs : Nat → Int32} (B : mu_B X G cL_law RL 4 room_1) (hX : va_X b L xs X.2.2.2.2.1 X.2.2.2.2.1.heap) (hbl : b < X.2.2.2.2.1.heap.size) (hbA : ¬ mu_A G b) (hL : L ≤ 3072) {w : mu_W} {o N : Nat} {n : Nat} {tp : Nat → Nat} {nr : Nat} {rs : Nat → mu_RS} {nf : Nat} {fs : Nat → mu_FS} {ng : Nat} {gs : Nat → mu_GS} {sr : Nat} {P : Nat → Prop} {sx sy : Int32} (hC : CST w o n tp nr rs nf fs ng gs sr P sx sy) (hM : MST w (o + 35) n tp nr rs nf fs ng gs sr P sx sy) (hB : GB ng gs N) (hN : N ≤ 999000) {i kc ks : Nat} (hi : i + 6 ≤ L) (hkc : kc + 5 ≤ room_1.cells) (hks : ks + 2539 ≤ room_1.slots)
    (k : ∀ (w' : mu_W) (n' : Nat) (tp' : Nat → Nat) (nr' : Nat) (rs' : Nat → mu_RS) (nf' : Nat) (fs' : Nat → mu_FS) (ng' : Nat) (gs' : Nat → mu_GS) (sr' : Nat) (P' : Nat → Prop) (sx' sy' : Int32), CST w' o n' tp' nr' rs' nf' fs' ng' gs' sr' P' sx' sy' → MST w' (o + 35) n' tp' nr' rs' nf' fs' ng' gs' sr' P' sx' sy' → GB ng' gs' (N + 1000) → mu_WA X G 4 Qf w' (kc + 5) (ks + 2539) 1349 [.ref b, .ref o, .ref (o + 35), .int (mI (i : Nat))] []) : mu_WA X G 4 Qf w kc ks 1181 [.ref b, .ref o, .ref (o + 35), .int (mI (i : Nat))] [] := by
  have hko : mu_kd w o = some (11, 0) := by
    obtain ⟨ra, fa, ga, hf, hg, C⟩ := hC
    exact C.1.1
  refine mu_al_1 B dL_law_1181 ?_
  refine mu_al_0 B dL_law_1182 ?_
  refine mu_il_3 B dL_law_1183 ?_
  refine mu_iconst (v := mI 1) B dL_law_1184 rfl ?_
  refine mu_iadd B dL_law_1185 ?_
  try rw [mI_add]
  refine mu_sld B hX hbl hbA dL_law_1186 (mI_in (by omega) (by omega) (by omega)) ?_
  refine mu_cV1 B dL_law_1187 mL_127 ⟨⟨by decide, by decide⟩, Nat.le_trans (Nat.add_le_add_left (by decide) kc) hkc, Nat.le_trans (Nat.add_le_add_left (by decide) ks) hks⟩ (Nat.le_of_ble_eq_true rfl) hko (rw_reversible w o N n tp nr rs nf fs ng gs sr P sx sy hC hM hB hN) (fun r1187 w1187 q1187 => ?_)
  obtain ⟨n', tp', nr', rs', nf', fs', ng', gs', sr', P', sx', sy', u, rfl, hB1, hkm, hm⟩ := q1187
  refine mu_wd (k' := kc + 5) (n' := ks + 2539) (Nat.add_le_add_left (by decide) _) (Nat.add_le_add_left (by decide) _) ?_
  show mu_WA X G 4 _ _ _ _ 1190 _ [.int u]
  refine mu_al_2 B dL_law_1190 ?_
  refine mu_al_0 B dL_law_1191 ?_
  refine mu_il_3 B dL_law_1192 ?_
  refine mu_iconst (v := mI 1) B dL_law_1193 rfl ?_
  refine mu_iadd B dL_law_1194 ?_
  try rw [mI_add]
  refine mu_sld B hX hbl hbA dL_law_1195 (mI_in (by omega) (by omega) (by omega)) ?_
  refine mu_cV1 B dL_law_1196 mL_130 ⟨⟨by decide, by decide⟩, hkc, hks⟩ (Nat.le_of_ble_eq_true rfl) hkm hm (fun r1196 w1196 q1196 => ?_)
  obtain ⟨rfl, hC2, hM2⟩ := q1196
  show mu_WA X G 4 _ _ _ _ 1199 _ [.int u, .int u]
  refine mu_icmp_eq (tgt := 1349) B dL_law_1199 (by decide) (fun _ => ?_) (fun h => absurd rfl h)
  exact k _ _ _ _ _ _ _ _ _ _ _ _ _ hC2 hM2 hB1

set_option maxHeartbeats 4000000 in
set_option maxRecDepth 100000 in
theorem lc_clash {X : mu_X} {G : mu_G} {Qf : State → Prop} {b L : Nat} {xs : Nat → Int32} (B : mu_B X G cL_law RL 4 room_1) (hX : va_X b L xs X.2.2.2.2.1 X.2.2.2.2.1.heap) (hbl : b < X.2.2.2.2.1.heap.size) (hbA : ¬ mu_A G b) (hL : L ≤ 3072) {w : mu_W} {o N : Nat} {n : Nat} {tp : Nat → Nat} {nr : Nat} {rs : Nat → mu_RS} {nf : Nat} {fs : Nat → mu_FS} {ng : Nat} {gs : Nat → mu_GS} {sr : Nat} {P : Nat → Prop} {sx sy : Int32} (hC : CST w o n tp nr rs nf fs ng gs sr P sx sy) (hM : MST w (o + 35) n tp nr rs nf fs ng gs sr P sx sy) (hB : GB ng gs N) (hN : N ≤ 999000) {i kc ks : Nat} (hi : i + 6 ≤ L) (hkc : kc + 5 ≤ room_1.cells) (hks : ks + 2539 ≤ room_1.slots)
    (k : ∀ (w' : mu_W) (n' : Nat) (tp' : Nat → Nat) (nr' : Nat) (rs' : Nat → mu_RS) (nf' : Nat) (fs' : Nat → mu_FS) (ng' : Nat) (gs' : Nat → mu_GS) (sr' : Nat) (P' : Nat → Prop) (sx' sy' : Int32), CST w' o n' tp' nr' rs' nf' fs' ng' gs' sr' P' sx' sy' → MST w' (o + 35) n' tp' nr' rs' nf' fs' ng' gs' sr' P' sx' sy' → GB ng' gs' (N + 1000) → mu_WA X G 4 Qf w' (kc + 5) (ks + 2539) 1349 [.ref b, .ref o, .ref (o + 35), .int (mI (i : Nat))] []) : mu_WA X G 4 Qf w kc ks 1204 [.ref b, .ref o, .ref (o + 35), .int (mI (i : Nat))] [] := by
  have hko : mu_kd w o = some (11, 0) := by
    obtain ⟨ra, fa, ga, hf, hg, C⟩ := hC
    exact C.1.1
  refine mu_al_1 B dL_law_1204 ?_
  refine mu_al_0 B dL_law_1205 ?_
  refine mu_il_3 B dL_law_1206 ?_
  refine mu_iconst (v := mI 1) B dL_law_1207 rfl ?_
  refine mu_iadd B dL_law_1208 ?_
  try rw [mI_add]
  refine mu_sld B hX hbl hbA dL_law_1209 (mI_in (by omega) (by omega) (by omega)) ?_
  refine mu_al_0 B dL_law_1210 ?_
  refine mu_il_3 B dL_law_1211 ?_
  refine mu_iconst (v := mI 2) B dL_law_1212 rfl ?_
  refine mu_iadd B dL_law_1213 ?_
  try rw [mI_add]
  refine mu_sld B hX hbl hbA dL_law_1214 (mI_in (by omega) (by omega) (by omega)) ?_
  refine mu_cV2 B dL_law_1215 mL_131 ⟨⟨by decide, by decide⟩, Nat.le_trans (Nat.add_le_add_left (by decide) kc) hkc, Nat.le_trans (Nat.add_le_add_left (by decide) ks) hks⟩ (Nat.le_of_ble_eq_true rfl) hko (rw_clash w o N n tp nr rs nf fs ng gs sr P sx sy hC hM hB hN) (fun r1215 w1215 q1215 => ?_)
  obtain ⟨n', tp', nr', rs', nf', fs', ng', gs', sr', P', sx', sy', u, rfl, hB1, hkm, hm⟩ := q1215
  refine mu_wd (k' := kc + 5) (n' := ks + 2539) (Nat.add_le_add_left (by decide) _) (Nat.add_le_add_left (by decide) _) ?_
  show mu_WA X G 4 _ _ _ _ 1218 _ [.int u]
  refine mu_al_2 B dL_law_1218 ?_
  refine mu_al_0 B dL_law_1219 ?_
  refine mu_il_3 B dL_law_1220 ?_
  refine mu_iconst (v := mI 1) B dL_law_1221 rfl ?_
  refine mu_iadd B dL_law_1222 ?_
  try rw [mI_add]
  refine mu_sld B hX hbl hbA dL_law_1223 (mI_in (by omega) (by omega) (by omega)) ?_
  refine mu_al_0 B dL_law_1224 ?_
  refine mu_il_3 B dL_law_1225 ?_
  refine mu_iconst (v := mI 2) B dL_law_1226 rfl ?_
  refine mu_iadd B dL_law_1227 ?_
  try rw [mI_add]
  refine mu_sld B hX hbl hbA dL_law_1228 (mI_in (by omega) (by omega) (by omega)) ?_
  refine mu_cV2 B dL_law_1229 mL_134 ⟨⟨by decide, by decide⟩, hkc, hks⟩ (Nat.le_of_ble_eq_true rfl) hkm hm (fun r1229 w1229 q1229 => ?_)
  obtain ⟨rfl, hC2, hM2⟩ := q1229
  show mu_WA X G 4 _ _ _ _ 1232 _ [.int u, .int u]
  refine mu_icmp_eq (tgt := 1349) B dL_law_1232 (by decide) (fun _ => ?_) (fun h => absurd rfl h)
  exact k _ _ _ _ _ _ _ _ _ _ _ _ _ hC2 hM2 hB1

set_option maxHeartbeats 4000000 in
set_option maxRecDepth 100000 in
theorem lc_weights {X : mu_X} {G : mu_G} {Qf : State → Prop} {b L : Nat} {xs : Nat → Int32} (B : mu_B X G cL_law RL 4 room_1) (hX : va_X b L xs X.2.2.2.2.1 X.2.2.2.2.1.heap) (hbl : b < X.2.2.2.2.1.heap.size) (hbA : ¬ mu_A G b) (hL : L ≤ 3072) {w : mu_W} {o N : Nat} {n : Nat} {tp : Nat → Nat} {nr : Nat} {rs : Nat → mu_RS} {nf : Nat} {fs : Nat → mu_FS} {ng : Nat} {gs : Nat → mu_GS} {sr : Nat} {P : Nat → Prop} {sx sy : Int32} (hC : CST w o n tp nr rs nf fs ng gs sr P sx sy) (hM : MST w (o + 35) n tp nr rs nf fs ng gs sr P sx sy) (hB : GB ng gs N) (hN : N ≤ 999000) {i kc ks : Nat} (hi : i + 6 ≤ L) (hkc : kc + 5 ≤ room_1.cells) (hks : ks + 2539 ≤ room_1.slots)
    (k : ∀ (w' : mu_W) (n' : Nat) (tp' : Nat → Nat) (nr' : Nat) (rs' : Nat → mu_RS) (nf' : Nat) (fs' : Nat → mu_FS) (ng' : Nat) (gs' : Nat → mu_GS) (sr' : Nat) (P' : Nat → Prop) (sx' sy' : Int32), CST w' o n' tp' nr' rs' nf' fs' ng' gs' sr' P' sx' sy' → MST w' (o + 35) n' tp' nr' rs' nf' fs' ng' gs' sr' P' sx' sy' → GB ng' gs' (N + 1000) → mu_WA X G 4 Qf w' (kc + 5) (ks + 2539) 1349 [.ref b, .ref o, .ref (o + 35), .int (mI (i : Nat))] []) : mu_WA X G 4 Qf w kc ks 1237 [.ref b, .ref o, .ref (o + 35), .int (mI (i : Nat))] [] := by
  have hko : mu_kd w o = some (11, 0) := by
    obtain ⟨ra, fa, ga, hf, hg, C⟩ := hC
    exact C.1.1
  refine mu_al_1 B dL_law_1237 ?_
  refine mu_al_0 B dL_law_1238 ?_
  refine mu_il_3 B dL_law_1239 ?_
  refine mu_iconst (v := mI 1) B dL_law_1240 rfl ?_
  refine mu_iadd B dL_law_1241 ?_
  try rw [mI_add]
  refine mu_sld B hX hbl hbA dL_law_1242 (mI_in (by omega) (by omega) (by omega)) ?_
  refine mu_cV1 B dL_law_1243 mL_135 ⟨⟨by decide, by decide⟩, Nat.le_trans (Nat.add_le_add_left (by decide) kc) hkc, Nat.le_trans (Nat.add_le_add_left (by decide) ks) hks⟩ (Nat.le_of_ble_eq_true rfl) hko (rw_weights w o N n tp nr rs nf fs ng gs sr P sx sy hC hM hB hN) (fun r1243 w1243 q1243 => ?_)
  obtain ⟨n', tp', nr', rs', nf', fs', ng', gs', sr', P', sx', sy', u, rfl, hB1, hkm, hm⟩ := q1243
  refine mu_wd (k' := kc + 5) (n' := ks + 2539) (Nat.add_le_add_left (by decide) _) (Nat.add_le_add_left (by decide) _) ?_
  show mu_WA X G 4 _ _ _ _ 1246 _ [.int u]
  refine mu_al_2 B dL_law_1246 ?_
  refine mu_al_0 B dL_law_1247 ?_
  refine mu_il_3 B dL_law_1248 ?_
  refine mu_iconst (v := mI 1) B dL_law_1249 rfl ?_
  refine mu_iadd B dL_law_1250 ?_
  try rw [mI_add]
  refine mu_sld B hX hbl hbA dL_law_1251 (mI_in (by omega) (by omega) (by omega)) ?_
  refine mu_cV1 B dL_law_1252 mL_138 ⟨⟨by decide, by decide⟩, hkc, hks⟩ (Nat.le_of_ble_eq_true rfl) hkm hm (fun r1252 w1252 q1252 => ?_)
  obtain ⟨rfl, hC2, hM2⟩ := q1252
  show mu_WA X G 4 _ _ _ _ 1255 _ [.int u, .int u]
  refine mu_icmp_eq (tgt := 1349) B dL_law_1255 (by decide) (fun _ => ?_) (fun h => absurd rfl h)
  exact k _ _ _ _ _ _ _ _ _ _ _ _ _ hC2 hM2 hB1

set_option maxHeartbeats 4000000 in
set_option maxRecDepth 100000 in
theorem lc_weight {X : mu_X} {G : mu_G} {Qf : State → Prop} {b L : Nat} {xs : Nat → Int32} (B : mu_B X G cL_law RL 4 room_1) (hX : va_X b L xs X.2.2.2.2.1 X.2.2.2.2.1.heap) (hbl : b < X.2.2.2.2.1.heap.size) (hbA : ¬ mu_A G b) (hL : L ≤ 3072) {w : mu_W} {o N : Nat} {n : Nat} {tp : Nat → Nat} {nr : Nat} {rs : Nat → mu_RS} {nf : Nat} {fs : Nat → mu_FS} {ng : Nat} {gs : Nat → mu_GS} {sr : Nat} {P : Nat → Prop} {sx sy : Int32} (hC : CST w o n tp nr rs nf fs ng gs sr P sx sy) (hM : MST w (o + 35) n tp nr rs nf fs ng gs sr P sx sy) (hB : GB ng gs N) (hN : N ≤ 999000) {i kc ks : Nat} (hi : i + 6 ≤ L) (hkc : kc + 5 ≤ room_1.cells) (hks : ks + 2539 ≤ room_1.slots)
    (k : ∀ (w' : mu_W) (n' : Nat) (tp' : Nat → Nat) (nr' : Nat) (rs' : Nat → mu_RS) (nf' : Nat) (fs' : Nat → mu_FS) (ng' : Nat) (gs' : Nat → mu_GS) (sr' : Nat) (P' : Nat → Prop) (sx' sy' : Int32), CST w' o n' tp' nr' rs' nf' fs' ng' gs' sr' P' sx' sy' → MST w' (o + 35) n' tp' nr' rs' nf' fs' ng' gs' sr' P' sx' sy' → GB ng' gs' (N + 1000) → mu_WA X G 4 Qf w' (kc + 5) (ks + 2539) 1349 [.ref b, .ref o, .ref (o + 35), .int (mI (i : Nat))] []) : mu_WA X G 4 Qf w kc ks 1260 [.ref b, .ref o, .ref (o + 35), .int (mI (i : Nat))] [] := by
  have hko : mu_kd w o = some (11, 0) := by
    obtain ⟨ra, fa, ga, hf, hg, C⟩ := hC
    exact C.1.1
  refine mu_al_1 B dL_law_1260 ?_
  refine mu_al_0 B dL_law_1261 ?_
  refine mu_il_3 B dL_law_1262 ?_
  refine mu_iconst (v := mI 1) B dL_law_1263 rfl ?_
  refine mu_iadd B dL_law_1264 ?_
  try rw [mI_add]
  refine mu_sld B hX hbl hbA dL_law_1265 (mI_in (by omega) (by omega) (by omega)) ?_
  refine mu_al_0 B dL_law_1266 ?_
  refine mu_il_3 B dL_law_1267 ?_
  refine mu_iconst (v := mI 2) B dL_law_1268 rfl ?_
  refine mu_iadd B dL_law_1269 ?_
  try rw [mI_add]
  refine mu_sld B hX hbl hbA dL_law_1270 (mI_in (by omega) (by omega) (by omega)) ?_
  refine mu_al_0 B dL_law_1271 ?_
  refine mu_il_3 B dL_law_1272 ?_
  refine mu_iconst (v := mI 3) B dL_law_1273 rfl ?_
  refine mu_iadd B dL_law_1274 ?_
  try rw [mI_add]
  refine mu_sld B hX hbl hbA dL_law_1275 (mI_in (by omega) (by omega) (by omega)) ?_
  refine mu_cV3 B dL_law_1276 mL_139 ⟨⟨by decide, by decide⟩, Nat.le_trans (Nat.add_le_add_left (by decide) kc) hkc, Nat.le_trans (Nat.add_le_add_left (by decide) ks) hks⟩ (Nat.le_of_ble_eq_true rfl) hko (rw_weight w o N n tp nr rs nf fs ng gs sr P sx sy hC hM hB hN) (fun r1276 w1276 q1276 => ?_)
  obtain ⟨n', tp', nr', rs', nf', fs', ng', gs', sr', P', sx', sy', u, rfl, hB1, hkm, hm⟩ := q1276
  refine mu_wd (k' := kc + 5) (n' := ks + 2539) (Nat.add_le_add_left (by decide) _) (Nat.add_le_add_left (by decide) _) ?_
  show mu_WA X G 4 _ _ _ _ 1279 _ [.int u]
  refine mu_al_2 B dL_law_1279 ?_
  refine mu_al_0 B dL_law_1280 ?_
  refine mu_il_3 B dL_law_1281 ?_
  refine mu_iconst (v := mI 1) B dL_law_1282 rfl ?_
  refine mu_iadd B dL_law_1283 ?_
  try rw [mI_add]
  refine mu_sld B hX hbl hbA dL_law_1284 (mI_in (by omega) (by omega) (by omega)) ?_
  refine mu_al_0 B dL_law_1285 ?_
  refine mu_il_3 B dL_law_1286 ?_
  refine mu_iconst (v := mI 2) B dL_law_1287 rfl ?_
  refine mu_iadd B dL_law_1288 ?_
  try rw [mI_add]
  refine mu_sld B hX hbl hbA dL_law_1289 (mI_in (by omega) (by omega) (by omega)) ?_
  refine mu_al_0 B dL_law_1290 ?_
  refine mu_il_3 B dL_law_1291 ?_
  refine mu_iconst (v := mI 3) B dL_law_1292 rfl ?_
  refine mu_iadd B dL_law_1293 ?_
  try rw [mI_add]
  refine mu_sld B hX hbl hbA dL_law_1294 (mI_in (by omega) (by omega) (by omega)) ?_
  refine mu_cV3 B dL_law_1295 mL_142 ⟨⟨by decide, by decide⟩, hkc, hks⟩ (Nat.le_of_ble_eq_true rfl) hkm hm (fun r1295 w1295 q1295 => ?_)
  obtain ⟨rfl, hC2, hM2⟩ := q1295
  show mu_WA X G 4 _ _ _ _ 1298 _ [.int u, .int u]
  refine mu_icmp_eq (tgt := 1349) B dL_law_1298 (by decide) (fun _ => ?_) (fun h => absurd rfl h)
  exact k _ _ _ _ _ _ _ _ _ _ _ _ _ hC2 hM2 hB1

set_option maxHeartbeats 4000000 in
set_option maxRecDepth 100000 in
theorem lc_count {X : mu_X} {G : mu_G} {Qf : State → Prop} {b L : Nat} {xs : Nat → Int32} (B : mu_B X G cL_law RL 4 room_1) (hX : va_X b L xs X.2.2.2.2.1 X.2.2.2.2.1.heap) (hbl : b < X.2.2.2.2.1.heap.size) (hbA : ¬ mu_A G b) (hL : L ≤ 3072) {w : mu_W} {o N : Nat} {n : Nat} {tp : Nat → Nat} {nr : Nat} {rs : Nat → mu_RS} {nf : Nat} {fs : Nat → mu_FS} {ng : Nat} {gs : Nat → mu_GS} {sr : Nat} {P : Nat → Prop} {sx sy : Int32} (hC : CST w o n tp nr rs nf fs ng gs sr P sx sy) (hM : MST w (o + 35) n tp nr rs nf fs ng gs sr P sx sy) (hB : GB ng gs N) (hN : N ≤ 999000) {i kc ks : Nat} (hi : i + 6 ≤ L) (hkc : kc + 5 ≤ room_1.cells) (hks : ks + 2539 ≤ room_1.slots)
    (k : ∀ (w' : mu_W) (n' : Nat) (tp' : Nat → Nat) (nr' : Nat) (rs' : Nat → mu_RS) (nf' : Nat) (fs' : Nat → mu_FS) (ng' : Nat) (gs' : Nat → mu_GS) (sr' : Nat) (P' : Nat → Prop) (sx' sy' : Int32), CST w' o n' tp' nr' rs' nf' fs' ng' gs' sr' P' sx' sy' → MST w' (o + 35) n' tp' nr' rs' nf' fs' ng' gs' sr' P' sx' sy' → GB ng' gs' (N + 1000) → mu_WA X G 4 Qf w' (kc + 5) (ks + 2539) 1349 [.ref b, .ref o, .ref (o + 35), .int (mI (i : Nat))] []) : mu_WA X G 4 Qf w kc ks 1303 [.ref b, .ref o, .ref (o + 35), .int (mI (i : Nat))] [] := by
  have hko : mu_kd w o = some (11, 0) := by
    obtain ⟨ra, fa, ga, hf, hg, C⟩ := hC
    exact C.1.1
  refine mu_al_1 B dL_law_1303 ?_
  refine mu_al_0 B dL_law_1304 ?_
  refine mu_il_3 B dL_law_1305 ?_
  refine mu_iconst (v := mI 1) B dL_law_1306 rfl ?_
  refine mu_iadd B dL_law_1307 ?_
  try rw [mI_add]
  refine mu_sld B hX hbl hbA dL_law_1308 (mI_in (by omega) (by omega) (by omega)) ?_
  refine mu_cV1 B dL_law_1309 mL_143 ⟨⟨by decide, by decide⟩, Nat.le_trans (Nat.add_le_add_left (by decide) kc) hkc, Nat.le_trans (Nat.add_le_add_left (by decide) ks) hks⟩ (Nat.le_of_ble_eq_true rfl) hko (rw_count w o N n tp nr rs nf fs ng gs sr P sx sy hC hM hB hN) (fun r1309 w1309 q1309 => ?_)
  obtain ⟨n', tp', nr', rs', nf', fs', ng', gs', sr', P', sx', sy', u, rfl, hB1, hkm, hm⟩ := q1309
  refine mu_wd (k' := kc + 5) (n' := ks + 2539) (Nat.add_le_add_left (by decide) _) (Nat.add_le_add_left (by decide) _) ?_
  show mu_WA X G 4 _ _ _ _ 1312 _ [.int u]
  refine mu_al_2 B dL_law_1312 ?_
  refine mu_al_0 B dL_law_1313 ?_
  refine mu_il_3 B dL_law_1314 ?_
  refine mu_iconst (v := mI 1) B dL_law_1315 rfl ?_
  refine mu_iadd B dL_law_1316 ?_
  try rw [mI_add]
  refine mu_sld B hX hbl hbA dL_law_1317 (mI_in (by omega) (by omega) (by omega)) ?_
  refine mu_cV1 B dL_law_1318 mL_146 ⟨⟨by decide, by decide⟩, hkc, hks⟩ (Nat.le_of_ble_eq_true rfl) hkm hm (fun r1318 w1318 q1318 => ?_)
  obtain ⟨rfl, hC2, hM2⟩ := q1318
  show mu_WA X G 4 _ _ _ _ 1321 _ [.int u, .int u]
  refine mu_icmp_eq (tgt := 1349) B dL_law_1321 (by decide) (fun _ => ?_) (fun h => absurd rfl h)
  exact k _ _ _ _ _ _ _ _ _ _ _ _ _ hC2 hM2 hB1

set_option maxHeartbeats 4000000 in
set_option maxRecDepth 100000 in
theorem lc_remove {X : mu_X} {G : mu_G} {Qf : State → Prop} {b L : Nat} {xs : Nat → Int32} (B : mu_B X G cL_law RL 4 room_1) (hX : va_X b L xs X.2.2.2.2.1 X.2.2.2.2.1.heap) (hbl : b < X.2.2.2.2.1.heap.size) (hbA : ¬ mu_A G b) (hL : L ≤ 3072) {w : mu_W} {o N : Nat} {n : Nat} {tp : Nat → Nat} {nr : Nat} {rs : Nat → mu_RS} {nf : Nat} {fs : Nat → mu_FS} {ng : Nat} {gs : Nat → mu_GS} {sr : Nat} {P : Nat → Prop} {sx sy : Int32} (hC : CST w o n tp nr rs nf fs ng gs sr P sx sy) (hM : MST w (o + 35) n tp nr rs nf fs ng gs sr P sx sy) (hB : GB ng gs N) (hN : N ≤ 999000) {i kc ks : Nat} (hi : i + 6 ≤ L) (hkc : kc + 5 ≤ room_1.cells) (hks : ks + 2539 ≤ room_1.slots)
    (k : ∀ (w' : mu_W) (n' : Nat) (tp' : Nat → Nat) (nr' : Nat) (rs' : Nat → mu_RS) (nf' : Nat) (fs' : Nat → mu_FS) (ng' : Nat) (gs' : Nat → mu_GS) (sr' : Nat) (P' : Nat → Prop) (sx' sy' : Int32), CST w' o n' tp' nr' rs' nf' fs' ng' gs' sr' P' sx' sy' → MST w' (o + 35) n' tp' nr' rs' nf' fs' ng' gs' sr' P' sx' sy' → GB ng' gs' (N + 1000) → mu_WA X G 4 Qf w' (kc + 5) (ks + 2539) 1349 [.ref b, .ref o, .ref (o + 35), .int (mI (i : Nat))] []) : mu_WA X G 4 Qf w kc ks 1326 [.ref b, .ref o, .ref (o + 35), .int (mI (i : Nat))] [] := by
  have hko : mu_kd w o = some (11, 0) := by
    obtain ⟨ra, fa, ga, hf, hg, C⟩ := hC
    exact C.1.1
  refine mu_al_1 B dL_law_1326 ?_
  refine mu_al_0 B dL_law_1327 ?_
  refine mu_il_3 B dL_law_1328 ?_
  refine mu_iconst (v := mI 1) B dL_law_1329 rfl ?_
  refine mu_iadd B dL_law_1330 ?_
  try rw [mI_add]
  refine mu_sld B hX hbl hbA dL_law_1331 (mI_in (by omega) (by omega) (by omega)) ?_
  refine mu_cV1 B dL_law_1332 mL_147 ⟨⟨by decide, by decide⟩, Nat.le_trans (Nat.add_le_add_left (by decide) kc) hkc, Nat.le_trans (Nat.add_le_add_left (by decide) ks) hks⟩ (Nat.le_of_ble_eq_true rfl) hko (rw_remove w o N n tp nr rs nf fs ng gs sr P sx sy hC hM hB hN) (fun r1332 w1332 q1332 => ?_)
  obtain ⟨n', tp', nr', rs', nf', fs', ng', gs', sr', P', sx', sy', u, rfl, hB1, hkm, hm⟩ := q1332
  refine mu_wd (k' := kc + 5) (n' := ks + 2539) (Nat.add_le_add_left (by decide) _) (Nat.add_le_add_left (by decide) _) ?_
  show mu_WA X G 4 _ _ _ _ 1335 _ [.int u]
  refine mu_al_2 B dL_law_1335 ?_
  refine mu_al_0 B dL_law_1336 ?_
  refine mu_il_3 B dL_law_1337 ?_
  refine mu_iconst (v := mI 1) B dL_law_1338 rfl ?_
  refine mu_iadd B dL_law_1339 ?_
  try rw [mI_add]
  refine mu_sld B hX hbl hbA dL_law_1340 (mI_in (by omega) (by omega) (by omega)) ?_
  refine mu_cV1 B dL_law_1341 mL_150 ⟨⟨by decide, by decide⟩, hkc, hks⟩ (Nat.le_of_ble_eq_true rfl) hkm hm (fun r1341 w1341 q1341 => ?_)
  obtain ⟨rfl, hC2, hM2⟩ := q1341
  show mu_WA X G 4 _ _ _ _ 1344 _ [.int u, .int u]
  refine mu_icmp_eq (tgt := 1349) B dL_law_1344 (by decide) (fun _ => ?_) (fun h => absurd rfl h)
  exact k _ _ _ _ _ _ _ _ _ _ _ _ _ hC2 hM2 hB1
