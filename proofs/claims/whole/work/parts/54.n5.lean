/-! ===== longs as rows of bits ===== -/
def lb (x : Int64) (i : Nat) : Bool := x.toBitVec.getLsbD i
def un (x : Int64) : Nat := x.toBitVec.toNat
theorem un_lt (x : Int64) : un x < 18446744073709551616 := x.toBitVec.isLt
theorem lb_un (x : Int64) (i : Nat) : lb x i = (un x).testBit i := rfl
theorem lb_ext {x y : Int64} (h : ∀ i, i < 64 → lb x i = lb y i) : x = y := Int64.toBitVec_inj.mp (BitVec.eq_of_getLsbD_eq (fun i hi => h i hi))
theorem lb_big (x : Int64) {i : Nat} (h : 64 ≤ i) : lb x i = false := BitVec.getLsbD_of_ge _ _ h
theorem lb_or (x y : Int64) (i : Nat) : lb (x ||| y) i = (lb x i || lb y i) := by unfold lb; rw [Int64.toBitVec_or, BitVec.getLsbD_or]
theorem lb_and (x y : Int64) (i : Nat) : lb (x &&& y) i = (lb x i && lb y i) := by unfold lb; rw [Int64.toBitVec_and, BitVec.getLsbD_and]
theorem lb_xor (x y : Int64) (i : Nat) : lb (x ^^^ y) i = (lb x i ^^ lb y i) := by unfold lb; rw [Int64.toBitVec_xor, BitVec.getLsbD_xor]
theorem lb_0 (i : Nat) : lb 0 i = false := BitVec.getLsbD_zero
theorem lb_m1 : ∀ i, i < 64 → lb (mL (-1)) i = true := by decide +kernel
theorem lb_1 : ∀ i, i < 64 → lb (mL 1) i = decide (i = 0) := by decide +kernel
theorem sh_u : ∀ k, k < 64 → ((mI ((k : Nat) : Int)).toInt64.toUInt64 &&& Int64.toUInt64 63).toNat % 64 = k := by decide +kernel
theorem sh_l : ∀ k, k < 64 → (((mI ((k : Nat) : Int)).toInt64 &&& 63).toBitVec.smod 64).toNat = k := by decide +kernel
theorem un_ush (x : Int64) {k : Nat} (hk : k < 64) : un (x.toUInt64 >>> ((mI (k : Int)).toInt64.toUInt64 &&& Int64.toUInt64 63)).toInt64 = un x / 2 ^ k := by
  show (x.toUInt64 >>> ((mI (k : Int)).toInt64.toUInt64 &&& Int64.toUInt64 63)).toNat = _
  rw [UInt64.toNat_shiftRight, sh_u k hk, Nat.shiftRight_eq_div_pow]
  rfl
theorem lb_ush (x : Int64) {k : Nat} (hk : k < 64) (i : Nat) : lb (x.toUInt64 >>> ((mI (k : Int)).toInt64.toUInt64 &&& Int64.toUInt64 63)).toInt64 i = lb x (k + i) := by
  rw [lb_un, un_ush x hk, ← Nat.shiftRight_eq_div_pow, Nat.testBit_shiftRight, lb_un]
theorem lb_shl (x : Int64) {k : Nat} (hk : k < 64) {i : Nat} (hi : i < 64) : lb (x <<< ((mI (k : Int)).toInt64 &&& 63)) i = (decide (k ≤ i) && lb x (i - k)) := by
  show (x.toBitVec <<< (((mI (k : Int)).toInt64 &&& 63).toBitVec.smod 64).toNat).getLsbD i = _
  rw [sh_l k hk, BitVec.getLsbD_shiftLeft]
  by_cases h : k ≤ i
  · simp [hi, h, lb, Nat.not_lt.mpr h]
  · simp [hi, h, Nat.lt_of_not_le h]
theorem lb_l2i (x : Int64) : x.toInt32 &&& mI 1 = mI (if lb x 0 = true then 1 else 0) := by
  apply Int32.toBitVec_inj.mp
  apply BitVec.eq_of_getLsbD_eq
  intro i hi
  have h1 : ∀ j, j < 32 → (mI 1).toBitVec.getLsbD j = decide (j = 0) := by decide +kernel
  have h0 : ∀ j, j < 32 → (mI 0).toBitVec.getLsbD j = false := by decide +kernel
  rw [Int32.toBitVec_and, BitVec.getLsbD_and, h1 i hi]
  have e : x.toInt32.toBitVec.getLsbD i = x.toBitVec.getLsbD i := by
    show (x.toBitVec.signExtend 32).getLsbD i = _
    rw [BitVec.getLsbD_signExtend]
    simp [hi, show i < 64 by omega]
  rw [e]
  by_cases hi0 : i = 0
  · subst hi0
    by_cases hb : lb x 0 = true
    · rw [if_pos hb, h1 0 hi]; unfold lb at hb; rw [hb]; rfl
    · rw [if_neg hb, h0 0 hi]; unfold lb at hb; rw [Bool.eq_false_iff.mpr hb]; rfl
  · by_cases hb : lb x 0 = true
    · rw [if_pos hb, h1 i hi]; simp [hi0]
    · rw [if_neg hb, h0 i hi]; simp [hi0]
theorem lb_zero {x : Int64} : x = 0 ↔ ∀ i, i < 64 → lb x i = false := ⟨fun h i _ => by rw [h, lb_0], fun h => lb_ext (fun i hi => by rw [h i hi, lb_0])⟩
theorem un_sub {a b : Int64} (h : un b ≤ un a) : un (a - b) = un a - un b := by
  unfold un at *
  rw [Int64.toBitVec_sub, BitVec.toNat_sub_of_le (by rw [BitVec.le_def]; exact h)]
theorem un_add {a b : Int64} (h : un a + un b < 18446744073709551616) : un (a + b) = un a + un b := by
  unfold un at *
  rw [Int64.toBitVec_add, BitVec.toNat_add, Nat.mod_eq_of_lt h]
theorem un_and (a b : Int64) : un (a &&& b) = un a &&& un b := by
  unfold un
  rw [Int64.toBitVec_and, BitVec.toNat_and]
/-! bits counted, as the library does it -/
def blU (x : Int64) (k : Int) : Int64 := (x.toUInt64 >>> ((mI k).toInt64.toUInt64 &&& Int64.toUInt64 63)).toInt64
def blA (x : Int64) : Int64 := x - (blU x 1 &&& mL 6148914691236517205)
def blB (x : Int64) : Int64 := (x &&& mL 3689348814741910323) + (blU x 2 &&& mL 3689348814741910323)
def blC (x : Int64) : Int64 := (x + blU x 4) &&& mL 1085102592571150095
def blD (x : Int64) : Int64 := x + blU x 8
def blE (x : Int64) : Int64 := x + blU x 16
def blF (x : Int64) : Int64 := x + blU x 32
def blX (x : Int64) : Int32 := (blF (blE (blD (blC (blB (blA x)))))).toInt32 &&& mI 127
theorem mk_85 : un (mL 6148914691236517205) = mk8 85 8 := by decide +kernel
theorem mk_51 : un (mL 3689348814741910323) = mk8 51 8 := by decide +kernel
theorem mk_15 : un (mL 1085102592571150095) = mk8 15 8 := by decide +kernel
theorem blU_un (x : Int64) (k : Nat) (hk : k < 64) : un (blU x (k : Int)) = un x / 2 ^ k := un_ush x hk
theorem bl_eq (x : Int64) : blX x = mI (pcn 64 (un x)) := by
  have hx := un_lt x
  have a1 : un (blA x) = F1 8 (un x) := by
    unfold blA F1
    have e : un (blU x 1 &&& mL 6148914691236517205) = un x / 2 &&& mk8 85 8 := by
      rw [un_and, mk_85, show (1 : Int) = ((1 : Nat) : Int) from rfl, blU_un x 1 (by decide)]
    rw [un_sub (by rw [e]; exact Nat.le_trans Nat.and_le_left (Nat.div_le_self _ _)), e]
  have b1 : F1 8 (un x) = bm f1 8 (un x) := F1_bm 8 _ (by exact hx)
  have b2 : F2 8 (F1 8 (un x)) = bm h12 8 (un x) := by rw [b1]; exact F2_bm (fun b hb => (f12_lt b hb).1) 8 _
  have hh : ∀ b, b < 256 → h12 b < 256 := fun b hb => by have := (h12_ok b hb).1; omega
  have l2 := bm_lt hh 8 (un x)
  have a2 : un (blB (blA x)) = F2 8 (F1 8 (un x)) := by
    unfold blB
    have e1 : un (blA x &&& mL 3689348814741910323) = F1 8 (un x) &&& mk8 51 8 := by rw [un_and, mk_51, a1]
    have e2 : un (blU (blA x) 2 &&& mL 3689348814741910323) = F1 8 (un x) / 4 &&& mk8 51 8 := by rw [un_and, mk_51, show (2 : Int) = ((2 : Nat) : Int) from rfl, blU_un _ 2 (by decide), a1]
    have e3 : (F1 8 (un x) &&& mk8 51 8) + (F1 8 (un x) / 4 &&& mk8 51 8) = F2 8 (F1 8 (un x)) := rfl
    rw [un_add (by rw [e1, e2, e3, b2]; exact l2), e1, e2, e3]
  have hlow : bm h12 8 (un x) < 69 * 256 ^ 7 := by
    have : ∀ n y, bm h12 (n + 1) y < 69 * 256 ^ n := by
      intro n
      induction n with
      | zero => intro y; rw [bm, bm]; have := (h12_ok (y % 256) (by omega)).1; omega
      | succ n ih =>
        intro y
        rw [bm, Nat.pow_succ]
        have h1 := ih (y / 256)
        have h2 := (h12_ok (y % 256) (by omega)).1
        omega
    exact this 7 (un x)
  have a3 : un (blC (blB (blA x))) = bm (pcn 8) 8 (un x) := by
    rw [← T_bm (n := 8) (x := un x) hx]
    unfold blC F3
    have e1 : un (blU (blB (blA x)) 4) = F2 8 (F1 8 (un x)) / 16 := by rw [show (4 : Int) = ((4 : Nat) : Int) from rfl, blU_un _ 4 (by decide), a2]
    rw [un_and, mk_15, un_add (by rw [e1, a2, b2]; omega), e1, a2]
  obtain ⟨s0, s1, s2, s3⟩ := bc_sum (un x) _ _ _ _ rfl rfl rfl rfl
  have a4 : un (blD (blC (blB (blA x)))) = bm (pcn 8) 8 (un x) + bm (pcn 8) 8 (un x) / 256 := by
    unfold blD
    have e1 : un (blU (blC (blB (blA x))) 8) = bm (pcn 8) 8 (un x) / 256 := by rw [show (8 : Int) = ((8 : Nat) : Int) from rfl, blU_un _ 8 (by decide), a3]
    rw [un_add (by rw [e1, a3]; exact s3), e1, a3]
  have a5 : un (blE (blD (blC (blB (blA x))))) = un (blD (blC (blB (blA x)))) + un (blD (blC (blB (blA x)))) / 65536 := by
    unfold blE
    have e1 : un (blU (blD (blC (blB (blA x)))) 16) = un (blD (blC (blB (blA x)))) / 65536 := by rw [show (16 : Int) = ((16 : Nat) : Int) from rfl, blU_un _ 16 (by decide)]
    rw [un_add (by rw [e1, a4]; exact s2), e1]
  have a6 : un (blF (blE (blD (blC (blB (blA x)))))) = un (blE (blD (blC (blB (blA x))))) + un (blE (blD (blC (blB (blA x))))) / 4294967296 := by
    unfold blF
    have e1 : un (blU (blE (blD (blC (blB (blA x))))) 32) = un (blE (blD (blC (blB (blA x))))) / 4294967296 := by rw [show (32 : Int) = ((32 : Nat) : Int) from rfl, blU_un _ 32 (by decide)]
    rw [un_add (by rw [e1, a5, a4]; exact s1), e1]
  rw [← a4, ← a5, ← a6] at s0
  unfold blX
  generalize blF (blE (blD (blC (blB (blA x))))) = y at s0
  have ht : y.toInt32.toBitVec.toNat = un y % 4294967296 := by
    show (y.toBitVec.signExtend 32).toNat = _
    rw [BitVec.signExtend_eq_setWidth_of_le _ (by decide), BitVec.toNat_setWidth]
    rfl
  have h7 : (mI 127).toBitVec.toNat = 2 ^ 7 - 1 := by decide
  rw [pk_and _ 7 h7, ht, mI_nat, show un y % 4294967296 % 2 ^ 7 = un y % 128 by omega, s0]

set_option maxHeartbeats 4000000 in
set_option maxRecDepth 100000 in
theorem c_J13_bitCount (G : mu_G) {w : mu_W} {x : Int64} : mu_Ct G M_J13_bitCount_95d88 [.long x] w (fun r w' => r = some (.int (mI (pcn 64 (un x) : Nat))) ∧ w' = w) := by
  refine mu_ofWA G M_J13_bitCount_95d88 [.long x, mu_no] (by decide) rfl (Nat.le_of_ble_eq_true rfl) ?_
  intro X E
  have B : mu_B X G cJ13_bitCount_95d88 RJ13 2 (mu_rm M_J13_bitCount_95d88) := E.1
  show mu_WA X G 2 _ _ 0 0 0 _ []
  refine mu_ll_0 B dJ13_bitCount_95d88_0 ?_
  refine mu_ll_0 B dJ13_bitCount_95d88_1 ?_
  refine mu_iconst (v := mI 1) B dJ13_bitCount_95d88_2 rfl ?_
  refine mu_lushr B dJ13_bitCount_95d88_3 rfl ?_
  refine mu_ldc2 B kJ13_314 dJ13_bitCount_95d88_4 ?_
  refine mu_land B dJ13_bitCount_95d88_7 ?_
  refine mu_lsub B dJ13_bitCount_95d88_8 ?_
  refine mu_ls_0 B dJ13_bitCount_95d88_9 (by decide) ?_
  change mu_WA X G 2 _ _ _ _ _ [.long (blA x), mu_no] _
  refine mu_ll_0 B dJ13_bitCount_95d88_10 ?_
  refine mu_ldc2 B kJ13_316 dJ13_bitCount_95d88_11 ?_
  refine mu_land B dJ13_bitCount_95d88_14 ?_
  refine mu_ll_0 B dJ13_bitCount_95d88_15 ?_
  refine mu_iconst (v := mI 2) B dJ13_bitCount_95d88_16 rfl ?_
  refine mu_lushr B dJ13_bitCount_95d88_17 rfl ?_
  refine mu_ldc2 B kJ13_316 dJ13_bitCount_95d88_18 ?_
  refine mu_land B dJ13_bitCount_95d88_21 ?_
  refine mu_ladd B dJ13_bitCount_95d88_22 ?_
  refine mu_ls_0 B dJ13_bitCount_95d88_23 (by decide) ?_
  change mu_WA X G 2 _ _ _ _ _ [.long (blB (blA x)), mu_no] _
  refine mu_ll_0 B dJ13_bitCount_95d88_24 ?_
  refine mu_ll_0 B dJ13_bitCount_95d88_25 ?_
  refine mu_iconst (v := mI 4) B dJ13_bitCount_95d88_26 rfl ?_
  refine mu_lushr B dJ13_bitCount_95d88_27 rfl ?_
  refine mu_ladd B dJ13_bitCount_95d88_28 ?_
  refine mu_ldc2 B kJ13_318 dJ13_bitCount_95d88_29 ?_
  refine mu_land B dJ13_bitCount_95d88_32 ?_
  refine mu_ls_0 B dJ13_bitCount_95d88_33 (by decide) ?_
  change mu_WA X G 2 _ _ _ _ _ [.long (blC (blB (blA x))), mu_no] _
  refine mu_ll_0 B dJ13_bitCount_95d88_34 ?_
  refine mu_ll_0 B dJ13_bitCount_95d88_35 ?_
  refine mu_bipush (v := mI 8) B dJ13_bitCount_95d88_36 (by decide) ?_
  refine mu_lushr B dJ13_bitCount_95d88_38 rfl ?_
  refine mu_ladd B dJ13_bitCount_95d88_39 ?_
  refine mu_ls_0 B dJ13_bitCount_95d88_40 (by decide) ?_
  change mu_WA X G 2 _ _ _ _ _ [.long (blD (blC (blB (blA x)))), mu_no] _
  refine mu_ll_0 B dJ13_bitCount_95d88_41 ?_
  refine mu_ll_0 B dJ13_bitCount_95d88_42 ?_
  refine mu_bipush (v := mI 16) B dJ13_bitCount_95d88_43 (by decide) ?_
  refine mu_lushr B dJ13_bitCount_95d88_45 rfl ?_
  refine mu_ladd B dJ13_bitCount_95d88_46 ?_
  refine mu_ls_0 B dJ13_bitCount_95d88_47 (by decide) ?_
  change mu_WA X G 2 _ _ _ _ _ [.long (blE (blD (blC (blB (blA x))))), mu_no] _
  refine mu_ll_0 B dJ13_bitCount_95d88_48 ?_
  refine mu_ll_0 B dJ13_bitCount_95d88_49 ?_
  refine mu_bipush (v := mI 32) B dJ13_bitCount_95d88_50 (by decide) ?_
  refine mu_lushr B dJ13_bitCount_95d88_52 rfl ?_
  refine mu_ladd B dJ13_bitCount_95d88_53 ?_
  refine mu_ls_0 B dJ13_bitCount_95d88_54 (by decide) ?_
  change mu_WA X G 2 _ _ _ _ _ [.long (blF (blE (blD (blC (blB (blA x)))))), mu_no] _
  refine mu_ll_0 B dJ13_bitCount_95d88_55 ?_
  refine mu_l2i B dJ13_bitCount_95d88_56 rfl ?_
  refine mu_bipush (v := mI 127) B dJ13_bitCount_95d88_57 (by decide) ?_
  refine mu_iand B dJ13_bitCount_95d88_59 ?_
  refine mu_iret E rfl (by decide) (by decide) dJ13_bitCount_95d88_60 ?_
  exact ⟨by rw [← bl_eq]; rfl, rfl⟩

set_option maxHeartbeats 4000000 in
set_option maxRecDepth 100000 in
theorem c_J7_fillL (G : mu_G) {w : mu_W} {a N : Nat} (hka : mu_kd w a = some (101, N)) (hN : N ≤ 1000000) {x : Int64} : mu_Ct G M_J7_fill_d0a16 [.ref a, .long x] w (fun r w' => r = none ∧ mu_Fi (fun q _ => q = a) w w' ∧ ∀ j, j < N → mu_lg w' a j = x) := by
  refine mu_ofWA G M_J7_fill_d0a16 [.ref a, .long x, mu_no, mu_no, mu_no] (by decide) rfl (Nat.le_of_ble_eq_true rfl) ?_
  intro X E
  have B : mu_B X G cJ7_fill_d0a16 RJ7 5 (mu_rm M_J7_fill_d0a16) := E.1
  have LF : ∀ k (s : mu_W), k ≤ N → (mu_Fi (fun q _ => q = a) w s ∧ ∀ j, j < k → mu_lg s a j = x) → mu_WA X G 5 (mu_Q X G M_J7_fill_d0a16 (fun r w' => r = none ∧ mu_Fi (fun q _ => q = a) w w' ∧ ∀ j, j < N → mu_lg w' a j = x)) s 0 0 6 [.ref a, .long x, mu_no, .int (mI k), .int (mI (N : Int))] [] := by
    refine mu_ind (N) (fun k (s : mu_W) => mu_WA X G 5 (mu_Q X G M_J7_fill_d0a16 (fun r w' => r = none ∧ mu_Fi (fun q _ => q = a) w w' ∧ ∀ j, j < N → mu_lg w' a j = x)) s 0 0 6 [.ref a, .long x, mu_no, .int (mI k), .int (mI (N : Int))] []) (fun k (s : mu_W) => mu_Fi (fun q _ => q = a) w s ∧ ∀ j, j < k → mu_lg s a j = x) ?_
    rintro k s hk ⟨hF, hj⟩ ih
    refine mu_il_3 B dJ7_fill_d0a16_6 ?_
    refine mu_il_4 B dJ7_fill_d0a16_7 ?_
    refine mu_icmp_ge (tgt := 22) B dJ7_fill_d0a16_9 (by decide) (fun c9 => ?_) (fun c9 => ?_)
    · try rw [mI_le ⟨by omega, by omega⟩ ⟨by omega, by omega⟩] at c9
      obtain rfl : N = k := by omega
      refine mu_vret E rfl (by decide) (by decide) dJ7_fill_d0a16_22 ?_
      exact ⟨rfl, hF, hj⟩
    · try rw [mI_le ⟨by omega, by omega⟩ ⟨by omega, by omega⟩] at c9
      refine mu_al_0 B dJ7_fill_d0a16_12 ?_
      refine mu_il_3 B dJ7_fill_d0a16_13 ?_
      refine mu_ll_1 B dJ7_fill_d0a16_14 ?_
      refine mu_last B dJ7_fill_d0a16_15 (hF.kd hka) (mI_inN (by omega) (by omega)) ?_
      rw [mI_clampN (by omega)]
      refine mu_inc_3 (c := mI 1) B dJ7_fill_d0a16_16 rfl (by decide) rfl ?_
      try rw [mI_add]
      refine mu_goto (tgt := 6) B dJ7_fill_d0a16_19 (by decide) ?_
      refine mu_to (ih _ (by omega) ⟨hF.sl rfl, fun j hjk => ?_⟩) rfl (by rw [show ((k + 1 : Nat) : Int) = (k : Int) + 1 by omega])
      by_cases e9 : j = k
      · rw [e9, mu_lg_same]
      · rw [mu_lg_oth _ _ (by omega)]; exact hj j (by omega)
  show mu_WA X G 5 _ _ 0 0 0 _ []
  refine mu_iconst (v := mI 0) B dJ7_fill_d0a16_0 rfl ?_
  refine mu_is_3 B dJ7_fill_d0a16_1 (by decide) rfl ?_
  refine mu_al_0 B dJ7_fill_d0a16_2 ?_
  refine mu_len (ka := 1) B dJ7_fill_d0a16_3 hka (by decide) ?_
  refine mu_is_4 B dJ7_fill_d0a16_4 (by decide) rfl ?_
  exact LF 0 w (Nat.zero_le _) ⟨mu_Fi.refl _, fun j hj => absurd hj (Nat.not_lt_zero j)⟩

set_option maxHeartbeats 4000000 in
set_option maxRecDepth 100000 in
theorem c_J7_fillI (G : mu_G) {w : mu_W} {a N : Nat} (hka : mu_kd w a = some (100, N)) (hN : N ≤ 1000000) {x : Int32} : mu_Ct G M_J7_fill_53178 [.ref a, .int x] w (fun r w' => r = none ∧ mu_Fi (fun q _ => q = a) w w' ∧ ∀ j, j < N → mu_iv w' a j = x) := by
  refine mu_ofWA G M_J7_fill_53178 [.ref a, .int x, mu_no, mu_no] (by decide) rfl (Nat.le_of_ble_eq_true rfl) ?_
  intro X E
  have B : mu_B X G cJ7_fill_53178 RJ7 4 (mu_rm M_J7_fill_53178) := E.1
  have LF : ∀ k (s : mu_W), k ≤ N → (mu_Fi (fun q _ => q = a) w s ∧ ∀ j, j < k → mu_iv s a j = x) → mu_WA X G 4 (mu_Q X G M_J7_fill_53178 (fun r w' => r = none ∧ mu_Fi (fun q _ => q = a) w w' ∧ ∀ j, j < N → mu_iv w' a j = x)) s 0 0 5 [.ref a, .int x, .int (mI k), .int (mI (N : Int))] [] := by
    refine mu_ind (N) (fun k (s : mu_W) => mu_WA X G 4 (mu_Q X G M_J7_fill_53178 (fun r w' => r = none ∧ mu_Fi (fun q _ => q = a) w w' ∧ ∀ j, j < N → mu_iv w' a j = x)) s 0 0 5 [.ref a, .int x, .int (mI k), .int (mI (N : Int))] []) (fun k (s : mu_W) => mu_Fi (fun q _ => q = a) w s ∧ ∀ j, j < k → mu_iv s a j = x) ?_
    rintro k s hk ⟨hF, hj⟩ ih
    refine mu_il_2 B dJ7_fill_53178_5 ?_
    refine mu_il_3 B dJ7_fill_53178_6 ?_
    refine mu_icmp_ge (tgt := 20) B dJ7_fill_53178_7 (by decide) (fun c7 => ?_) (fun c7 => ?_)
    · try rw [mI_le ⟨by omega, by omega⟩ ⟨by omega, by omega⟩] at c7
      obtain rfl : N = k := by omega
      refine mu_vret E rfl (by decide) (by decide) dJ7_fill_53178_20 ?_
      exact ⟨rfl, hF, hj⟩
    · try rw [mI_le ⟨by omega, by omega⟩ ⟨by omega, by omega⟩] at c7
      refine mu_al_0 B dJ7_fill_53178_10 ?_
      refine mu_il_2 B dJ7_fill_53178_11 ?_
      refine mu_il_1 B dJ7_fill_53178_12 ?_
      refine mu_iast B dJ7_fill_53178_13 (hF.kd hka) (mI_inN (by omega) (by omega)) ?_
      rw [mI_clampN (by omega)]
      refine mu_inc_2 (c := mI 1) B dJ7_fill_53178_14 rfl (by decide) rfl ?_
      try rw [mI_add]
      refine mu_goto (tgt := 5) B dJ7_fill_53178_17 (by decide) ?_
      refine mu_to (ih _ (by omega) ⟨hF.si rfl, fun j hjk => ?_⟩) rfl (by rw [show ((k + 1 : Nat) : Int) = (k : Int) + 1 by omega])
      by_cases e9 : j = k
      · rw [e9, mu_iv_same]
      · rw [mu_iv_oth _ _ (by omega)]; exact hj j (by omega)
  show mu_WA X G 4 _ _ 0 0 0 _ []
  refine mu_iconst (v := mI 0) B dJ7_fill_53178_0 rfl ?_
  refine mu_is_2 B dJ7_fill_53178_1 (by decide) rfl ?_
  refine mu_al_0 B dJ7_fill_53178_2 ?_
  refine mu_len (ka := 0) B dJ7_fill_53178_3 hka (by decide) ?_
  refine mu_is_3 B dJ7_fill_53178_4 (by decide) rfl ?_
  exact LF 0 w (Nat.zero_le _) ⟨mu_Fi.refl _, fun j hj => absurd hj (Nat.not_lt_zero j)⟩
