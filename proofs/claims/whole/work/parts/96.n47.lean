/-! ===== the class's squares: keys of cells and of parts ===== -/
theorem un_inj {x y : Int64} (h : un x = un y) : x = y := Int64.toBitVec_inj.mp (BitVec.eq_of_toNat_eq h)
theorem un_or (a b : Int64) : un (a ||| b) = un a ||| un b := by
  unfold un
  rw [Int64.toBitVec_or, BitVec.toNat_or]
theorem un_shl {x : Int64} {k : Nat} (hk : k < 64) (hx : un x * 2 ^ k < 2 ^ 64) : un (x <<< ((mI (k : Int)).toInt64 &&& 63)) = un x * 2 ^ k := by
  apply Nat.eq_of_testBit_eq
  intro i
  rw [← Nat.shiftLeft_eq, Nat.testBit_shiftLeft]
  by_cases hi : i < 64
  · rw [← lb_un, lb_shl x hk hi]
    rfl
  · rw [← lb_un, lb_big _ (by omega), ← Nat.testBit_shiftLeft, Nat.shiftLeft_eq]
    exact (Nat.testBit_lt_two_pow (Nat.lt_of_lt_of_le hx (Nat.pow_le_pow_right (by decide) (by omega)))).symm
theorem un_pair {x y : Int64} {k : Nat} (hk : k < 64) (hx : un x * 2 ^ k < 2 ^ 64) (hy : un y < 2 ^ k) : un (x <<< ((mI (k : Int)).toInt64 &&& 63) ||| y) = un x * 2 ^ k + un y := by
  rw [un_or, un_shl hk hx, Nat.mul_comm, ← Nat.two_pow_add_eq_or_of_lt hy]
/-- four cells of a row -/
def r4 (c : Nat → Nat → Nat) (x y : Nat) : Nat := c x y + 2 * c (x + 1) y + 4 * c (x + 2) y + 8 * c (x + 3) y
theorem un_15 {c : Nat → Nat → Nat} (hc : ∀ i j, c i j ≤ 1) {x y : Nat} (hx : x + 3 < 256) (hy : y < 256) {d : Int64} (hd : WDx c x y d) : un (d &&& mL 15) = r4 c x y := by
  rw [un_and, show un (mL 15) = 15 from by decide]
  have hb : ∀ i, i < 4 → ((un d).testBit i = decide (c (x + i) y = 1)) := fun i hi => by
    have h1 := hd i (by omega)
    rw [lb_un, show (x : Int) + (i : Int) = ((x + i : Nat) : Int) by omega, al_in (by omega) (by omega)] at h1
    exact h1
  have h0 := hb 0 (by decide)
  have h1 := hb 1 (by decide)
  have h2 := hb 2 (by decide)
  have h3 := hb 3 (by decide)
  have b0 := hc x y
  have b1 := hc (x + 1) y
  have b2 := hc (x + 2) y
  have b3 := hc (x + 3) y
  rw [Nat.testBit_eq_decide_div_mod_eq] at h0 h1 h2 h3
  have g0 := decide_eq_decide.mp h0
  have g1 := decide_eq_decide.mp h1
  have g2 := decide_eq_decide.mp h2
  have g3 := decide_eq_decide.mp h3
  rw [show (15 : Nat) = 2 ^ 4 - 1 from rfl, Nat.and_two_pow_sub_one_eq_mod]
  unfold r4
  rw [Nat.add_zero] at g0
  simp only [Nat.pow_zero, Nat.pow_one, Nat.div_one] at g0 g1
  generalize un d = n at *
  generalize c x y = e0 at *
  generalize c (x + 1) y = e1 at *
  generalize c (x + 2) y = e2 at *
  generalize c (x + 3) y = e3 at *
  omega
def kcN (c : Nat → Nat → Nat) (i j : Nat) : Nat → Nat
  | 0 => 0
  | k + 1 => kcN c i j k * 16 + r4 c (4 * j) (4 * i + k)
theorem r4_lt {c : Nat → Nat → Nat} (hc : ∀ i j, c i j ≤ 1) (x y : Nat) : r4 c x y < 16 := by
  have b0 := hc x y
  have b1 := hc (x + 1) y
  have b2 := hc (x + 2) y
  have b3 := hc (x + 3) y
  unfold r4
  omega
theorem kcN_lt {c : Nat → Nat → Nat} (hc : ∀ i j, c i j ≤ 1) (i j : Nat) : ∀ k, kcN c i j k < 16 ^ k
  | 0 => by rw [kcN]; decide
  | k + 1 => by
    rw [kcN, Nat.pow_succ]
    have := kcN_lt hc i j k
    have := r4_lt hc (4 * j) (4 * i + k)
    omega
theorem un_mL {n : Nat} (h : n < 9223372036854775808) : un (mL (n : Int)) = n := by
  unfold un mL
  show (Int64.ofInt (n : Int)).toBitVec.toNat = n
  rw [Int64.toBitVec_ofInt, BitVec.ofInt_natCast, BitVec.toNat_ofNat]
  exact Nat.mod_eq_of_lt (by omega)

set_option maxHeartbeats 4000000 in
set_option maxRecDepth 100000 in
theorem c_X8_keyOfCells (G : mu_G) {w : mu_W} {f : Nat} (ho : CFo w f) {c : Nat → Nat → Nat} (hb : CFb w f c) {i j : Nat} (hi : i < 64) (hj : j < 64) : mu_Ct G M_X8_keyOfCells [.ref f, .int (mI i), .int (mI j)] w (fun r w' => r = some (.long (mL (kcN c i j 4 : Nat))) ∧ w' = w) := by
  refine mu_ofWA G M_X8_keyOfCells [.ref f, .int (mI i), .int (mI j), mu_no, mu_no, mu_no] (by decide) rfl (Nat.le_of_ble_eq_true rfl) ?_
  intro X E
  have B : mu_B X G cX8_keyOfCells RX8 6 (mu_rm M_X8_keyOfCells) := E.1
  have LK : ∀ k (x : Int64), k ≤ (4 : Nat) → (un x = kcN c i j k) → mu_WA X G 6 (mu_Q X G M_X8_keyOfCells (fun r w' => r = some (.long (mL (kcN c i j 4 : Nat))) ∧ w' = w)) w 0 0 5 [.ref f, .int (mI i), .int (mI j), .long x, mu_no, .int (mI k)] [] := by
    refine mu_ind ((4 : Nat)) (fun k (x : Int64) => mu_WA X G 6 (mu_Q X G M_X8_keyOfCells (fun r w' => r = some (.long (mL (kcN c i j 4 : Nat))) ∧ w' = w)) w 0 0 5 [.ref f, .int (mI i), .int (mI j), .long x, mu_no, .int (mI k)] []) (fun k (x : Int64) => un x = kcN c i j k) ?_
    intro k x hk hx ih
    have hkl := kcN_lt hb.1 i j k
    have h164 : 16 ^ k ≤ 16 ^ 4 := Nat.pow_le_pow_right (by decide) hk
    refine mu_il_5 B dX8_keyOfCells_5 ?_
    refine mu_iconst (v := mI 4) B dX8_keyOfCells_7 rfl ?_
    refine mu_icmp_ge (tgt := 39) B dX8_keyOfCells_8 (by decide) (fun c8 => ?_) (fun c8 => ?_)
    · try rw [mI_le ⟨by omega, by omega⟩ ⟨by omega, by omega⟩] at c8
      try rw [mI_le ⟨by omega, by omega⟩ ⟨by omega, by omega⟩] at c8
      obtain rfl : 4 = k := by omega
      refine mu_ll_3 B dX8_keyOfCells_39 ?_
      refine mu_lret E rfl (by decide) (by decide) dX8_keyOfCells_40 ?_
      refine ⟨?_, rfl⟩
      rw [un_inj (hx.trans (un_mL (by omega)).symm)]
    · try rw [mI_le ⟨by omega, by omega⟩ ⟨by omega, by omega⟩] at c8
      have h16 : 16 ^ k ≤ 16 ^ 3 := Nat.pow_le_pow_right (by decide) (by omega)
      refine mu_ll_3 B dX8_keyOfCells_11 ?_
      refine mu_iconst (v := mI 4) B dX8_keyOfCells_12 rfl ?_
      refine mu_lshl B dX8_keyOfCells_13 rfl ?_
      refine mu_al_0 B dX8_keyOfCells_14 ?_
      refine mu_iconst (v := mI 4) B dX8_keyOfCells_15 rfl ?_
      refine mu_il_2 B dX8_keyOfCells_16 ?_
      refine mu_imul B dX8_keyOfCells_17 ?_
      try rw [mI_mul]
      try rw [mI_mul]
      rw [show (4 : Int) * (j : Int) = ((4 * j : Nat) : Int) by omega]
      refine mu_iconst (v := mI 4) B dX8_keyOfCells_18 rfl ?_
      refine mu_il_1 B dX8_keyOfCells_19 ?_
      refine mu_imul B dX8_keyOfCells_20 ?_
      try rw [mI_mul]
      refine mu_il_5 B dX8_keyOfCells_21 ?_
      refine mu_iadd B dX8_keyOfCells_23 ?_
      try rw [mI_add]
      try rw [mI_add]
      rw [show (4 : Int) * (i : Int) + (k : Int) = ((4 * i + k : Nat) : Int) by omega]
      refine mu_cV2 B dX8_keyOfCells_24 mX8_53 ⟨⟨by decide, by decide⟩, by decide, by decide⟩ (Nat.le_of_ble_eq_true rfl) ho.1 (c_X1_window G ho hb (p := 4 * j) (by omega) (y := ((4 * i + k : Nat) : Int)) ⟨by omega, by omega⟩) (fun r24 w24 q24 => ?_)
      obtain ⟨⟨d1, rfl, hd1⟩, rfl⟩ := q24
      have hun := un_15 hb.1 (x := 4 * j) (y := 4 * i + k) (by omega) (by omega) hd1
      show mu_WA X G 6 _ _ 0 0 27 _ [.long d1, .long _]
      refine mu_ldc2 B kX8_88 dX8_keyOfCells_27 ?_
      refine mu_land B dX8_keyOfCells_30 ?_
      refine mu_lor B dX8_keyOfCells_31 ?_
      refine mu_ls_3 B dX8_keyOfCells_32 (by decide) rfl ?_
      refine mu_inc_5 (c := mI 1) B dX8_keyOfCells_33 rfl (by decide) rfl ?_
      try rw [mI_add]
      refine mu_goto (tgt := 5) B dX8_keyOfCells_36 (by decide) ?_
      refine mu_to (ih _ (by omega) ?_) rfl (by rw [show ((k + 1 : Nat) : Int) = (k : Int) + 1 by omega])
      have hp := un_pair (x := x) (y := d1 &&& mL 15) (k := 4) (by decide) (by rw [hx]; omega) (by rw [hun]; exact r4_lt hb.1 _ _)
      rw [hx, hun] at hp
      exact hp
  show mu_WA X G 6 _ _ 0 0 0 _ []
  refine mu_lconst (v := mL 0) B dX8_keyOfCells_0 rfl ?_
  refine mu_ls_3 B dX8_keyOfCells_1 (by decide) rfl ?_
  refine mu_iconst (v := mI 0) B dX8_keyOfCells_2 rfl ?_
  refine mu_is_5 B dX8_keyOfCells_3 (by decide) rfl ?_
  exact LK 0 (mL 0) (by decide) (by rw [kcN]; decide)

set_option maxHeartbeats 4000000 in
set_option maxRecDepth 100000 in
theorem c_X8_nameAt (G : mu_G) {w : mu_W} {a : Nat} (ho : CQo w a) {f l r u d : Nat} (hk : mu_kd w f = some (1, 0)) (hb : BXn w f l r u d) {p : Nat} (hp : p ≤ 8) {i j : Nat} (hi : i < 64) (hj : j < 64) : mu_Ct G M_X8_nameAt [.ref a, .ref f, .int (mI p), .int (mI i), .int (mI j)] w (fun r9 w' => ((mtB l r u d p i j → r9 = some (.int (mu_iv w (a + 1) (64 * i + j)))) ∧ (¬ mtB l r u d p i j → r9 = some (.int (mI 0)))) ∧ w' = w) := by
  obtain ⟨ka, ⟨r0, k1⟩, ⟨r1, k2⟩, ⟨r2, k3⟩⟩ := id ho
  refine mu_ofWA G M_X8_nameAt [.ref a, .ref f, .int (mI p), .int (mI i), .int (mI j), mu_no] (by decide) rfl (Nat.le_of_ble_eq_true rfl) ?_
  intro X E
  have B : mu_B X G cX8_nameAt RX8 6 (mu_rm M_X8_nameAt) := E.1
  show mu_WA X G 6 _ _ 0 0 0 _ []
  refine mu_il_3 B dX8_nameAt_0 ?_
  refine mu_if_lt (tgt := 37) B dX8_nameAt_1 (by decide) (fun c1 => ?_) (fun c1 => ?_)
  · try rw [mI_lt0 ⟨by omega, by omega⟩] at c1
    exfalso
    omega
  · try rw [mI_lt0 ⟨by omega, by omega⟩] at c1
    refine mu_il_3 B dX8_nameAt_4 ?_
    refine mu_bipush (v := mI 64) B dX8_nameAt_5 (by decide) ?_
    refine mu_icmp_ge (tgt := 37) B dX8_nameAt_7 (by decide) (fun c7 => ?_) (fun c7 => ?_)
    · try rw [mI_le ⟨by omega, by omega⟩ ⟨by omega, by omega⟩] at c7
      exfalso
      omega
    · try rw [mI_le ⟨by omega, by omega⟩ ⟨by omega, by omega⟩] at c7
      refine mu_il_4 B dX8_nameAt_10 ?_
      refine mu_if_lt (tgt := 37) B dX8_nameAt_12 (by decide) (fun c12 => ?_) (fun c12 => ?_)
      · try rw [mI_lt0 ⟨by omega, by omega⟩] at c12
        exfalso
        omega
      · try rw [mI_lt0 ⟨by omega, by omega⟩] at c12
        refine mu_il_4 B dX8_nameAt_15 ?_
        refine mu_bipush (v := mI 64) B dX8_nameAt_17 (by decide) ?_
        refine mu_icmp_ge (tgt := 37) B dX8_nameAt_19 (by decide) (fun c19 => ?_) (fun c19 => ?_)
        · try rw [mI_le ⟨by omega, by omega⟩ ⟨by omega, by omega⟩] at c19
          exfalso
          omega
        · try rw [mI_le ⟨by omega, by omega⟩ ⟨by omega, by omega⟩] at c19
          refine mu_al_1 B dX8_nameAt_22 ?_
          refine mu_il_2 B dX8_nameAt_23 ?_
          refine mu_il_3 B dX8_nameAt_24 ?_
          refine mu_il_4 B dX8_nameAt_25 ?_
          refine mu_cS4 B dX8_nameAt_27 mX8_94 ⟨⟨by decide, by decide⟩, by decide, by decide⟩ (Nat.le_of_ble_eq_true rfl) (c_X8_meetsBox G hk hb hp (i := i) (j := j) (by omega) (by omega)) (fun r27 w27 q27 => ?_)
          obtain ⟨hyn, rfl⟩ := q27
          obtain ⟨z, rfl, hz⟩ : ∃ z : Int, r27 = some (.int (mI z)) ∧ ((z = 1 ∧ mtB l r u d p i j) ∨ (z = 0 ∧ ¬ mtB l r u d p i j)) := by
            by_cases q : mtB l r u d p i j
            · exact ⟨1, hyn.1 q, Or.inl ⟨rfl, q⟩⟩
            · exact ⟨0, hyn.2 q, Or.inr ⟨rfl, q⟩⟩
          show mu_WA X G 6 _ _ 0 0 30 _ [.int (mI z)]
          refine mu_if_eq (tgt := 37) B dX8_nameAt_30 (by decide) (fun c30 => ?_) (fun c30 => ?_)
          · try rw [mI_eq0 ⟨by omega, by omega⟩] at c30
            refine mu_iconst (v := mI 0) B dX8_nameAt_37 rfl ?_
            refine mu_is_5 B dX8_nameAt_38 (by decide) rfl ?_
            refine mu_il_5 B dX8_nameAt_40 ?_
            refine mu_if_eq (tgt := 60) B dX8_nameAt_42 (by decide) (fun c42 => ?_) (fun c42 => ?_)
            · refine mu_iconst (v := mI 0) B dX8_nameAt_60 rfl ?_
              refine mu_iret E rfl (by decide) (by decide) dX8_nameAt_61 ?_
              first
                | (exact absurd c42 (by decide))
                | (exact absurd rfl c42)
                | (rcases hz with hz | hz
                   · first | (exfalso; omega) | exact ⟨⟨fun _ => rfl, fun q => absurd hz.2 q⟩, rfl⟩
                   · first | (exfalso; omega) | exact ⟨⟨fun q => absurd q hz.2, fun _ => rfl⟩, rfl⟩)
            · refine mu_al_0 B dX8_nameAt_45 ?_
              refine mu_getR B dX8_nameAt_46 fX8_9 rfl (by assumption) (by assumption) ?_
              refine mu_il_3 B dX8_nameAt_49 ?_
              refine mu_bipush (v := mI 64) B dX8_nameAt_50 (by decide) ?_
              refine mu_imul B dX8_nameAt_52 ?_
              try rw [mI_mul]
              try rw [mI_mul]
              refine mu_il_4 B dX8_nameAt_53 ?_
              refine mu_iadd B dX8_nameAt_55 ?_
              try rw [mI_add]
              try rw [mI_add]
              rw [show (i : Int) * 64 + (j : Int) = ((64 * i + j : Nat) : Int) by omega]
              refine mu_iald B dX8_nameAt_56 (by assumption) (mI_inN (by omega) (by decide)) ?_
              rw [mI_clampN (by omega)]
              refine mu_goto (tgt := 61) B dX8_nameAt_57 (by decide) ?_
              refine mu_iret E rfl (by decide) (by decide) dX8_nameAt_61 ?_
              first
                | (exact absurd c42 (by decide))
                | (exact absurd rfl c42)
                | (rcases hz with hz | hz
                   · first | (exfalso; omega) | exact ⟨⟨fun _ => rfl, fun q => absurd hz.2 q⟩, rfl⟩
                   · first | (exfalso; omega) | exact ⟨⟨fun q => absurd q hz.2, fun _ => rfl⟩, rfl⟩)
          · try rw [mI_eq0 ⟨by omega, by omega⟩] at c30
            refine mu_iconst (v := mI 1) B dX8_nameAt_33 rfl ?_
            refine mu_goto (tgt := 38) B dX8_nameAt_34 (by decide) ?_
            refine mu_is_5 B dX8_nameAt_38 (by decide) rfl ?_
            refine mu_il_5 B dX8_nameAt_40 ?_
            refine mu_if_eq (tgt := 60) B dX8_nameAt_42 (by decide) (fun c42 => ?_) (fun c42 => ?_)
            · refine mu_iconst (v := mI 0) B dX8_nameAt_60 rfl ?_
              refine mu_iret E rfl (by decide) (by decide) dX8_nameAt_61 ?_
              first
                | (exact absurd c42 (by decide))
                | (exact absurd rfl c42)
                | (rcases hz with hz | hz
                   · first | (exfalso; omega) | exact ⟨⟨fun _ => rfl, fun q => absurd hz.2 q⟩, rfl⟩
                   · first | (exfalso; omega) | exact ⟨⟨fun q => absurd q hz.2, fun _ => rfl⟩, rfl⟩)
            · refine mu_al_0 B dX8_nameAt_45 ?_
              refine mu_getR B dX8_nameAt_46 fX8_9 rfl (by assumption) (by assumption) ?_
              refine mu_il_3 B dX8_nameAt_49 ?_
              refine mu_bipush (v := mI 64) B dX8_nameAt_50 (by decide) ?_
              refine mu_imul B dX8_nameAt_52 ?_
              try rw [mI_mul]
              try rw [mI_mul]
              refine mu_il_4 B dX8_nameAt_53 ?_
              refine mu_iadd B dX8_nameAt_55 ?_
              try rw [mI_add]
              try rw [mI_add]
              rw [show (i : Int) * 64 + (j : Int) = ((64 * i + j : Nat) : Int) by omega]
              refine mu_iald B dX8_nameAt_56 (by assumption) (mI_inN (by omega) (by decide)) ?_
              rw [mI_clampN (by omega)]
              refine mu_goto (tgt := 61) B dX8_nameAt_57 (by decide) ?_
              refine mu_iret E rfl (by decide) (by decide) dX8_nameAt_61 ?_
              first
                | (exact absurd c42 (by decide))
                | (exact absurd rfl c42)
                | (rcases hz with hz | hz
                   · first | (exfalso; omega) | exact ⟨⟨fun _ => rfl, fun q => absurd hz.2 q⟩, rfl⟩
                   · first | (exfalso; omega) | exact ⟨⟨fun q => absurd q hz.2, fun _ => rfl⟩, rfl⟩)
