set_option maxHeartbeats 4000000 in
set_option maxRecDepth 100000 in
theorem c_X12_byteAt (G : mu_G) {w : mu_W} {m : Nat} (hm : mo_ok w m) {n i : Nat} (hn : mu_iv w m 2 = mI n) (hn2 : n ≤ 2000) (hi : i < 2147483648) : mu_Ct G M_X12_byteAt [.ref m, .int (mI i)] w (fun r w' => r = some (.int (if i < n then mu_iv w (m + 1) i else mI (-1))) ∧ w' = w) := by
  have hk0 := hm.1
  obtain ⟨h1, h2⟩ := mo_1 hm
  refine mu_ofWA G M_X12_byteAt [.ref m, .int (mI i)] (by decide) rfl (Nat.le_of_ble_eq_true rfl) ?_
  intro X E
  have B : mu_B X G cX12_byteAt RX12 2 (mu_rm M_X12_byteAt) := E.1
  show mu_WA X G 2 _ _ 0 0 0 _ []
  refine mu_il_1 B dX12_byteAt_0 ?_
  refine mu_al_0 B dX12_byteAt_1 ?_
  refine mu_getI B dX12_byteAt_2 fX12_128 rfl (by assumption) ?_
  rw [hn]
  refine mu_icmp_ge (tgt := 17) B dX12_byteAt_5 (by decide) (fun c5 => ?_) (fun c5 => ?_)
  · try rw [mI_le ⟨by omega, by omega⟩ ⟨by omega, by omega⟩] at c5
    refine mu_iconst (v := mI (-1)) B dX12_byteAt_17 rfl ?_
    refine mu_iret E rfl (by decide) (by decide) dX12_byteAt_18 ?_
    refine ⟨?_, rfl⟩
    first | rw [if_pos (by omega)] | rw [if_neg (by omega)]
  · try rw [mI_le ⟨by omega, by omega⟩ ⟨by omega, by omega⟩] at c5
    refine mu_al_0 B dX12_byteAt_8 ?_
    refine mu_getR B dX12_byteAt_9 fX12_7 rfl (by assumption) (by assumption) ?_
    refine mu_il_1 B dX12_byteAt_12 ?_
    refine mu_iald B dX12_byteAt_13 (by assumption) (mI_inN (by omega) (by omega)) ?_
    rw [mI_clampN (by omega)]
    refine mu_goto (tgt := 18) B dX12_byteAt_14 (by decide) ?_
    refine mu_iret E rfl (by decide) (by decide) dX12_byteAt_18 ?_
    refine ⟨?_, rfl⟩
    first | rw [if_pos (by omega)] | rw [if_neg (by omega)]

set_option maxHeartbeats 4000000 in
set_option maxRecDepth 100000 in
theorem c_X12_isRule (G : mu_G) {w : mu_W} {m : Nat} (hm : mo_ok w m) {n : Nat} {z : Int} (hn : mu_iv w m 3 = mI n) (hn2 : n ≤ 16) (hz : mi_ok z) : mu_Ct G M_X12_isRule [.ref m, .int (mI z)] w (fun r w' => r = some (.int (if 0 ≤ z ∧ z < n then mI 1 else mI 0)) ∧ w' = w) := by
  have hk0 := hm.1
  obtain ⟨hz1, hz2⟩ := hz
  refine mu_ofWA G M_X12_isRule [.ref m, .int (mI z)] (by decide) rfl (Nat.le_of_ble_eq_true rfl) ?_
  intro X E
  have B : mu_B X G cX12_isRule RX12 2 (mu_rm M_X12_isRule) := E.1
  show mu_WA X G 2 _ _ 0 0 0 _ []
  refine mu_il_1 B dX12_isRule_0 ?_
  refine mu_if_lt (tgt := 16) B dX12_isRule_1 (by decide) (fun c1 => ?_) (fun c1 => ?_)
  · try rw [mI_lt0 ⟨by omega, by omega⟩] at c1
    refine mu_iconst (v := mI 0) B dX12_isRule_16 rfl ?_
    refine mu_zret E rfl (by decide) (by decide) dX12_isRule_17 (by decide) ?_
    refine ⟨?_, rfl⟩
    first | rw [if_pos (by omega)] | rw [if_neg (by omega)]
  · try rw [mI_lt0 ⟨by omega, by omega⟩] at c1
    refine mu_il_1 B dX12_isRule_4 ?_
    refine mu_al_0 B dX12_isRule_5 ?_
    refine mu_getI B dX12_isRule_6 fX12_148 rfl (by assumption) ?_
    rw [hn]
    refine mu_icmp_ge (tgt := 16) B dX12_isRule_9 (by decide) (fun c9 => ?_) (fun c9 => ?_)
    · try rw [mI_le ⟨by omega, by omega⟩ ⟨by omega, by omega⟩] at c9
      refine mu_iconst (v := mI 0) B dX12_isRule_16 rfl ?_
      refine mu_zret E rfl (by decide) (by decide) dX12_isRule_17 (by decide) ?_
      refine ⟨?_, rfl⟩
      first | rw [if_pos (by omega)] | rw [if_neg (by omega)]
    · try rw [mI_le ⟨by omega, by omega⟩ ⟨by omega, by omega⟩] at c9
      refine mu_iconst (v := mI 1) B dX12_isRule_12 rfl ?_
      refine mu_goto (tgt := 17) B dX12_isRule_13 (by decide) ?_
      refine mu_zret E rfl (by decide) (by decide) dX12_isRule_17 (by decide) ?_
      refine ⟨?_, rfl⟩
      first | rw [if_pos (by omega)] | rw [if_neg (by omega)]

set_option maxHeartbeats 4000000 in
set_option maxRecDepth 100000 in
theorem c_X12_isField (G : mu_G) {w : mu_W} {m : Nat} (hm : mo_ok w m) {n : Nat} {z : Int} (hn : mu_iv w m 13 = mI n) (hn2 : n ≤ 8) (hz : mi_ok z) : mu_Ct G M_X12_isField [.ref m, .int (mI z)] w (fun r w' => r = some (.int (if 0 ≤ z ∧ z < n then mI 1 else mI 0)) ∧ w' = w) := by
  have hk0 := hm.1
  obtain ⟨hz1, hz2⟩ := hz
  refine mu_ofWA G M_X12_isField [.ref m, .int (mI z)] (by decide) rfl (Nat.le_of_ble_eq_true rfl) ?_
  intro X E
  have B : mu_B X G cX12_isField RX12 2 (mu_rm M_X12_isField) := E.1
  show mu_WA X G 2 _ _ 0 0 0 _ []
  refine mu_il_1 B dX12_isField_0 ?_
  refine mu_if_lt (tgt := 16) B dX12_isField_1 (by decide) (fun c1 => ?_) (fun c1 => ?_)
  · try rw [mI_lt0 ⟨by omega, by omega⟩] at c1
    refine mu_iconst (v := mI 0) B dX12_isField_16 rfl ?_
    refine mu_zret E rfl (by decide) (by decide) dX12_isField_17 (by decide) ?_
    refine ⟨?_, rfl⟩
    first | rw [if_pos (by omega)] | rw [if_neg (by omega)]
  · try rw [mI_lt0 ⟨by omega, by omega⟩] at c1
    refine mu_il_1 B dX12_isField_4 ?_
    refine mu_al_0 B dX12_isField_5 ?_
    refine mu_getI B dX12_isField_6 fX12_172 rfl (by assumption) ?_
    rw [hn]
    refine mu_icmp_ge (tgt := 16) B dX12_isField_9 (by decide) (fun c9 => ?_) (fun c9 => ?_)
    · try rw [mI_le ⟨by omega, by omega⟩ ⟨by omega, by omega⟩] at c9
      refine mu_iconst (v := mI 0) B dX12_isField_16 rfl ?_
      refine mu_zret E rfl (by decide) (by decide) dX12_isField_17 (by decide) ?_
      refine ⟨?_, rfl⟩
      first | rw [if_pos (by omega)] | rw [if_neg (by omega)]
    · try rw [mI_le ⟨by omega, by omega⟩ ⟨by omega, by omega⟩] at c9
      refine mu_iconst (v := mI 1) B dX12_isField_12 rfl ?_
      refine mu_goto (tgt := 17) B dX12_isField_13 (by decide) ?_
      refine mu_zret E rfl (by decide) (by decide) dX12_isField_17 (by decide) ?_
      refine ⟨?_, rfl⟩
      first | rw [if_pos (by omega)] | rw [if_neg (by omega)]

set_option maxHeartbeats 4000000 in
set_option maxRecDepth 100000 in
theorem c_X12_isGrid (G : mu_G) {w : mu_W} {m : Nat} (hm : mo_ok w m) {n : Nat} {z : Int} (hn : mu_iv w m 46 = mI n) (hn2 : n ≤ 8) (hz : mi_ok z) : mu_Ct G M_X12_isGrid [.ref m, .int (mI z)] w (fun r w' => r = some (.int (if 0 ≤ z ∧ z < n then mI 1 else mI 0)) ∧ w' = w) := by
  have hk0 := hm.1
  obtain ⟨hz1, hz2⟩ := hz
  refine mu_ofWA G M_X12_isGrid [.ref m, .int (mI z)] (by decide) rfl (Nat.le_of_ble_eq_true rfl) ?_
  intro X E
  have B : mu_B X G cX12_isGrid RX12 2 (mu_rm M_X12_isGrid) := E.1
  show mu_WA X G 2 _ _ 0 0 0 _ []
  refine mu_il_1 B dX12_isGrid_0 ?_
  refine mu_if_lt (tgt := 16) B dX12_isGrid_1 (by decide) (fun c1 => ?_) (fun c1 => ?_)
  · try rw [mI_lt0 ⟨by omega, by omega⟩] at c1
    refine mu_iconst (v := mI 0) B dX12_isGrid_16 rfl ?_
    refine mu_zret E rfl (by decide) (by decide) dX12_isGrid_17 (by decide) ?_
    refine ⟨?_, rfl⟩
    first | rw [if_pos (by omega)] | rw [if_neg (by omega)]
  · try rw [mI_lt0 ⟨by omega, by omega⟩] at c1
    refine mu_il_1 B dX12_isGrid_4 ?_
    refine mu_al_0 B dX12_isGrid_5 ?_
    refine mu_getI B dX12_isGrid_6 fX12_313 rfl (by assumption) ?_
    rw [hn]
    refine mu_icmp_ge (tgt := 16) B dX12_isGrid_9 (by decide) (fun c9 => ?_) (fun c9 => ?_)
    · try rw [mI_le ⟨by omega, by omega⟩ ⟨by omega, by omega⟩] at c9
      refine mu_iconst (v := mI 0) B dX12_isGrid_16 rfl ?_
      refine mu_zret E rfl (by decide) (by decide) dX12_isGrid_17 (by decide) ?_
      refine ⟨?_, rfl⟩
      first | rw [if_pos (by omega)] | rw [if_neg (by omega)]
    · try rw [mI_le ⟨by omega, by omega⟩ ⟨by omega, by omega⟩] at c9
      refine mu_iconst (v := mI 1) B dX12_isGrid_12 rfl ?_
      refine mu_goto (tgt := 17) B dX12_isGrid_13 (by decide) ?_
      refine mu_zret E rfl (by decide) (by decide) dX12_isGrid_17 (by decide) ?_
      refine ⟨?_, rfl⟩
      first | rw [if_pos (by omega)] | rw [if_neg (by omega)]

set_option maxHeartbeats 4000000 in
set_option maxRecDepth 100000 in
theorem c_X12_isPlace (G : mu_G) {w : mu_W} {m : Nat} {x y : Int} (hx : mi_ok x) (hy : mi_ok y) : mu_Ct G M_X12_isPlace [.ref m, .int (mI x), .int (mI y)] w (fun r w' => r = some (.int (if -128 ≤ x ∧ x < 128 ∧ -128 ≤ y ∧ y < 128 then mI 1 else mI 0)) ∧ w' = w) := by
  obtain ⟨hx1, hx2⟩ := hx
  obtain ⟨hy1, hy2⟩ := hy
  refine mu_ofWA G M_X12_isPlace [.ref m, .int (mI x), .int (mI y)] (by decide) rfl (Nat.le_of_ble_eq_true rfl) ?_
  intro X E
  have B : mu_B X G cX12_isPlace RX12 3 (mu_rm M_X12_isPlace) := E.1
  show mu_WA X G 3 _ _ 0 0 0 _ []
  refine mu_il_1 B dX12_isPlace_0 ?_
  refine mu_bipush (v := mI (-128)) B dX12_isPlace_1 (by decide) ?_
  refine mu_icmp_lt (tgt := 30) B dX12_isPlace_3 (by decide) (fun c3 => ?_) (fun c3 => ?_)
  · try rw [mI_lt ⟨by omega, by omega⟩ ⟨by omega, by omega⟩] at c3
    refine mu_iconst (v := mI 0) B dX12_isPlace_30 rfl ?_
    refine mu_zret E rfl (by decide) (by decide) dX12_isPlace_31 (by decide) ?_
    refine ⟨?_, rfl⟩
    first | rw [if_pos (by omega)] | rw [if_neg (by omega)]
  · try rw [mI_lt ⟨by omega, by omega⟩ ⟨by omega, by omega⟩] at c3
    refine mu_il_1 B dX12_isPlace_6 ?_
    refine mu_sipush (v := mI 128) B dX12_isPlace_7 (by decide) ?_
    refine mu_icmp_ge (tgt := 30) B dX12_isPlace_10 (by decide) (fun c10 => ?_) (fun c10 => ?_)
    · try rw [mI_le ⟨by omega, by omega⟩ ⟨by omega, by omega⟩] at c10
      refine mu_iconst (v := mI 0) B dX12_isPlace_30 rfl ?_
      refine mu_zret E rfl (by decide) (by decide) dX12_isPlace_31 (by decide) ?_
      refine ⟨?_, rfl⟩
      first | rw [if_pos (by omega)] | rw [if_neg (by omega)]
    · try rw [mI_le ⟨by omega, by omega⟩ ⟨by omega, by omega⟩] at c10
      refine mu_il_2 B dX12_isPlace_13 ?_
      refine mu_bipush (v := mI (-128)) B dX12_isPlace_14 (by decide) ?_
      refine mu_icmp_lt (tgt := 30) B dX12_isPlace_16 (by decide) (fun c16 => ?_) (fun c16 => ?_)
      · try rw [mI_lt ⟨by omega, by omega⟩ ⟨by omega, by omega⟩] at c16
        refine mu_iconst (v := mI 0) B dX12_isPlace_30 rfl ?_
        refine mu_zret E rfl (by decide) (by decide) dX12_isPlace_31 (by decide) ?_
        refine ⟨?_, rfl⟩
        first | rw [if_pos (by omega)] | rw [if_neg (by omega)]
      · try rw [mI_lt ⟨by omega, by omega⟩ ⟨by omega, by omega⟩] at c16
        refine mu_il_2 B dX12_isPlace_19 ?_
        refine mu_sipush (v := mI 128) B dX12_isPlace_20 (by decide) ?_
        refine mu_icmp_ge (tgt := 30) B dX12_isPlace_23 (by decide) (fun c23 => ?_) (fun c23 => ?_)
        · try rw [mI_le ⟨by omega, by omega⟩ ⟨by omega, by omega⟩] at c23
          refine mu_iconst (v := mI 0) B dX12_isPlace_30 rfl ?_
          refine mu_zret E rfl (by decide) (by decide) dX12_isPlace_31 (by decide) ?_
          refine ⟨?_, rfl⟩
          first | rw [if_pos (by omega)] | rw [if_neg (by omega)]
        · try rw [mI_le ⟨by omega, by omega⟩ ⟨by omega, by omega⟩] at c23
          refine mu_iconst (v := mI 1) B dX12_isPlace_26 rfl ?_
          refine mu_goto (tgt := 31) B dX12_isPlace_27 (by decide) ?_
          refine mu_zret E rfl (by decide) (by decide) dX12_isPlace_31 (by decide) ?_
          refine ⟨?_, rfl⟩
          first | rw [if_pos (by omega)] | rw [if_neg (by omega)]

set_option maxHeartbeats 4000000 in
set_option maxRecDepth 100000 in
theorem c_X12_place (G : mu_G) {w : mu_W} {m : Nat} {f x y : Int} : mu_Ct G M_X12_place [.ref m, .int (mI f), .int (mI x), .int (mI y)] w (fun r w' => r = some (.int (mI (65536 * f + 256 * (y + 128) + x + 128))) ∧ w' = w) := by
  refine mu_ofWA G M_X12_place [.ref m, .int (mI f), .int (mI x), .int (mI y)] (by decide) rfl (Nat.le_of_ble_eq_true rfl) ?_
  intro X E
  have B : mu_B X G cX12_place RX12 4 (mu_rm M_X12_place) := E.1
  show mu_WA X G 4 _ _ 0 0 0 _ []
  refine mu_ldc B kX12_45 dX12_place_0 ?_
  refine mu_il_1 B dX12_place_2 ?_
  refine mu_imul B dX12_place_3 ?_
  try rw [mI_mul]
  refine mu_sipush (v := mI 256) B dX12_place_4 (by decide) ?_
  refine mu_il_3 B dX12_place_7 ?_
  refine mu_sipush (v := mI 128) B dX12_place_8 (by decide) ?_
  refine mu_iadd B dX12_place_11 ?_
  try rw [mI_add]
  refine mu_imul B dX12_place_12 ?_
  try rw [mI_mul]
  refine mu_iadd B dX12_place_13 ?_
  try rw [mI_add]
  refine mu_il_2 B dX12_place_14 ?_
  refine mu_iadd B dX12_place_15 ?_
  try rw [mI_add]
  refine mu_sipush (v := mI 128) B dX12_place_16 (by decide) ?_
  refine mu_iadd B dX12_place_19 ?_
  try rw [mI_add]
  refine mu_iret E rfl (by decide) (by decide) dX12_place_20 ?_
  refine ⟨?_, rfl⟩
  simp only [mI_add, mI_mul]

set_option maxHeartbeats 4000000 in
set_option maxRecDepth 100000 in
theorem c_X12_isBlank (G : mu_G) {w : mu_W} {z : Int} (hz : mi_ok z) : mu_Ct G M_X12_isBlank [.int (mI z)] w (fun r w' => r = some (.int (if z = 10 ∨ z = 32 then mI 1 else mI 0)) ∧ w' = w) := by
  obtain ⟨hz1, hz2⟩ := hz
  refine mu_ofWA G M_X12_isBlank [.int (mI z)] (by decide) rfl (Nat.le_of_ble_eq_true rfl) ?_
  intro X E
  have B : mu_B X G cX12_isBlank RX12 1 (mu_rm M_X12_isBlank) := E.1
  show mu_WA X G 1 _ _ 0 0 0 _ []
  refine mu_il_0 B dX12_isBlank_0 ?_
  refine mu_bipush (v := mI 10) B dX12_isBlank_1 (by decide) ?_
  refine mu_icmp_eq (tgt := 12) B dX12_isBlank_3 (by decide) (fun c3 => ?_) (fun c3 => ?_)
  · try rw [mI_eq ⟨by omega, by omega⟩ ⟨by omega, by omega⟩] at c3
    refine mu_iconst (v := mI 1) B dX12_isBlank_12 rfl ?_
    refine mu_goto (tgt := 17) B dX12_isBlank_13 (by decide) ?_
    refine mu_zret E rfl (by decide) (by decide) dX12_isBlank_17 (by decide) ?_
    refine ⟨?_, rfl⟩
    first | rw [if_pos (by omega)] | rw [if_neg (by omega)]
  · try rw [mI_eq ⟨by omega, by omega⟩ ⟨by omega, by omega⟩] at c3
    refine mu_il_0 B dX12_isBlank_6 ?_
    refine mu_bipush (v := mI 32) B dX12_isBlank_7 (by decide) ?_
    refine mu_icmp_ne (tgt := 16) B dX12_isBlank_9 (by decide) (fun c9 => ?_) (fun c9 => ?_)
    · try rw [mI_eq ⟨by omega, by omega⟩ ⟨by omega, by omega⟩] at c9
      refine mu_iconst (v := mI 0) B dX12_isBlank_16 rfl ?_
      refine mu_zret E rfl (by decide) (by decide) dX12_isBlank_17 (by decide) ?_
      refine ⟨?_, rfl⟩
      first | rw [if_pos (by omega)] | rw [if_neg (by omega)]
    · try rw [mI_eq ⟨by omega, by omega⟩ ⟨by omega, by omega⟩] at c9
      refine mu_iconst (v := mI 1) B dX12_isBlank_12 rfl ?_
      refine mu_goto (tgt := 17) B dX12_isBlank_13 (by decide) ?_
      refine mu_zret E rfl (by decide) (by decide) dX12_isBlank_17 (by decide) ?_
      refine ⟨?_, rfl⟩
      first | rw [if_pos (by omega)] | rw [if_neg (by omega)]

set_option maxHeartbeats 4000000 in
set_option maxRecDepth 100000 in
theorem c_X12_isDigit (G : mu_G) {w : mu_W} {z : Int} (hz : mi_ok z) : mu_Ct G M_X12_isDigit [.int (mI z)] w (fun r w' => r = some (.int (if 48 ≤ z ∧ z ≤ 57 then mI 1 else mI 0)) ∧ w' = w) := by
  obtain ⟨hz1, hz2⟩ := hz
  refine mu_ofWA G M_X12_isDigit [.int (mI z)] (by decide) rfl (Nat.le_of_ble_eq_true rfl) ?_
  intro X E
  have B : mu_B X G cX12_isDigit RX12 1 (mu_rm M_X12_isDigit) := E.1
  show mu_WA X G 1 _ _ 0 0 0 _ []
  refine mu_il_0 B dX12_isDigit_0 ?_
  refine mu_bipush (v := mI 48) B dX12_isDigit_1 (by decide) ?_
  refine mu_icmp_lt (tgt := 16) B dX12_isDigit_3 (by decide) (fun c3 => ?_) (fun c3 => ?_)
  · try rw [mI_lt ⟨by omega, by omega⟩ ⟨by omega, by omega⟩] at c3
    refine mu_iconst (v := mI 0) B dX12_isDigit_16 rfl ?_
    refine mu_zret E rfl (by decide) (by decide) dX12_isDigit_17 (by decide) ?_
    refine ⟨?_, rfl⟩
    first | rw [if_pos (by omega)] | rw [if_neg (by omega)]
  · try rw [mI_lt ⟨by omega, by omega⟩ ⟨by omega, by omega⟩] at c3
    refine mu_il_0 B dX12_isDigit_6 ?_
    refine mu_bipush (v := mI 57) B dX12_isDigit_7 (by decide) ?_
    refine mu_icmp_gt (tgt := 16) B dX12_isDigit_9 (by decide) (fun c9 => ?_) (fun c9 => ?_)
    · try rw [mI_lt ⟨by omega, by omega⟩ ⟨by omega, by omega⟩] at c9
      refine mu_iconst (v := mI 0) B dX12_isDigit_16 rfl ?_
      refine mu_zret E rfl (by decide) (by decide) dX12_isDigit_17 (by decide) ?_
      refine ⟨?_, rfl⟩
      first | rw [if_pos (by omega)] | rw [if_neg (by omega)]
    · try rw [mI_lt ⟨by omega, by omega⟩ ⟨by omega, by omega⟩] at c9
      refine mu_iconst (v := mI 1) B dX12_isDigit_12 rfl ?_
      refine mu_goto (tgt := 17) B dX12_isDigit_13 (by decide) ?_
      refine mu_zret E rfl (by decide) (by decide) dX12_isDigit_17 (by decide) ?_
      refine ⟨?_, rfl⟩
      first | rw [if_pos (by omega)] | rw [if_neg (by omega)]

set_option maxHeartbeats 4000000 in
set_option maxRecDepth 100000 in
theorem c_X12_isBlocks (G : mu_G) {w : mu_W} {m : Nat} (hm : mo_ok w m) {k : Nat} {a : Int} (ha : mu_iv w (m + 5) k = mI a) (hk : k < 16) (ha2 : mi_ok a) : mu_Ct G M_X12_isBlocks [.ref m, .int (mI k)] w (fun r w' => r = some (.int (if a = 0 then mI 1 else mI 0)) ∧ w' = w) := by
  have hk0 := hm.1
  obtain ⟨h1, h2⟩ := mo_7 hm
  obtain ⟨ha3, ha4⟩ := ha2
  refine mu_ofWA G M_X12_isBlocks [.ref m, .int (mI k)] (by decide) rfl (Nat.le_of_ble_eq_true rfl) ?_
  intro X E
  have B : mu_B X G cX12_isBlocks RX12 2 (mu_rm M_X12_isBlocks) := E.1
  show mu_WA X G 2 _ _ 0 0 0 _ []
  refine mu_al_0 B dX12_isBlocks_0 ?_
  refine mu_getR B dX12_isBlocks_1 fX12_23 rfl (by assumption) (by assumption) ?_
  refine mu_il_1 B dX12_isBlocks_4 ?_
  refine mu_iald B dX12_isBlocks_5 (by assumption) (mI_inN (by omega) (by omega)) ?_
  rw [mI_clampN (by omega), ha]
  refine mu_if_ne (tgt := 13) B dX12_isBlocks_6 (by decide) (fun c6 => ?_) (fun c6 => ?_)
  · try rw [mI_eq0 ⟨by omega, by omega⟩] at c6
    refine mu_iconst (v := mI 0) B dX12_isBlocks_13 rfl ?_
    refine mu_zret E rfl (by decide) (by decide) dX12_isBlocks_14 (by decide) ?_
    refine ⟨?_, rfl⟩
    first | rw [if_pos (by omega)] | rw [if_neg (by omega)]
  · try rw [mI_eq0 ⟨by omega, by omega⟩] at c6
    refine mu_iconst (v := mI 1) B dX12_isBlocks_9 rfl ?_
    refine mu_goto (tgt := 14) B dX12_isBlocks_10 (by decide) ?_
    refine mu_zret E rfl (by decide) (by decide) dX12_isBlocks_14 (by decide) ?_
    refine ⟨?_, rfl⟩
    first | rw [if_pos (by omega)] | rw [if_neg (by omega)]
