/-! ===== the class's grids ===== -/
def CGo (w : mu_W) (a : Nat) : Prop := mu_kd w a = some (3, 0) ∧ mu_rv w a 0 = some (a + 1) ∧ mu_kd w (a + 1) = some (100, 256)
def CGf (w : mu_W) (a S R C n : Nat) : Prop := mu_iv w a 2 = mI S ∧ mu_iv w a 3 = mI R ∧ mu_iv w a 4 = mI C ∧ mu_iv w a 5 = mI n
def CGc (w : mu_W) (a R C : Nat) (c : Nat → Nat → Nat) : Prop := ∀ i j, i < R → j < C → mu_iv w (a + 1) (C * i + j) = mI (c i j)
theorem CGo.fi {S : Nat → Nat → Prop} {w w' : mu_W} {a : Nat} (h : CGo w a) (hF : mu_Fi S w w') : CGo w' a := ⟨hF.kd h.1, hF.rv h.2.1, hF.kd h.2.2⟩
theorem CGo.fr {S : Nat → Nat → Prop} {w w' : mu_W} {a : Nat} (h : CGo w a) (hF : mu_Fr S w w') (h0 : ¬ S a 0) : CGo w' a := ⟨hF.kd h.1, hF.rv h0 h.2.1, hF.kd h.2.2⟩
theorem CGf.fi {S : Nat → Nat → Prop} {w w' : mu_W} {a s R C n : Nat} (h : CGf w a s R C n) (hF : mu_Fi S w w') (hn : ∀ j, 2 ≤ j → j ≤ 5 → ¬ S a j) : CGf w' a s R C n := ⟨hF.iv (hn 2 (by decide) (by decide)) h.1, hF.iv (hn 3 (by decide) (by decide)) h.2.1, hF.iv (hn 4 (by decide) (by decide)) h.2.2.1, hF.iv (hn 5 (by decide) (by decide)) h.2.2.2⟩
theorem CGf.fr {S : Nat → Nat → Prop} {w w' : mu_W} {a s R C n : Nat} (h : CGf w a s R C n) (hF : mu_Fr S w w') (hn : ∀ j, 2 ≤ j → j ≤ 5 → ¬ S a j) : CGf w' a s R C n := ⟨hF.iv (hn 2 (by decide) (by decide)) h.1, hF.iv (hn 3 (by decide) (by decide)) h.2.1, hF.iv (hn 4 (by decide) (by decide)) h.2.2.1, hF.iv (hn 5 (by decide) (by decide)) h.2.2.2⟩
theorem CGc.fi {S : Nat → Nat → Prop} {w w' : mu_W} {a R C : Nat} {c : Nat → Nat → Nat} (h : CGc w a R C c) (hF : mu_Fi S w w') (hn : ∀ j, ¬ S (a + 1) j) : CGc w' a R C c := fun i j hi hj => hF.iv (hn _) (h i j hi hj)
theorem CGc.fr {S : Nat → Nat → Prop} {w w' : mu_W} {a R C : Nat} {c : Nat → Nat → Nat} (h : CGc w a R C c) (hF : mu_Fr S w w') (hn : ∀ j, ¬ S (a + 1) j) : CGc w' a R C c := fun i j hi hj => hF.iv (hn _) (h i j hi hj)
theorem CGc.wr {w : mu_W} {a R C : Nat} {c : Nat → Nat → Nat} (h : CGc w a R C c) {i j v : Nat} (hj : j < C) : CGc (mu_si w (a + 1) (C * i + j) (mI v)) a R C (cu c i j v) := fun p q hp hq => by
  unfold cu
  by_cases e9 : p = i ∧ q = j
  · rw [if_pos e9, e9.1, e9.2, mu_iv_same]
  · rw [if_neg e9, mu_iv_oth _ _ (fun hh => e9 (gs_inj hq hj hh.2))]
    exact h p q hp hq
theorem gs_ixN {R C i j : Nat} (hR : gs_sd R) (hC : gs_sd C) (hi : i < R) (hj : j < C) : C * i + j < 256 := by
  have := gs_ix hR hC hi hj
  omega
theorem im_ (i C : Nat) : (i : Int) * (C : Int) = ((C * i : Nat) : Int) := by rw [Int.natCast_mul, Int.mul_comm]

set_option maxHeartbeats 4000000 in
set_option maxRecDepth 100000 in
theorem c_X3_hasCell (G : mu_G) {w : mu_W} {a : Nat} (ho : CGo w a) {S R C n : Nat} (hf : CGf w a S R C n) (hS : 2 ≤ S ∧ S ≤ 4) (hR : gs_sd R) (hC : gs_sd C) {x y : Int} (hx : mi_ok x) (hy : mi_ok y) : mu_Ct G M_X3_hasCell [.ref a, .int (mI x), .int (mI y)] w (fun r w' => r = some (.int (if 0 ≤ x ∧ x < R ∧ 0 ≤ y ∧ y < C then mI 1 else mI 0)) ∧ w' = w) := by
  obtain ⟨ka, r0, k1⟩ := id ho
  obtain ⟨R1, R2, R3⟩ := id hR
  obtain ⟨C1, C2, C3⟩ := id hC
  obtain ⟨hx1, hx2⟩ := hx
  obtain ⟨hy1, hy2⟩ := hy
  refine mu_ofWA G M_X3_hasCell [.ref a, .int (mI x), .int (mI y)] (by decide) rfl (Nat.le_of_ble_eq_true rfl) ?_
  intro X E
  have B : mu_B X G cX3_hasCell RX3 3 (mu_rm M_X3_hasCell) := E.1
  show mu_WA X G 3 _ _ 0 0 0 _ []
  refine mu_il_1 B dX3_hasCell_0 ?_
  refine mu_if_lt (tgt := 28) B dX3_hasCell_1 (by decide) (fun c1 => ?_) (fun c1 => ?_)
  · try rw [mI_lt0 ⟨by omega, by omega⟩] at c1
    refine mu_iconst (v := mI 0) B dX3_hasCell_28 rfl ?_
    refine mu_zret E rfl (by decide) (by decide) dX3_hasCell_29 (by decide) ?_
    refine ⟨?_, rfl⟩
    first | rw [if_pos (by omega)] | rw [if_neg (by omega)]
  · try rw [mI_lt0 ⟨by omega, by omega⟩] at c1
    refine mu_il_1 B dX3_hasCell_4 ?_
    refine mu_al_0 B dX3_hasCell_5 ?_
    refine mu_getI B dX3_hasCell_6 fX3_25 rfl (by assumption) ?_
    rw [hf.2.1]
    refine mu_icmp_ge (tgt := 28) B dX3_hasCell_9 (by decide) (fun c9 => ?_) (fun c9 => ?_)
    · try rw [mI_le ⟨by omega, by omega⟩ ⟨by omega, by omega⟩] at c9
      refine mu_iconst (v := mI 0) B dX3_hasCell_28 rfl ?_
      refine mu_zret E rfl (by decide) (by decide) dX3_hasCell_29 (by decide) ?_
      refine ⟨?_, rfl⟩
      first | rw [if_pos (by omega)] | rw [if_neg (by omega)]
    · try rw [mI_le ⟨by omega, by omega⟩ ⟨by omega, by omega⟩] at c9
      refine mu_il_2 B dX3_hasCell_12 ?_
      refine mu_if_lt (tgt := 28) B dX3_hasCell_13 (by decide) (fun c13 => ?_) (fun c13 => ?_)
      · try rw [mI_lt0 ⟨by omega, by omega⟩] at c13
        refine mu_iconst (v := mI 0) B dX3_hasCell_28 rfl ?_
        refine mu_zret E rfl (by decide) (by decide) dX3_hasCell_29 (by decide) ?_
        refine ⟨?_, rfl⟩
        first | rw [if_pos (by omega)] | rw [if_neg (by omega)]
      · try rw [mI_lt0 ⟨by omega, by omega⟩] at c13
        refine mu_il_2 B dX3_hasCell_16 ?_
        refine mu_al_0 B dX3_hasCell_17 ?_
        refine mu_getI B dX3_hasCell_18 fX3_28 rfl (by assumption) ?_
        rw [hf.2.2.1]
        refine mu_icmp_ge (tgt := 28) B dX3_hasCell_21 (by decide) (fun c21 => ?_) (fun c21 => ?_)
        · try rw [mI_le ⟨by omega, by omega⟩ ⟨by omega, by omega⟩] at c21
          refine mu_iconst (v := mI 0) B dX3_hasCell_28 rfl ?_
          refine mu_zret E rfl (by decide) (by decide) dX3_hasCell_29 (by decide) ?_
          refine ⟨?_, rfl⟩
          first | rw [if_pos (by omega)] | rw [if_neg (by omega)]
        · try rw [mI_le ⟨by omega, by omega⟩ ⟨by omega, by omega⟩] at c21
          refine mu_iconst (v := mI 1) B dX3_hasCell_24 rfl ?_
          refine mu_goto (tgt := 29) B dX3_hasCell_25 (by decide) ?_
          refine mu_zret E rfl (by decide) (by decide) dX3_hasCell_29 (by decide) ?_
          refine ⟨?_, rfl⟩
          first | rw [if_pos (by omega)] | rw [if_neg (by omega)]

set_option maxHeartbeats 4000000 in
set_option maxRecDepth 100000 in
theorem c_X3_hasState (G : mu_G) {w : mu_W} {a : Nat} (ho : CGo w a) {S R C n : Nat} (hf : CGf w a S R C n) (hS : 2 ≤ S ∧ S ≤ 4) (hR : gs_sd R) (hC : gs_sd C) {x : Int} (hx : mi_ok x) : mu_Ct G M_X3_hasState [.ref a, .int (mI x)] w (fun r w' => r = some (.int (if 0 ≤ x ∧ x < S then mI 1 else mI 0)) ∧ w' = w) := by
  obtain ⟨ka, r0, k1⟩ := id ho
  obtain ⟨R1, R2, R3⟩ := id hR
  obtain ⟨C1, C2, C3⟩ := id hC
  obtain ⟨hx1, hx2⟩ := hx
  refine mu_ofWA G M_X3_hasState [.ref a, .int (mI x)] (by decide) rfl (Nat.le_of_ble_eq_true rfl) ?_
  intro X E
  have B : mu_B X G cX3_hasState RX3 2 (mu_rm M_X3_hasState) := E.1
  show mu_WA X G 2 _ _ 0 0 0 _ []
  refine mu_il_1 B dX3_hasState_0 ?_
  refine mu_if_lt (tgt := 16) B dX3_hasState_1 (by decide) (fun c1 => ?_) (fun c1 => ?_)
  · try rw [mI_lt0 ⟨by omega, by omega⟩] at c1
    refine mu_iconst (v := mI 0) B dX3_hasState_16 rfl ?_
    refine mu_zret E rfl (by decide) (by decide) dX3_hasState_17 (by decide) ?_
    refine ⟨?_, rfl⟩
    first | rw [if_pos (by omega)] | rw [if_neg (by omega)]
  · try rw [mI_lt0 ⟨by omega, by omega⟩] at c1
    refine mu_il_1 B dX3_hasState_4 ?_
    refine mu_al_0 B dX3_hasState_5 ?_
    refine mu_getI B dX3_hasState_6 fX3_22 rfl (by assumption) ?_
    rw [hf.1]
    refine mu_icmp_ge (tgt := 16) B dX3_hasState_9 (by decide) (fun c9 => ?_) (fun c9 => ?_)
    · try rw [mI_le ⟨by omega, by omega⟩ ⟨by omega, by omega⟩] at c9
      refine mu_iconst (v := mI 0) B dX3_hasState_16 rfl ?_
      refine mu_zret E rfl (by decide) (by decide) dX3_hasState_17 (by decide) ?_
      refine ⟨?_, rfl⟩
      first | rw [if_pos (by omega)] | rw [if_neg (by omega)]
    · try rw [mI_le ⟨by omega, by omega⟩ ⟨by omega, by omega⟩] at c9
      refine mu_iconst (v := mI 1) B dX3_hasState_12 rfl ?_
      refine mu_goto (tgt := 17) B dX3_hasState_13 (by decide) ?_
      refine mu_zret E rfl (by decide) (by decide) dX3_hasState_17 (by decide) ?_
      refine ⟨?_, rfl⟩
      first | rw [if_pos (by omega)] | rw [if_neg (by omega)]

set_option maxHeartbeats 4000000 in
set_option maxRecDepth 100000 in
theorem c_X3_look (G : mu_G) {w : mu_W} {a : Nat} (ho : CGo w a) {S R C n : Nat} (hf : CGf w a S R C n) (hS : 2 ≤ S ∧ S ≤ 4) (hR : gs_sd R) (hC : gs_sd C) {c : Nat → Nat → Nat} (hb : CGc w a R C c) {i j : Nat} (hi : i < R) (hj : j < C) : mu_Ct G M_X3_look [.ref a, .int (mI i), .int (mI j)] w (fun r w' => r = some (.int (mI (c i j))) ∧ w' = w) := by
  obtain ⟨ka, r0, k1⟩ := id ho
  obtain ⟨R1, R2, R3⟩ := id hR
  obtain ⟨C1, C2, C3⟩ := id hC
  refine mu_ofWA G M_X3_look [.ref a, .int (mI i), .int (mI j)] (by decide) rfl (Nat.le_of_ble_eq_true rfl) ?_
  intro X E
  have B : mu_B X G cX3_look RX3 3 (mu_rm M_X3_look) := E.1
  show mu_WA X G 3 _ _ 0 0 0 _ []
  refine mu_al_0 B dX3_look_0 ?_
  refine mu_il_1 B dX3_look_1 ?_
  refine mu_il_2 B dX3_look_2 ?_
  refine mu_eV2 B dX3_look_3 mX3_40 ⟨⟨by decide, by decide⟩, by decide, by decide⟩ (Nat.le_of_ble_eq_true rfl) (by assumption) (c_X3_hasCell G ho hf hS hR hC (x := (i : Int)) (y := (j : Int)) ⟨by omega, by omega⟩ ⟨by omega, by omega⟩) ?_
  refine mu_if_eq (tgt := 25) B dX3_look_6 (by decide) (fun c6 => ?_) (fun c6 => ?_)
  · have z6 := mu_bf c6
    exact absurd (by omega) z6
  · have z6 := mu_bt c6
    refine mu_al_0 B dX3_look_9 ?_
    refine mu_getR B dX3_look_10 fX3_9 rfl (by assumption) (by assumption) ?_
    refine mu_il_1 B dX3_look_13 ?_
    refine mu_al_0 B dX3_look_14 ?_
    refine mu_getI B dX3_look_15 fX3_28 rfl (by assumption) ?_
    rw [hf.2.2.1]
    refine mu_imul B dX3_look_18 ?_
    try rw [mI_mul]
    try rw [mI_mul]
    rw [im_]
    refine mu_il_2 B dX3_look_19 ?_
    refine mu_iadd B dX3_look_20 ?_
    try rw [mI_add]
    try rw [mI_add]
    rw [show ((C * i : Nat) : Int) + (j : Int) = ((C * i + j : Nat) : Int) by omega]
    refine mu_iald B dX3_look_21 (by assumption) (mI_inN (gs_ixN hR hC hi hj) (by decide)) ?_
    have hix := gs_ixN hR hC hi hj
    rw [mI_clampN (by omega)]
    rw [hb i j hi hj]
    refine mu_goto (tgt := 26) B dX3_look_22 (by decide) ?_
    refine mu_iret E rfl (by decide) (by decide) dX3_look_26 ?_
    exact ⟨rfl, rfl⟩

set_option maxHeartbeats 4000000 in
set_option maxRecDepth 100000 in
theorem c_X3_change (G : mu_G) {w : mu_W} {a : Nat} (ho : CGo w a) {S R C n : Nat} (hf : CGf w a S R C n) (hS : 2 ≤ S ∧ S ≤ 4) (hR : gs_sd R) (hC : gs_sd C) {c : Nat → Nat → Nat} (hb : CGc w a R C c) {i j v : Nat} (hi : i < R) (hj : j < C) : mu_Ct G M_X3_change [.ref a, .int (mI i), .int (mI j), .int (mI v)] w (fun r w' => r = some (.int (mI (c i j))) ∧ mu_Fi (fun q _ => q = a + 1) w w' ∧ CGc w' a R C (cu c i j v)) := by
  obtain ⟨ka, r0, k1⟩ := id ho
  obtain ⟨R1, R2, R3⟩ := id hR
  obtain ⟨C1, C2, C3⟩ := id hC
  refine mu_ofWA G M_X3_change [.ref a, .int (mI i), .int (mI j), .int (mI v), mu_no] (by decide) rfl (Nat.le_of_ble_eq_true rfl) ?_
  intro X E
  have B : mu_B X G cX3_change RX3 5 (mu_rm M_X3_change) := E.1
  show mu_WA X G 5 _ _ 0 0 0 _ []
  refine mu_al_0 B dX3_change_0 ?_
  refine mu_il_1 B dX3_change_1 ?_
  refine mu_il_2 B dX3_change_2 ?_
  refine mu_eV2 B dX3_change_3 mX3_44 ⟨⟨by decide, by decide⟩, by decide, by decide⟩ (Nat.le_of_ble_eq_true rfl) (by assumption) (c_X3_look G ho hf hS hR hC hb hi hj) ?_
  refine mu_is_4 B dX3_change_6 (by decide) rfl ?_
  refine mu_al_0 B dX3_change_8 ?_
  refine mu_il_1 B dX3_change_9 ?_
  refine mu_il_2 B dX3_change_10 ?_
  refine mu_eV2 B dX3_change_11 mX3_40 ⟨⟨by decide, by decide⟩, by decide, by decide⟩ (Nat.le_of_ble_eq_true rfl) (by assumption) (c_X3_hasCell G ho hf hS hR hC (x := (i : Int)) (y := (j : Int)) ⟨by omega, by omega⟩ ⟨by omega, by omega⟩) ?_
  refine mu_if_eq (tgt := 31) B dX3_change_14 (by decide) (fun c14 => ?_) (fun c14 => ?_)
  · have z14 := mu_bf c14
    exact absurd (by omega) z14
  · have z14 := mu_bt c14
    refine mu_al_0 B dX3_change_17 ?_
    refine mu_getR B dX3_change_18 fX3_9 rfl (by assumption) (by assumption) ?_
    refine mu_il_1 B dX3_change_21 ?_
    refine mu_al_0 B dX3_change_22 ?_
    refine mu_getI B dX3_change_23 fX3_28 rfl (by assumption) ?_
    rw [hf.2.2.1]
    refine mu_imul B dX3_change_26 ?_
    try rw [mI_mul]
    try rw [mI_mul]
    rw [im_]
    refine mu_il_2 B dX3_change_27 ?_
    refine mu_iadd B dX3_change_28 ?_
    try rw [mI_add]
    try rw [mI_add]
    rw [show ((C * i : Nat) : Int) + (j : Int) = ((C * i + j : Nat) : Int) by omega]
    refine mu_il_3 B dX3_change_29 ?_
    refine mu_iast B dX3_change_30 (by assumption) (mI_inN (gs_ixN hR hC hi hj) (by decide)) ?_
    have hix := gs_ixN hR hC hi hj
    rw [mI_clampN (by omega)]
    refine mu_il_4 B dX3_change_31 ?_
    refine mu_iret E rfl (by decide) (by decide) dX3_change_33 ?_
    exact ⟨rfl, (mu_Fi.refl _).si rfl, hb.wr hj⟩

set_option maxHeartbeats 4000000 in
set_option maxRecDepth 100000 in
theorem c_X3_tally (G : mu_G) {w : mu_W} {a : Nat} (ho : CGo w a) {S R C n : Nat} (hf : CGf w a S R C n) (hS : 2 ≤ S ∧ S ≤ 4) (hR : gs_sd R) (hC : gs_sd C) {c : Nat → Nat → Nat} (hb : CGc w a R C c) (hc : ∀ i j, c i j < S) {v : Nat} (hv : v < S) : mu_Ct G M_X3_tally [.ref a, .int (mI v)] w (fun r w' => r = some (.int (mI ((sp_am C c v (R * C) : Nat) : Int))) ∧ w' = w) := by
  obtain ⟨ka, r0, k1⟩ := id ho
  obtain ⟨R1, R2, R3⟩ := id hR
  obtain ⟨C1, C2, C3⟩ := id hC
  have hRC : R * C ≤ 256 := Nat.mul_le_mul R2 C2
  refine mu_ofWA G M_X3_tally [.ref a, .int (mI v), mu_no, mu_no] (by decide) rfl (Nat.le_of_ble_eq_true rfl) ?_
  intro X E
  have B : mu_B X G cX3_tally RX3 4 (mu_rm M_X3_tally) := E.1
  have LT : ∀ k (uu : Unit), k ≤ R * C → (True) → mu_WA X G 4 (mu_Q X G M_X3_tally (fun r w' => r = some (.int (mI ((sp_am C c v (R * C) : Nat) : Int))) ∧ w' = w)) w 0 0 4 [.ref a, .int (mI v), .int (mI ((sp_am C c v k : Nat) : Int)), .int (mI k)] [] := by
    refine mu_ind (R * C) (fun k (uu : Unit) => mu_WA X G 4 (mu_Q X G M_X3_tally (fun r w' => r = some (.int (mI ((sp_am C c v (R * C) : Nat) : Int))) ∧ w' = w)) w 0 0 4 [.ref a, .int (mI v), .int (mI ((sp_am C c v k : Nat) : Int)), .int (mI k)] []) (fun k (uu : Unit) => True) ?_
    intro k uu hk _ ih
    have hale := sp_am_le C c v k
    refine mu_il_3 B dX3_tally_4 ?_
    refine mu_al_0 B dX3_tally_5 ?_
    refine mu_getI B dX3_tally_6 fX3_25 rfl (by assumption) ?_
    rw [hf.2.1]
    refine mu_al_0 B dX3_tally_9 ?_
    refine mu_getI B dX3_tally_10 fX3_28 rfl (by assumption) ?_
    rw [hf.2.2.1]
    refine mu_imul B dX3_tally_13 ?_
    try rw [mI_mul]
    try rw [mI_mul]
    rw [im_, Nat.mul_comm C R]
    refine mu_icmp_ge (tgt := 50) B dX3_tally_14 (by decide) (fun c14 => ?_) (fun c14 => ?_)
    · try rw [mI_le ⟨by omega, by omega⟩ ⟨by omega, by omega⟩] at c14
      try rw [mI_le ⟨by omega, by omega⟩ ⟨by omega, by omega⟩] at c14
      obtain rfl : R * C = k := by omega
      refine mu_il_2 B dX3_tally_50 ?_
      refine mu_iret E rfl (by decide) (by decide) dX3_tally_51 ?_
      exact ⟨rfl, rfl⟩
    · try rw [mI_le ⟨by omega, by omega⟩ ⟨by omega, by omega⟩] at c14
      refine mu_il_3 B dX3_tally_17 ?_
      refine mu_al_0 B dX3_tally_18 ?_
      refine mu_getR B dX3_tally_19 fX3_9 rfl (by assumption) (by assumption) ?_
      refine mu_len (ka := 0) B dX3_tally_22 (by assumption) (by decide) ?_
      refine mu_icmp_ge (tgt := 50) B dX3_tally_23 (by decide) (fun c23 => ?_) (fun c23 => ?_)
      · try rw [mI_le ⟨by omega, by omega⟩ ⟨by omega, by omega⟩] at c23
        exfalso
        omega
      · try rw [mI_le ⟨by omega, by omega⟩ ⟨by omega, by omega⟩] at c23
        refine mu_il_2 B dX3_tally_26 ?_
        refine mu_al_0 B dX3_tally_27 ?_
        refine mu_getR B dX3_tally_28 fX3_9 rfl (by assumption) (by assumption) ?_
        refine mu_il_3 B dX3_tally_31 ?_
        refine mu_iald B dX3_tally_32 (by assumption) (mI_inN (by omega) (by decide)) ?_
        rw [mI_clampN (by omega)]
        have hkk := gs_kk (R := R) (C := C) (k := k) (by omega)
        have hcell := hb (k / C) (k % C) hkk.1 hkk.2.1
        rw [hkk.2.2] at hcell
        rw [hcell]
        have hcl := hc (k / C) (k % C)
        refine mu_il_1 B dX3_tally_33 ?_
        refine mu_icmp_ne (tgt := 41) B dX3_tally_34 (by decide) (fun c34 => ?_) (fun c34 => ?_)
        · try rw [mI_eq ⟨by omega, by omega⟩ ⟨by omega, by omega⟩] at c34
          refine mu_iconst (v := mI 0) B dX3_tally_41 rfl ?_
          refine mu_iadd B dX3_tally_42 ?_
          try rw [mI_add]
          refine mu_is_2 B dX3_tally_43 (by decide) rfl ?_
          refine mu_inc_3 (c := mI 1) B dX3_tally_44 rfl (by decide) rfl ?_
          try rw [mI_add]
          refine mu_goto (tgt := 4) B dX3_tally_47 (by decide) ?_
          refine mu_to (ih () (by omega) trivial) rfl (by rw [show ((k + 1 : Nat) : Int) = (k : Int) + 1 by omega, sp_am]; first | rw [if_pos (by omega), show ((sp_am C c v k + 1 : Nat) : Int) = (sp_am C c v k : Int) + 1 by omega] | rw [if_neg (by omega), show ((sp_am C c v k + 0 : Nat) : Int) = (sp_am C c v k : Int) + 0 by omega])
        · try rw [mI_eq ⟨by omega, by omega⟩ ⟨by omega, by omega⟩] at c34
          refine mu_iconst (v := mI 1) B dX3_tally_37 rfl ?_
          refine mu_goto (tgt := 42) B dX3_tally_38 (by decide) ?_
          refine mu_iadd B dX3_tally_42 ?_
          try rw [mI_add]
          refine mu_is_2 B dX3_tally_43 (by decide) rfl ?_
          refine mu_inc_3 (c := mI 1) B dX3_tally_44 rfl (by decide) rfl ?_
          try rw [mI_add]
          refine mu_goto (tgt := 4) B dX3_tally_47 (by decide) ?_
          refine mu_to (ih () (by omega) trivial) rfl (by rw [show ((k + 1 : Nat) : Int) = (k : Int) + 1 by omega, sp_am]; first | rw [if_pos (by omega), show ((sp_am C c v k + 1 : Nat) : Int) = (sp_am C c v k : Int) + 1 by omega] | rw [if_neg (by omega), show ((sp_am C c v k + 0 : Nat) : Int) = (sp_am C c v k : Int) + 0 by omega])
  show mu_WA X G 4 _ _ 0 0 0 _ []
  refine mu_iconst (v := mI 0) B dX3_tally_0 rfl ?_
  refine mu_is_2 B dX3_tally_1 (by decide) rfl ?_
  refine mu_iconst (v := mI 0) B dX3_tally_2 rfl ?_
  refine mu_is_3 B dX3_tally_3 (by decide) rfl ?_
  exact LT 0 () (Nat.zero_le _) trivial

set_option maxHeartbeats 4000000 in
set_option maxRecDepth 100000 in
theorem c_X3_scatter (G : mu_G) {w : mu_W} {a : Nat} (ho : CGo w a) {S R C n : Nat} (hf : CGf w a S R C n) (hS : 2 ≤ S ∧ S ≤ 4) (hR : gs_sd R) (hC : gs_sd C) {c : Nat → Nat → Nat} (hb : CGc w a R C c) {seed : Int32} {share : Nat} (hsh : share ≤ 100) : mu_Ct G M_X3_scatter [.ref a, .int seed, .int (mI share)] w (fun r w' => r = some (.int (mI ((sp_fn seed share S (R * C) : Nat) : Int))) ∧ mu_Fi (fun q _ => q = a + 1) w w' ∧ CGc w' a R C (sp_fl seed share S C (R * C) c)) := by
  obtain ⟨ka, r0, k1⟩ := id ho
  obtain ⟨R1, R2, R3⟩ := id hR
  obtain ⟨C1, C2, C3⟩ := id hC
  have hRC : R * C ≤ 256 := Nat.mul_le_mul R2 C2
  refine mu_ofWA G M_X3_scatter [.ref a, .int seed, .int (mI share), mu_no, mu_no, mu_no, mu_no, mu_no] (by decide) rfl (Nat.le_of_ble_eq_true rfl) ?_
  intro X E
  have B : mu_B X G cX3_scatter RX3 8 (mu_rm M_X3_scatter) := E.1
  have LS : ∀ k (s : mu_W), k ≤ R * C → (mu_Fi (fun q _ => q = a + 1) w s ∧ CGc s a R C (sp_fl seed share S C k c)) → mu_WA X G 8 (mu_Q X G M_X3_scatter (fun r w' => r = some (.int (mI ((sp_fn seed share S (R * C) : Nat) : Int))) ∧ mu_Fi (fun q _ => q = a + 1) w w' ∧ CGc w' a R C (sp_fl seed share S C (R * C) c))) s 0 0 23 [.ref a, .int seed, .int (mI share), .int (mI ((S - 1 : Nat) : Int)), .int (sp_t seed k), .int (mI ((sp_fn seed share S k : Nat) : Int)), .int (mI k), mu_no] [] := by
    refine mu_ind (R * C) (fun k (s : mu_W) => mu_WA X G 8 (mu_Q X G M_X3_scatter (fun r w' => r = some (.int (mI ((sp_fn seed share S (R * C) : Nat) : Int))) ∧ mu_Fi (fun q _ => q = a + 1) w w' ∧ CGc w' a R C (sp_fl seed share S C (R * C) c))) s 0 0 23 [.ref a, .int seed, .int (mI share), .int (mI ((S - 1 : Nat) : Int)), .int (sp_t seed k), .int (mI ((sp_fn seed share S k : Nat) : Int)), .int (mI k), mu_no] []) (fun k (s : mu_W) => mu_Fi (fun q _ => q = a + 1) w s ∧ CGc s a R C (sp_fl seed share S C k c)) ?_
    intro k s hk ⟨hFs, hbs⟩ ih
    have hfs := hf.fi hFs (fun j _ _ hh => by omega)
    have kas := hFs.kd ka
    have r0s := hFs.rv r0
    have k1s := hFs.kd k1
    have hfle := sp_fn_le seed share S k
    refine mu_il_6 B dX3_scatter_23 ?_
    refine mu_al_0 B dX3_scatter_25 ?_
    refine mu_getI B dX3_scatter_26 fX3_25 rfl (by assumption) ?_
    rw [hfs.2.1]
    refine mu_al_0 B dX3_scatter_29 ?_
    refine mu_getI B dX3_scatter_30 fX3_28 rfl (by assumption) ?_
    rw [hfs.2.2.1]
    refine mu_imul B dX3_scatter_33 ?_
    try rw [mI_mul]
    try rw [mI_mul]
    rw [im_, Nat.mul_comm C R]
    refine mu_icmp_ge (tgt := 119) B dX3_scatter_34 (by decide) (fun c34 => ?_) (fun c34 => ?_)
    · try rw [mI_le ⟨by omega, by omega⟩ ⟨by omega, by omega⟩] at c34
      try rw [mI_le ⟨by omega, by omega⟩ ⟨by omega, by omega⟩] at c34
      obtain rfl : R * C = k := by omega
      refine mu_il_5 B dX3_scatter_119 ?_
      refine mu_iret E rfl (by decide) (by decide) dX3_scatter_121 ?_
      exact ⟨rfl, hFs, hbs⟩
    · try rw [mI_le ⟨by omega, by omega⟩ ⟨by omega, by omega⟩] at c34
      refine mu_il_6 B dX3_scatter_37 ?_
      refine mu_al_0 B dX3_scatter_39 ?_
      refine mu_getR B dX3_scatter_40 fX3_9 rfl (by assumption) (by assumption) ?_
      refine mu_len (ka := 0) B dX3_scatter_43 (by assumption) (by decide) ?_
      refine mu_icmp_ge (tgt := 119) B dX3_scatter_44 (by decide) (fun c44 => ?_) (fun c44 => ?_)
      · try rw [mI_le ⟨by omega, by omega⟩ ⟨by omega, by omega⟩] at c44
        exfalso
        omega
      · try rw [mI_le ⟨by omega, by omega⟩ ⟨by omega, by omega⟩] at c44
        have K92 : ∀ x : Nat, x = sp_fv seed share S k → mu_WA X G 8 (mu_Q X G M_X3_scatter (fun r w' => r = some (.int (mI ((sp_fn seed share S (R * C) : Nat) : Int))) ∧ mu_Fi (fun q _ => q = a + 1) w w' ∧ CGc w' a R C (sp_fl seed share S C (R * C) c))) s 0 0 92 [.ref a, .int seed, .int (mI share), .int (mI ((S - 1 : Nat) : Int)), .int (sp_t seed (k + 1)), .int (mI ((sp_fn seed share S k : Nat) : Int)), .int (mI k), .int (mI ((sp_u seed k : Nat) : Int))] [.int (mI (x : Int)), .int (mI (k : Int)), .ref (a + 1)] := by
          intro x hx
          have hxl := sp_fv_lt (seed := seed) (share := share) (k := k) hS.1
          have hkk := gs_kk (R := R) (C := C) (k := k) (by omega)
          refine mu_iast B dX3_scatter_92 (by assumption) (mI_inN (by omega) (by decide)) ?_
          rw [mI_clampN (by omega)]
          refine mu_il_5 B dX3_scatter_93 ?_
          refine mu_al_0 B dX3_scatter_95 ?_
          refine mu_getR B dX3_scatter_96 fX3_9 rfl (by exact kas) (by exact r0s) ?_
          refine mu_il_6 B dX3_scatter_99 ?_
          refine mu_iald B dX3_scatter_101 (by exact k1s) (mI_inN (by omega) (by decide)) ?_
          rw [mI_clampN (by omega), mu_iv_same]
          refine mu_if_eq (tgt := 109) B dX3_scatter_102 (by decide) (fun c102 => ?_) (fun c102 => ?_)
          · try rw [mI_eq0 ⟨by omega, by omega⟩] at c102
            refine mu_iconst (v := mI 0) B dX3_scatter_109 rfl ?_
            refine mu_iadd B dX3_scatter_110 ?_
            try rw [mI_add]
            refine mu_is_5 B dX3_scatter_111 (by decide) rfl ?_
            refine mu_inc_6 (c := mI 1) B dX3_scatter_113 rfl (by decide) rfl ?_
            try rw [mI_add]
            refine mu_goto (tgt := 23) B dX3_scatter_116 (by decide) ?_
            refine mu_fg (ih _ (by omega) ⟨hFs.si rfl, ?_⟩) rfl (by rw [show ((k + 1 : Nat) : Int) = (k : Int) + 1 by omega, sp_fn]; first | (rw [if_pos (by omega), show ((sp_fn seed share S k + 0 : Nat) : Int) = (sp_fn seed share S k : Int) + 0 by omega]; exact ⟨Or.inl rfl, Or.inl rfl, Or.inl rfl, Or.inl rfl, Or.inl rfl, Or.inl rfl, Or.inl rfl, Or.inr rfl, trivial⟩) | (rw [if_neg (by omega), show ((sp_fn seed share S k + 1 : Nat) : Int) = (sp_fn seed share S k : Int) + 1 by omega]; exact ⟨Or.inl rfl, Or.inl rfl, Or.inl rfl, Or.inl rfl, Or.inl rfl, Or.inl rfl, Or.inl rfl, Or.inr rfl, trivial⟩))
            have hwr := hbs.wr (i := k / C) (j := k % C) (v := x) hkk.2.1
            rw [hkk.2.2] at hwr
            intro p q hp hq
            rw [hwr p q hp hq]
            congr 2
            unfold cu sp_fl
            by_cases e9 : p = k / C ∧ q = k % C
            · have e8 : C * p + q = k := by rw [e9.1, e9.2]; exact hkk.2.2
              rw [if_pos e9, if_pos (by omega), e8, hx]
            · have e8 : C * p + q ≠ k := fun e7 => e9 (gs_inj hq hkk.2.1 (e7.trans hkk.2.2.symm))
              rw [if_neg e9]
              by_cases e6 : C * p + q < k
              · rw [if_pos e6, if_pos (by omega)]
              · rw [if_neg e6, if_neg (by omega)]
          · try rw [mI_eq0 ⟨by omega, by omega⟩] at c102
            refine mu_iconst (v := mI 1) B dX3_scatter_105 rfl ?_
            refine mu_goto (tgt := 110) B dX3_scatter_106 (by decide) ?_
            refine mu_iadd B dX3_scatter_110 ?_
            try rw [mI_add]
            refine mu_is_5 B dX3_scatter_111 (by decide) rfl ?_
            refine mu_inc_6 (c := mI 1) B dX3_scatter_113 rfl (by decide) rfl ?_
            try rw [mI_add]
            refine mu_goto (tgt := 23) B dX3_scatter_116 (by decide) ?_
            refine mu_fg (ih _ (by omega) ⟨hFs.si rfl, ?_⟩) rfl (by rw [show ((k + 1 : Nat) : Int) = (k : Int) + 1 by omega, sp_fn]; first | (rw [if_pos (by omega), show ((sp_fn seed share S k + 0 : Nat) : Int) = (sp_fn seed share S k : Int) + 0 by omega]; exact ⟨Or.inl rfl, Or.inl rfl, Or.inl rfl, Or.inl rfl, Or.inl rfl, Or.inl rfl, Or.inl rfl, Or.inr rfl, trivial⟩) | (rw [if_neg (by omega), show ((sp_fn seed share S k + 1 : Nat) : Int) = (sp_fn seed share S k : Int) + 1 by omega]; exact ⟨Or.inl rfl, Or.inl rfl, Or.inl rfl, Or.inl rfl, Or.inl rfl, Or.inl rfl, Or.inl rfl, Or.inr rfl, trivial⟩))
            have hwr := hbs.wr (i := k / C) (j := k % C) (v := x) hkk.2.1
            rw [hkk.2.2] at hwr
            intro p q hp hq
            rw [hwr p q hp hq]
            congr 2
            unfold cu sp_fl
            by_cases e9 : p = k / C ∧ q = k % C
            · have e8 : C * p + q = k := by rw [e9.1, e9.2]; exact hkk.2.2
              rw [if_pos e9, if_pos (by omega), e8, hx]
            · have e8 : C * p + q ≠ k := fun e7 => e9 (gs_inj hq hkk.2.1 (e7.trans hkk.2.2.symm))
              rw [if_neg e9]
              by_cases e6 : C * p + q < k
              · rw [if_pos e6, if_pos (by omega)]
              · rw [if_neg e6, if_neg (by omega)]
        have hul := sp_u_lt seed k
        refine mu_il_4 B dX3_scatter_47 ?_
        refine mu_ldc B kX3_48 dX3_scatter_49 ?_
        refine mu_imul B dX3_scatter_51 ?_
        refine mu_ldc B kX3_49 dX3_scatter_52 ?_
        refine mu_iadd B dX3_scatter_54 ?_
        show mu_WA X G 8 _ s 0 0 55 _ [.int (sp_t seed (k + 1))]
        refine mu_is_4 B dX3_scatter_55 (by decide) rfl ?_
        refine mu_il_4 B dX3_scatter_57 ?_
        refine mu_bipush (v := mI 16) B dX3_scatter_59 (by decide) ?_
        refine mu_iushr B dX3_scatter_61 rfl ?_
        rw [sp_u_eq]
        refine mu_is_7 B dX3_scatter_62 (by decide) rfl ?_
        refine mu_al_0 B dX3_scatter_64 ?_
        refine mu_getR B dX3_scatter_65 fX3_9 rfl (by assumption) (by assumption) ?_
        refine mu_il_6 B dX3_scatter_68 ?_
        refine mu_il_7 B dX3_scatter_70 ?_
        refine mu_bipush (v := mI 100) B dX3_scatter_72 (by decide) ?_
        refine mu_irem B dX3_scatter_74 ?_ ?_
        · decide
        rw [mI_rem (by omega) (by omega) (by omega) (by omega)]
        refine mu_il_2 B dX3_scatter_75 ?_
        refine mu_icmp_ge (tgt := 91) B dX3_scatter_76 (by decide) (fun c76 => ?_) (fun c76 => ?_)
        · try rw [mI_le ⟨by omega, by omega⟩ ⟨by omega, by omega⟩] at c76
          refine mu_iconst (v := mI 0) B dX3_scatter_91 rfl ?_
          first
            | exact K92 _ (by unfold sp_fv; rw [if_neg (by omega)])
            | exact K92 0 (by unfold sp_fv; rw [if_pos (by omega)])
        · try rw [mI_le ⟨by omega, by omega⟩ ⟨by omega, by omega⟩] at c76
          refine mu_iconst (v := mI 1) B dX3_scatter_79 rfl ?_
          refine mu_il_7 B dX3_scatter_80 ?_
          refine mu_bipush (v := mI 100) B dX3_scatter_82 (by decide) ?_
          refine mu_idiv B dX3_scatter_84 ?_ ?_
          · decide
          rw [mI_div (by omega) (by omega) (by omega) (by omega)]
          refine mu_il_3 B dX3_scatter_85 ?_
          refine mu_irem B dX3_scatter_86 ?_ ?_
          · exact mu_ne (by omega) (by omega)
          rw [mI_rem (by omega) (by omega) (by omega) (by omega)]
          refine mu_iadd B dX3_scatter_87 ?_
          try rw [mI_add]
          try rw [mI_add]
          rw [show (1 : Int) + ((sp_u seed k : Nat) : Int) / 100 % ((S - 1 : Nat) : Int) = ((1 + sp_u seed k / 100 % (S - 1) : Nat) : Int) by rw [Int.natCast_add, Int.natCast_emod, Int.natCast_ediv]; rfl]
          refine mu_goto (tgt := 92) B dX3_scatter_88 (by decide) ?_
          first
            | exact K92 _ (by unfold sp_fv; rw [if_neg (by omega)])
            | exact K92 0 (by unfold sp_fv; rw [if_pos (by omega)])
  show mu_WA X G 8 _ _ 0 0 0 _ []
  refine mu_al_0 B dX3_scatter_0 ?_
  refine mu_getI B dX3_scatter_1 fX3_22 rfl (by assumption) ?_
  rw [hf.1]
  refine mu_iconst (v := mI 1) B dX3_scatter_4 rfl ?_
  refine mu_isub B dX3_scatter_5 ?_
  try rw [mI_sub]
  try rw [mI_sub]
  rw [show (S : Int) - 1 = ((S - 1 : Nat) : Int) by omega]
  refine mu_is_3 B dX3_scatter_6 (by decide) rfl ?_
  refine mu_il_3 B dX3_scatter_7 ?_
  refine mu_iconst (v := mI 1) B dX3_scatter_8 rfl ?_
  refine mu_icmp_ge (tgt := 14) B dX3_scatter_9 (by decide) (fun c9 => ?_) (fun c9 => ?_)
  · try rw [mI_le ⟨by omega, by omega⟩ ⟨by omega, by omega⟩] at c9
    refine mu_il_1 B dX3_scatter_14 ?_
    refine mu_is_4 B dX3_scatter_15 (by decide) rfl ?_
    refine mu_iconst (v := mI 0) B dX3_scatter_17 rfl ?_
    refine mu_is_5 B dX3_scatter_18 (by decide) rfl ?_
    refine mu_iconst (v := mI 0) B dX3_scatter_20 rfl ?_
    refine mu_is_6 B dX3_scatter_21 (by decide) rfl ?_
    refine LS 0 w (Nat.zero_le _) ⟨mu_Fi.refl _, ?_⟩
    intro p q hp hq
    rw [hb p q hp hq]
    unfold sp_fl
    rw [if_neg (Nat.not_lt_zero _)]
  · try rw [mI_le ⟨by omega, by omega⟩ ⟨by omega, by omega⟩] at c9
    exfalso
    omega
