/-! ===== the class's fields: cells as bits ===== -/
theorem mI_shr6 {z : Int} (h : mi_ok z) : mI z >>> (mI 6 &&& 31) = mI (z / 64) := by
  have := mI_shr z h 6 (by decide)
  rw [show ((6 : Nat) : Int) = 6 from rfl, show (2 : Int) ^ 6 = 64 from rfl] at this
  exact this
def CFo (w : mu_W) (a : Nat) : Prop := mu_kd w a = some (1, 0) ∧ mu_rv w a 0 = some (a + 1) ∧ mu_kd w (a + 1) = some (101, 1024) ∧ mu_rv w a 1 = some (a + 2) ∧ mu_kd w (a + 2) = some (101, 4)
def CFb (w : mu_W) (a : Nat) (c : Nat → Nat → Nat) : Prop := (∀ x y, c x y ≤ 1) ∧ ∀ x y, x < 256 → y < 256 → lb (mu_lg w (a + 1) (4 * y + x / 64)) (x % 64) = decide (c x y = 1)
theorem CFo.fi {S : Nat → Nat → Prop} {w w' : mu_W} {a : Nat} (h : CFo w a) (hF : mu_Fi S w w') : CFo w' a := ⟨hF.kd h.1, hF.rv h.2.1, hF.kd h.2.2.1, hF.rv h.2.2.2.1, hF.kd h.2.2.2.2⟩
theorem CFb.fi {S : Nat → Nat → Prop} {w w' : mu_W} {a : Nat} {c : Nat → Nat → Nat} (h : CFb w a c) (hF : mu_Fi S w w') (hn : ∀ j, ¬ S (a + 1) j) : CFb w' a c := ⟨h.1, fun x y hx hy => by rw [hF.lg (hn _) rfl]; exact h.2 x y hx hy⟩
theorem al_in {c : Nat → Nat → Nat} {x y : Nat} (hx : x < 256) (hy : y < 256) : sp_al 256 256 c (x : Int) (y : Int) = c x y := by
  unfold sp_al
  rw [if_pos ⟨by omega, by omega, by omega, by omega⟩, Int.toNat_natCast, Int.toNat_natCast]
theorem al_out {c : Nat → Nat → Nat} {x y : Int} (h : ¬ (0 ≤ x ∧ x < 256 ∧ 0 ≤ y ∧ y < 256)) : sp_al 256 256 c x y = 0 := by
  unfold sp_al
  rw [if_neg (fun q => h ⟨q.1, by omega, q.2.1, by omega⟩)]

set_option maxHeartbeats 4000000 in
set_option maxRecDepth 100000 in
theorem c_X1_isWithin (G : mu_G) {w : mu_W} {x y : Int} (hx : mi_ok x) (hy : mi_ok y) : mu_Ct G M_X1_isWithin [.int (mI x), .int (mI y)] w (fun r w' => r = some (.int (if 0 ≤ x ∧ x < 256 ∧ 0 ≤ y ∧ y < 256 then mI 1 else mI 0)) ∧ w' = w) := by
  obtain ⟨hx1, hx2⟩ := hx
  obtain ⟨hy1, hy2⟩ := hy
  refine mu_ofWA G M_X1_isWithin [.int (mI x), .int (mI y)] (by decide) rfl (Nat.le_of_ble_eq_true rfl) ?_
  intro X E
  have B : mu_B X G cX1_isWithin RX1 2 (mu_rm M_X1_isWithin) := E.1
  show mu_WA X G 2 _ _ 0 0 0 _ []
  refine mu_il_0 B dX1_isWithin_0 ?_
  refine mu_if_lt (tgt := 26) B dX1_isWithin_1 (by decide) (fun c1 => ?_) (fun c1 => ?_)
  · try rw [mI_lt0 ⟨by omega, by omega⟩] at c1
    refine mu_iconst (v := mI 0) B dX1_isWithin_26 rfl ?_
    refine mu_zret E rfl (by decide) (by decide) dX1_isWithin_27 (by decide) ?_
    refine ⟨?_, rfl⟩
    first | rw [if_pos (by omega)] | rw [if_neg (by omega)]
  · try rw [mI_lt0 ⟨by omega, by omega⟩] at c1
    refine mu_il_0 B dX1_isWithin_4 ?_
    refine mu_sipush (v := mI 256) B dX1_isWithin_5 (by decide) ?_
    refine mu_icmp_ge (tgt := 26) B dX1_isWithin_8 (by decide) (fun c8 => ?_) (fun c8 => ?_)
    · try rw [mI_le ⟨by omega, by omega⟩ ⟨by omega, by omega⟩] at c8
      refine mu_iconst (v := mI 0) B dX1_isWithin_26 rfl ?_
      refine mu_zret E rfl (by decide) (by decide) dX1_isWithin_27 (by decide) ?_
      refine ⟨?_, rfl⟩
      first | rw [if_pos (by omega)] | rw [if_neg (by omega)]
    · try rw [mI_le ⟨by omega, by omega⟩ ⟨by omega, by omega⟩] at c8
      refine mu_il_1 B dX1_isWithin_11 ?_
      refine mu_if_lt (tgt := 26) B dX1_isWithin_12 (by decide) (fun c12 => ?_) (fun c12 => ?_)
      · try rw [mI_lt0 ⟨by omega, by omega⟩] at c12
        refine mu_iconst (v := mI 0) B dX1_isWithin_26 rfl ?_
        refine mu_zret E rfl (by decide) (by decide) dX1_isWithin_27 (by decide) ?_
        refine ⟨?_, rfl⟩
        first | rw [if_pos (by omega)] | rw [if_neg (by omega)]
      · try rw [mI_lt0 ⟨by omega, by omega⟩] at c12
        refine mu_il_1 B dX1_isWithin_15 ?_
        refine mu_sipush (v := mI 256) B dX1_isWithin_16 (by decide) ?_
        refine mu_icmp_ge (tgt := 26) B dX1_isWithin_19 (by decide) (fun c19 => ?_) (fun c19 => ?_)
        · try rw [mI_le ⟨by omega, by omega⟩ ⟨by omega, by omega⟩] at c19
          refine mu_iconst (v := mI 0) B dX1_isWithin_26 rfl ?_
          refine mu_zret E rfl (by decide) (by decide) dX1_isWithin_27 (by decide) ?_
          refine ⟨?_, rfl⟩
          first | rw [if_pos (by omega)] | rw [if_neg (by omega)]
        · try rw [mI_le ⟨by omega, by omega⟩ ⟨by omega, by omega⟩] at c19
          refine mu_iconst (v := mI 1) B dX1_isWithin_22 rfl ?_
          refine mu_goto (tgt := 27) B dX1_isWithin_23 (by decide) ?_
          refine mu_zret E rfl (by decide) (by decide) dX1_isWithin_27 (by decide) ?_
          refine ⟨?_, rfl⟩
          first | rw [if_pos (by omega)] | rw [if_neg (by omega)]

set_option maxHeartbeats 4000000 in
set_option maxRecDepth 100000 in
theorem c_X1_look (G : mu_G) {w : mu_W} {a : Nat} (ho : CFo w a) {c : Nat → Nat → Nat} (hb : CFb w a c) {x y : Int} (hx : mi_ok x) (hy : mi_ok y) : mu_Ct G M_X1_look [.ref a, .int (mI x), .int (mI y)] w (fun r w' => r = some (.int (mI (sp_al 256 256 c x y : Nat))) ∧ w' = w) := by
  obtain ⟨ka, r0, k1, r1, k2⟩ := id ho
  obtain ⟨hx1, hx2⟩ := id hx
  obtain ⟨hy1, hy2⟩ := id hy
  refine mu_ofWA G M_X1_look [.ref a, .int (mI x), .int (mI y)] (by decide) rfl (Nat.le_of_ble_eq_true rfl) ?_
  intro X E
  have B : mu_B X G cX1_look RX1 3 (mu_rm M_X1_look) := E.1
  show mu_WA X G 3 _ _ 0 0 0 _ []
  refine mu_il_1 B dX1_look_0 ?_
  refine mu_il_2 B dX1_look_1 ?_
  refine mu_eS2 B dX1_look_2 mX1_61 ⟨⟨by decide, by decide⟩, by decide, by decide⟩ (Nat.le_of_ble_eq_true rfl) (c_X1_isWithin G hx hy) ?_
  refine mu_if_eq (tgt := 32) B dX1_look_5 (by decide) (fun c5 => ?_) (fun c5 => ?_)
  · have z5 := mu_bf c5
    refine mu_iconst (v := mI 0) B dX1_look_32 rfl ?_
    refine mu_iret E rfl (by decide) (by decide) dX1_look_33 ?_
    first
      | rw [al_out z5]; exact ⟨rfl, rfl⟩
      | rw [al_in (by omega) (by omega)]
        refine ⟨?_, rfl⟩
        have h1 := hb.1 p q
        by_cases e9 : c p q = 1
        · rw [if_pos (by rw [e9]; rfl), e9]; rfl
        · rw [if_neg (by simp [e9]), show c p q = 0 by omega]; rfl
  · have z5 := mu_bt c5
    obtain ⟨p, hp⟩ : ∃ p : Nat, x = p := ⟨x.toNat, by omega⟩
    subst hp
    obtain ⟨q, hq⟩ : ∃ q : Nat, y = q := ⟨y.toNat, by omega⟩
    subst hq
    refine mu_al_0 B dX1_look_8 ?_
    refine mu_getR B dX1_look_9 fX1_9 rfl (by assumption) (by assumption) ?_
    refine mu_il_2 B dX1_look_12 ?_
    refine mu_iconst (v := mI 4) B dX1_look_13 rfl ?_
    refine mu_imul B dX1_look_14 ?_
    try rw [mI_mul]
    refine mu_il_1 B dX1_look_15 ?_
    refine mu_bipush (v := mI 6) B dX1_look_16 (by decide) ?_
    refine mu_ishr B dX1_look_18 ?_
    rw [mI_shr6 ⟨by omega, by omega⟩]
    rw [show (p : Int) / 64 = ((p / 64 : Nat) : Int) by omega]
    refine mu_iadd B dX1_look_19 ?_
    try rw [mI_add]
    try rw [mI_add]
    rw [show (q : Int) * 4 + ((p / 64 : Nat) : Int) = ((4 * q + p / 64 : Nat) : Int) by omega]
    refine mu_lald B dX1_look_20 (by assumption) (mI_inN (by omega) (by decide)) ?_
    rw [mI_clampN (by omega)]
    refine mu_il_1 B dX1_look_21 ?_
    refine mu_bipush (v := mI 63) B dX1_look_22 (by decide) ?_
    refine mu_iand B dX1_look_24 ?_
    rw [mI_and _ (m := mI 63) 6 (by decide) (by decide)]
    rw [show (p : Int) % 2 ^ 6 = ((p % 64 : Nat) : Int) by omega]
    refine mu_lushr B dX1_look_25 rfl ?_
    refine mu_l2i B dX1_look_26 rfl ?_
    refine mu_iconst (v := mI 1) B dX1_look_27 rfl ?_
    refine mu_iand B dX1_look_28 ?_
    rw [lb_l2i, lb_ush _ (by omega), Nat.add_zero (p % 64), hb.2 p q (by omega) (by omega)]
    refine mu_goto (tgt := 33) B dX1_look_29 (by decide) ?_
    refine mu_iret E rfl (by decide) (by decide) dX1_look_33 ?_
    first
      | rw [al_out z5]; exact ⟨rfl, rfl⟩
      | rw [al_in (by omega) (by omega)]
        refine ⟨?_, rfl⟩
        have h1 := hb.1 p q
        by_cases e9 : c p q = 1
        · rw [if_pos (by rw [e9]; rfl), e9]; rfl
        · rw [if_neg (by simp [e9]), show c p q = 0 by omega]; rfl

set_option maxHeartbeats 4000000 in
set_option maxRecDepth 100000 in
theorem c_X1_write (G : mu_G) {w : mu_W} {a : Nat} (ho : CFo w a) {c : Nat → Nat → Nat} (hb : CFb w a c) {p q v : Nat} (hp : p < 256) (hq : q < 256) (hv : v ≤ 1) : mu_Ct G M_X1_write [.ref a, .int (mI p), .int (mI q), .int (mI v)] w (fun r w' => r = none ∧ mu_Fi (fun e _ => e = a + 1) w w' ∧ CFb w' a (cu c p q v)) := by
  obtain ⟨ka, r0, k1, r1, k2⟩ := id ho
  refine mu_ofWA G M_X1_write [.ref a, .int (mI p), .int (mI q), .int (mI v)] (by decide) rfl (Nat.le_of_ble_eq_true rfl) ?_
  intro X E
  have B : mu_B X G cX1_write RX1 4 (mu_rm M_X1_write) := E.1
  show mu_WA X G 4 _ _ 0 0 0 _ []
  refine mu_il_1 B dX1_write_0 ?_
  refine mu_il_2 B dX1_write_1 ?_
  refine mu_eS2 B dX1_write_2 mX1_61 ⟨⟨by decide, by decide⟩, by decide, by decide⟩ (Nat.le_of_ble_eq_true rfl) (c_X1_isWithin G (x := (p : Int)) (y := (q : Int)) ⟨by omega, by omega⟩ ⟨by omega, by omega⟩) ?_
  refine mu_if_eq (tgt := 40) B dX1_write_5 (by decide) (fun c5 => ?_) (fun c5 => ?_)
  · have z5 := mu_bf c5
    exact absurd (by omega) (mu_bf c5)
  · have z5 := mu_bt c5
    refine mu_al_0 B dX1_write_8 ?_
    refine mu_il_1 B dX1_write_9 ?_
    refine mu_il_2 B dX1_write_10 ?_
    refine mu_eV2 B dX1_write_11 mX1_65 ⟨⟨by decide, by decide⟩, by decide, by decide⟩ (Nat.le_of_ble_eq_true rfl) (by assumption) (c_X1_look G ho hb (x := (p : Int)) (y := (q : Int)) ⟨by omega, by omega⟩ ⟨by omega, by omega⟩) ?_
    rw [al_in hp hq]
    have hc1 := hb.1 p q
    refine mu_il_3 B dX1_write_14 ?_
    refine mu_icmp_eq (tgt := 40) B dX1_write_15 (by decide) (fun c15 => ?_) (fun c15 => ?_)
    · try rw [mI_eq ⟨by omega, by omega⟩ ⟨by omega, by omega⟩] at c15
      refine mu_vret E rfl (by decide) (by decide) dX1_write_40 ?_
      first
        | refine ⟨rfl, mu_Fi.refl _, fun i j => ?_, fun i j hi hj => ?_⟩
          · exact Nat.le_of_lt_succ (cu_lt (fun i j => Nat.lt_succ_of_le (hb.1 i j)) (Nat.lt_succ_of_le hv) i j)
          · rw [hb.2 i j hi hj]; unfold cu; by_cases e9 : i = p ∧ j = q
            · rw [if_pos e9, e9.1, e9.2, show c p q = v by omega]
            · rw [if_neg e9]
        | refine ⟨rfl, (mu_Fi.refl _).sl rfl, fun i j => ?_, fun i j hi hj => ?_⟩
          · exact Nat.le_of_lt_succ (cu_lt (fun i j => Nat.lt_succ_of_le (hb.1 i j)) (Nat.lt_succ_of_le hv) i j)
          · unfold cu
            by_cases e8 : 4 * j + i / 64 = 4 * q + p / 64
            · rw [e8, mu_lg_same, lb_xor, lb_shl _ (by omega) (by omega), lb_1 _ (by omega)]
              have h3 := hb.2 i j hi hj
              rw [e8] at h3
              rw [h3]
              by_cases e9 : i = p ∧ j = q
              · rw [if_pos e9, e9.1, e9.2]
                rcases (show (c p q = 0 ∧ v = 1) ∨ (c p q = 1 ∧ v = 0) by omega) with ⟨g1, g2⟩ | ⟨g1, g2⟩
                · rw [g1, g2]; simp
                · rw [g1, g2]; simp
              · rw [if_neg e9]
                have h5 : ¬ i % 64 = p % 64 := fun h6 => e9 ⟨by omega, by omega⟩
                by_cases h6 : p % 64 ≤ i % 64
                · simp [h6, show ¬ i % 64 - p % 64 = 0 by omega]
                · simp [h6]
            · rw [mu_lg_oth _ _ (by omega), if_neg (by omega)]; exact hb.2 i j hi hj
    · try rw [mI_eq ⟨by omega, by omega⟩ ⟨by omega, by omega⟩] at c15
      refine mu_al_0 B dX1_write_18 ?_
      refine mu_getR B dX1_write_19 fX1_9 rfl (by assumption) (by assumption) ?_
      refine mu_il_2 B dX1_write_22 ?_
      refine mu_iconst (v := mI 4) B dX1_write_23 rfl ?_
      refine mu_imul B dX1_write_24 ?_
      try rw [mI_mul]
      refine mu_il_1 B dX1_write_25 ?_
      refine mu_bipush (v := mI 6) B dX1_write_26 (by decide) ?_
      refine mu_ishr B dX1_write_28 ?_
      rw [mI_shr6 ⟨by omega, by omega⟩]
      rw [show (p : Int) / 64 = ((p / 64 : Nat) : Int) by omega]
      refine mu_iadd B dX1_write_29 ?_
      try rw [mI_add]
      try rw [mI_add]
      rw [show (q : Int) * 4 + ((p / 64 : Nat) : Int) = ((4 * q + p / 64 : Nat) : Int) by omega]
      refine mu_dup2_11 B dX1_write_30 rfl rfl ?_
      refine mu_lald B dX1_write_31 (by assumption) (mI_inN (by omega) (by decide)) ?_
      rw [mI_clampN (by omega)]
      refine mu_lconst (v := mL 1) B dX1_write_32 rfl ?_
      refine mu_il_1 B dX1_write_33 ?_
      refine mu_bipush (v := mI 63) B dX1_write_34 (by decide) ?_
      refine mu_iand B dX1_write_36 ?_
      rw [mI_and _ (m := mI 63) 6 (by decide) (by decide)]
      rw [show (p : Int) % 2 ^ 6 = ((p % 64 : Nat) : Int) by omega]
      refine mu_lshl B dX1_write_37 rfl ?_
      refine mu_lxor B dX1_write_38 ?_
      refine mu_last B dX1_write_39 (by assumption) (mI_inN (by omega) (by decide)) ?_
      rw [mI_clampN (by omega)]
      refine mu_vret E rfl (by decide) (by decide) dX1_write_40 ?_
      first
        | refine ⟨rfl, mu_Fi.refl _, fun i j => ?_, fun i j hi hj => ?_⟩
          · exact Nat.le_of_lt_succ (cu_lt (fun i j => Nat.lt_succ_of_le (hb.1 i j)) (Nat.lt_succ_of_le hv) i j)
          · rw [hb.2 i j hi hj]; unfold cu; by_cases e9 : i = p ∧ j = q
            · rw [if_pos e9, e9.1, e9.2, show c p q = v by omega]
            · rw [if_neg e9]
        | refine ⟨rfl, (mu_Fi.refl _).sl rfl, fun i j => ?_, fun i j hi hj => ?_⟩
          · exact Nat.le_of_lt_succ (cu_lt (fun i j => Nat.lt_succ_of_le (hb.1 i j)) (Nat.lt_succ_of_le hv) i j)
          · unfold cu
            by_cases e8 : 4 * j + i / 64 = 4 * q + p / 64
            · rw [e8, mu_lg_same, lb_xor, lb_shl _ (by omega) (by omega), lb_1 _ (by omega)]
              have h3 := hb.2 i j hi hj
              rw [e8] at h3
              rw [h3]
              by_cases e9 : i = p ∧ j = q
              · rw [if_pos e9, e9.1, e9.2]
                rcases (show (c p q = 0 ∧ v = 1) ∨ (c p q = 1 ∧ v = 0) by omega) with ⟨g1, g2⟩ | ⟨g1, g2⟩
                · rw [g1, g2]; simp
                · rw [g1, g2]; simp
              · rw [if_neg e9]
                have h5 : ¬ i % 64 = p % 64 := fun h6 => e9 ⟨by omega, by omega⟩
                by_cases h6 : p % 64 ≤ i % 64
                · simp [h6, show ¬ i % 64 - p % 64 = 0 by omega]
                · simp [h6]
            · rw [mu_lg_oth _ _ (by omega), if_neg (by omega)]; exact hb.2 i j hi hj

/-- a word of 64 cells from x on, in row y -/
def WDx (c : Nat → Nat → Nat) (x y : Int) (d : Int64) : Prop := ∀ i, i < 64 → lb d i = decide (sp_al 256 256 c (x + i) y = 1)
theorem WDx.uniq {c : Nat → Nat → Nat} {x y : Int} {d d' : Int64} (h : WDx c x y d) (h' : WDx c x y d') : d = d' := lb_ext (fun i hi => (h i hi).trans (h' i hi).symm)

set_option maxHeartbeats 4000000 in
set_option maxRecDepth 100000 in
theorem c_X1_wordAt (G : mu_G) {w : mu_W} {a : Nat} (ho : CFo w a) {c : Nat → Nat → Nat} (hb : CFb w a c) {y z : Int} (hy : mi_ok y) (hz : -1000 ≤ z ∧ z ≤ 1000) : mu_Ct G M_X1_wordAt [.ref a, .int (mI y), .int (mI z)] w (fun r w' => (∃ d, r = some (.long d) ∧ WDx c (64 * z) y d) ∧ w' = w) := by
  obtain ⟨ka, r0, k1, r1, k2⟩ := id ho
  obtain ⟨hy1, hy2⟩ := hy
  refine mu_ofWA G M_X1_wordAt [.ref a, .int (mI y), .int (mI z)] (by decide) rfl (Nat.le_of_ble_eq_true rfl) ?_
  intro X E
  have B : mu_B X G cX1_wordAt RX1 3 (mu_rm M_X1_wordAt) := E.1
  show mu_WA X G 3 _ _ 0 0 0 _ []
  refine mu_il_1 B dX1_wordAt_0 ?_
  refine mu_if_lt (tgt := 33) B dX1_wordAt_1 (by decide) (fun c1 => ?_) (fun c1 => ?_)
  · try rw [mI_lt0 ⟨by omega, by omega⟩] at c1
    refine mu_lconst (v := mL 0) B dX1_wordAt_33 rfl ?_
    refine mu_lret E rfl (by decide) (by decide) dX1_wordAt_34 ?_
    first
      | refine ⟨⟨_, rfl, fun i hi => ?_⟩, rfl⟩
        have h3 := hb.2 (64 * k + i) q (by omega) (by omega)
        rw [show (64 * k + i) / 64 = k by omega, show (64 * k + i) % 64 = i by omega] at h3
        rw [h3, show (64 : Int) * (k : Int) + (i : Int) = ((64 * k + i : Nat) : Int) by omega, al_in (by omega) (by omega)]
      | refine ⟨⟨_, rfl, fun i hi => ?_⟩, rfl⟩
        rw [al_out (by omega)]
        exact (lb_0 i).trans (by decide)
  · try rw [mI_lt0 ⟨by omega, by omega⟩] at c1
    refine mu_il_1 B dX1_wordAt_4 ?_
    refine mu_sipush (v := mI 256) B dX1_wordAt_5 (by decide) ?_
    refine mu_icmp_ge (tgt := 33) B dX1_wordAt_8 (by decide) (fun c8 => ?_) (fun c8 => ?_)
    · try rw [mI_le ⟨by omega, by omega⟩ ⟨by omega, by omega⟩] at c8
      refine mu_lconst (v := mL 0) B dX1_wordAt_33 rfl ?_
      refine mu_lret E rfl (by decide) (by decide) dX1_wordAt_34 ?_
      first
        | refine ⟨⟨_, rfl, fun i hi => ?_⟩, rfl⟩
          have h3 := hb.2 (64 * k + i) q (by omega) (by omega)
          rw [show (64 * k + i) / 64 = k by omega, show (64 * k + i) % 64 = i by omega] at h3
          rw [h3, show (64 : Int) * (k : Int) + (i : Int) = ((64 * k + i : Nat) : Int) by omega, al_in (by omega) (by omega)]
        | refine ⟨⟨_, rfl, fun i hi => ?_⟩, rfl⟩
          rw [al_out (by omega)]
          exact (lb_0 i).trans (by decide)
    · try rw [mI_le ⟨by omega, by omega⟩ ⟨by omega, by omega⟩] at c8
      refine mu_il_2 B dX1_wordAt_11 ?_
      refine mu_if_lt (tgt := 33) B dX1_wordAt_12 (by decide) (fun c12 => ?_) (fun c12 => ?_)
      · try rw [mI_lt0 ⟨by omega, by omega⟩] at c12
        refine mu_lconst (v := mL 0) B dX1_wordAt_33 rfl ?_
        refine mu_lret E rfl (by decide) (by decide) dX1_wordAt_34 ?_
        first
          | refine ⟨⟨_, rfl, fun i hi => ?_⟩, rfl⟩
            have h3 := hb.2 (64 * k + i) q (by omega) (by omega)
            rw [show (64 * k + i) / 64 = k by omega, show (64 * k + i) % 64 = i by omega] at h3
            rw [h3, show (64 : Int) * (k : Int) + (i : Int) = ((64 * k + i : Nat) : Int) by omega, al_in (by omega) (by omega)]
          | refine ⟨⟨_, rfl, fun i hi => ?_⟩, rfl⟩
            rw [al_out (by omega)]
            exact (lb_0 i).trans (by decide)
      · try rw [mI_lt0 ⟨by omega, by omega⟩] at c12
        refine mu_il_2 B dX1_wordAt_15 ?_
        refine mu_iconst (v := mI 4) B dX1_wordAt_16 rfl ?_
        refine mu_icmp_ge (tgt := 33) B dX1_wordAt_17 (by decide) (fun c17 => ?_) (fun c17 => ?_)
        · try rw [mI_le ⟨by omega, by omega⟩ ⟨by omega, by omega⟩] at c17
          refine mu_lconst (v := mL 0) B dX1_wordAt_33 rfl ?_
          refine mu_lret E rfl (by decide) (by decide) dX1_wordAt_34 ?_
          first
            | refine ⟨⟨_, rfl, fun i hi => ?_⟩, rfl⟩
              have h3 := hb.2 (64 * k + i) q (by omega) (by omega)
              rw [show (64 * k + i) / 64 = k by omega, show (64 * k + i) % 64 = i by omega] at h3
              rw [h3, show (64 : Int) * (k : Int) + (i : Int) = ((64 * k + i : Nat) : Int) by omega, al_in (by omega) (by omega)]
            | refine ⟨⟨_, rfl, fun i hi => ?_⟩, rfl⟩
              rw [al_out (by omega)]
              exact (lb_0 i).trans (by decide)
        · try rw [mI_le ⟨by omega, by omega⟩ ⟨by omega, by omega⟩] at c17
          obtain ⟨q, hq⟩ : ∃ q : Nat, y = q := ⟨y.toNat, by omega⟩
          subst hq
          obtain ⟨k, hk⟩ : ∃ k : Nat, z = k := ⟨z.toNat, by omega⟩
          subst hk
          refine mu_al_0 B dX1_wordAt_20 ?_
          refine mu_getR B dX1_wordAt_21 fX1_9 rfl (by assumption) (by assumption) ?_
          refine mu_il_1 B dX1_wordAt_24 ?_
          refine mu_iconst (v := mI 4) B dX1_wordAt_25 rfl ?_
          refine mu_imul B dX1_wordAt_26 ?_
          try rw [mI_mul]
          refine mu_il_2 B dX1_wordAt_27 ?_
          refine mu_iadd B dX1_wordAt_28 ?_
          try rw [mI_add]
          try rw [mI_add]
          rw [show (q : Int) * 4 + (k : Int) = ((4 * q + k : Nat) : Int) by omega]
          refine mu_lald B dX1_wordAt_29 (by assumption) (mI_inN (by omega) (by decide)) ?_
          rw [mI_clampN (by omega)]
          refine mu_goto (tgt := 34) B dX1_wordAt_30 (by decide) ?_
          refine mu_lret E rfl (by decide) (by decide) dX1_wordAt_34 ?_
          first
            | refine ⟨⟨_, rfl, fun i hi => ?_⟩, rfl⟩
              have h3 := hb.2 (64 * k + i) q (by omega) (by omega)
              rw [show (64 * k + i) / 64 = k by omega, show (64 * k + i) % 64 = i by omega] at h3
              rw [h3, show (64 : Int) * (k : Int) + (i : Int) = ((64 * k + i : Nat) : Int) by omega, al_in (by omega) (by omega)]
            | refine ⟨⟨_, rfl, fun i hi => ?_⟩, rfl⟩
              rw [al_out (by omega)]
              exact (lb_0 i).trans (by decide)

def cw (c : Nat → Nat → Nat) (y z : Nat) (d : Int64) : Nat → Nat → Nat := fun i j => if j = y ∧ i / 64 = z then (if lb d (i % 64) = true then 1 else 0) else c i j
theorem cw_le {c : Nat → Nat → Nat} {y z : Nat} {d : Int64} (hc : ∀ i j, c i j ≤ 1) (i j : Nat) : cw c y z d i j ≤ 1 := by
  unfold cw
  by_cases h : j = y ∧ i / 64 = z
  · rw [if_pos h]; split <;> omega
  · rw [if_neg h]; exact hc i j

set_option maxHeartbeats 4000000 in
set_option maxRecDepth 100000 in
theorem c_X1_setWord (G : mu_G) {w : mu_W} {a : Nat} (ho : CFo w a) {c : Nat → Nat → Nat} (hb : CFb w a c) {y z : Nat} (hy : y < 256) (hz : z < 4) {d : Int64} : mu_Ct G M_X1_setWord [.ref a, .int (mI y), .int (mI z), .long d] w (fun r w' => r = none ∧ mu_Fi (fun e _ => e = a + 1) w w' ∧ CFb w' a (cw c y z d)) := by
  obtain ⟨ka, r0, k1, r1, k2⟩ := id ho
  refine mu_ofWA G M_X1_setWord [.ref a, .int (mI y), .int (mI z), .long d, mu_no] (by decide) rfl (Nat.le_of_ble_eq_true rfl) ?_
  intro X E
  have B : mu_B X G cX1_setWord RX1 5 (mu_rm M_X1_setWord) := E.1
  show mu_WA X G 5 _ _ 0 0 0 _ []
  refine mu_il_1 B dX1_setWord_0 ?_
  refine mu_if_lt (tgt := 31) B dX1_setWord_1 (by decide) (fun c1 => ?_) (fun c1 => ?_)
  · try rw [mI_lt0 ⟨by omega, by omega⟩] at c1
    exfalso
    omega
  · try rw [mI_lt0 ⟨by omega, by omega⟩] at c1
    refine mu_il_1 B dX1_setWord_4 ?_
    refine mu_sipush (v := mI 256) B dX1_setWord_5 (by decide) ?_
    refine mu_icmp_ge (tgt := 31) B dX1_setWord_8 (by decide) (fun c8 => ?_) (fun c8 => ?_)
    · try rw [mI_le ⟨by omega, by omega⟩ ⟨by omega, by omega⟩] at c8
      exfalso
      omega
    · try rw [mI_le ⟨by omega, by omega⟩ ⟨by omega, by omega⟩] at c8
      refine mu_il_2 B dX1_setWord_11 ?_
      refine mu_if_lt (tgt := 31) B dX1_setWord_12 (by decide) (fun c12 => ?_) (fun c12 => ?_)
      · try rw [mI_lt0 ⟨by omega, by omega⟩] at c12
        exfalso
        omega
      · try rw [mI_lt0 ⟨by omega, by omega⟩] at c12
        refine mu_il_2 B dX1_setWord_15 ?_
        refine mu_iconst (v := mI 4) B dX1_setWord_16 rfl ?_
        refine mu_icmp_ge (tgt := 31) B dX1_setWord_17 (by decide) (fun c17 => ?_) (fun c17 => ?_)
        · try rw [mI_le ⟨by omega, by omega⟩ ⟨by omega, by omega⟩] at c17
          exfalso
          omega
        · try rw [mI_le ⟨by omega, by omega⟩ ⟨by omega, by omega⟩] at c17
          refine mu_al_0 B dX1_setWord_20 ?_
          refine mu_getR B dX1_setWord_21 fX1_9 rfl (by assumption) (by assumption) ?_
          refine mu_il_1 B dX1_setWord_24 ?_
          refine mu_iconst (v := mI 4) B dX1_setWord_25 rfl ?_
          refine mu_imul B dX1_setWord_26 ?_
          try rw [mI_mul]
          refine mu_il_2 B dX1_setWord_27 ?_
          refine mu_iadd B dX1_setWord_28 ?_
          try rw [mI_add]
          try rw [mI_add]
          rw [show (y : Int) * 4 + (z : Int) = ((4 * y + z : Nat) : Int) by omega]
          refine mu_ll_3 B dX1_setWord_29 ?_
          refine mu_last B dX1_setWord_30 (by assumption) (mI_inN (by omega) (by decide)) ?_
          rw [mI_clampN (by omega)]
          refine mu_vret E rfl (by decide) (by decide) dX1_setWord_31 ?_
          refine ⟨rfl, (mu_Fi.refl _).sl rfl, cw_le hb.1, fun i j hi hj => ?_⟩
          unfold cw
          by_cases e9 : j = y ∧ i / 64 = z
          · rw [if_pos e9, e9.1, e9.2, mu_lg_same]
            by_cases e8 : lb d (i % 64) = true
            · rw [if_pos e8, e8]; rfl
            · rw [if_neg e8, Bool.eq_false_iff.mpr e8]; rfl
          · rw [if_neg e9, mu_lg_oth _ _ (by omega)]; exact hb.2 i j hi hj

set_option maxHeartbeats 4000000 in
set_option maxRecDepth 100000 in
theorem c_X1_window (G : mu_G) {w : mu_W} {a : Nat} (ho : CFo w a) {c : Nat → Nat → Nat} (hb : CFb w a c) {p : Nat} (hp : p ≤ 10000) {y : Int} (hy : mi_ok y) : mu_Ct G M_X1_window [.ref a, .int (mI p), .int (mI y)] w (fun r w' => (∃ d, r = some (.long d) ∧ WDx c p y d) ∧ w' = w) := by
  obtain ⟨ka, r0, k1, r1, k2⟩ := id ho
  refine mu_ofWA G M_X1_window [.ref a, .int (mI p), .int (mI y), mu_no, mu_no, mu_no, mu_no] (by decide) rfl (Nat.le_of_ble_eq_true rfl) ?_
  intro X E
  have B : mu_B X G cX1_window RX1 7 (mu_rm M_X1_window) := E.1
  show mu_WA X G 7 _ _ 0 0 0 _ []
  refine mu_il_1 B dX1_window_0 ?_
  refine mu_bipush (v := mI 6) B dX1_window_1 (by decide) ?_
  refine mu_ishr B dX1_window_3 ?_
  rw [mI_shr6 ⟨by omega, by omega⟩]
  rw [show (p : Int) / 64 = ((p / 64 : Nat) : Int) by omega]
  refine mu_is_3 B dX1_window_4 (by decide) rfl ?_
  refine mu_il_1 B dX1_window_5 ?_
  refine mu_bipush (v := mI 63) B dX1_window_6 (by decide) ?_
  refine mu_iand B dX1_window_8 ?_
  rw [mI_and _ (m := mI 63) 6 (by decide) (by decide)]
  rw [show (p : Int) % 2 ^ 6 = ((p % 64 : Nat) : Int) by omega]
  refine mu_is_4 B dX1_window_9 (by decide) rfl ?_
  refine mu_al_0 B dX1_window_11 ?_
  refine mu_il_2 B dX1_window_12 ?_
  refine mu_il_3 B dX1_window_13 ?_
  refine mu_cV2 B dX1_window_14 mX1_81 ⟨⟨by decide, by decide⟩, by decide, by decide⟩ (Nat.le_of_ble_eq_true rfl) (by assumption) (c_X1_wordAt G ho hb (y := y) (z := ((p / 64 : Nat) : Int)) hy (by omega)) (fun r14 w14 q14 => ?_)
  obtain ⟨⟨d1, rfl, hd1⟩, rfl⟩ := q14
  show mu_WA X G 7 _ _ 0 0 17 _ [.long d1]
  refine mu_il_4 B dX1_window_17 ?_
  refine mu_lushr B dX1_window_19 rfl ?_
  refine mu_ls_5 B dX1_window_20 (by decide) rfl ?_
  refine mu_il_4 B dX1_window_22 ?_
  refine mu_if_ne (tgt := 32) B dX1_window_24 (by decide) (fun c24 => ?_) (fun c24 => ?_)
  · try rw [mI_eq0 ⟨by omega, by omega⟩] at c24
    refine mu_ll_5 B dX1_window_32 ?_
    refine mu_al_0 B dX1_window_34 ?_
    refine mu_il_2 B dX1_window_35 ?_
    refine mu_il_3 B dX1_window_36 ?_
    refine mu_iconst (v := mI 1) B dX1_window_37 rfl ?_
    refine mu_iadd B dX1_window_38 ?_
    try rw [mI_add]
    refine mu_cV2 B dX1_window_39 mX1_81 ⟨⟨by decide, by decide⟩, by decide, by decide⟩ (Nat.le_of_ble_eq_true rfl) (by assumption) (c_X1_wordAt G ho hb (y := y) (z := ((p / 64 : Nat) : Int) + 1) hy (by omega)) (fun r39 w39 q39 => ?_)
    obtain ⟨⟨d2, rfl, hd2⟩, rfl⟩ := q39
    show mu_WA X G 7 _ _ 0 0 42 _ [.long d2, .long _]
    refine mu_bipush (v := mI 64) B dX1_window_42 (by decide) ?_
    refine mu_il_4 B dX1_window_44 ?_
    refine mu_isub B dX1_window_46 ?_
    try rw [mI_sub]
    try rw [mI_sub]
    rw [show (64 : Int) - ((p % 64 : Nat) : Int) = ((64 - p % 64 : Nat) : Int) by omega]
    refine mu_lshl B dX1_window_47 rfl ?_
    refine mu_lor B dX1_window_48 ?_
    refine mu_lret E rfl (by decide) (by decide) dX1_window_49 ?_
    first
      | refine ⟨⟨_, rfl, fun i hi => ?_⟩, rfl⟩
        have e0 : p % 64 = 0 := by omega
        rw [lb_ush _ (by omega), e0, Nat.zero_add, hd1 i hi, show (64 : Int) * ((p / 64 : Nat) : Int) + (i : Int) = (p : Int) + (i : Int) by omega]
      | refine ⟨⟨_, rfl, fun i hi => ?_⟩, rfl⟩
        rw [lb_or, lb_ush _ (by omega), lb_shl _ (by omega) hi]
        by_cases e9 : 64 - p % 64 ≤ i
        · rw [lb_big _ (by omega), hd2 (i - (64 - p % 64)) (by omega), decide_eq_true e9, Bool.false_or, Bool.true_and, show (64 : Int) * (((p / 64 : Nat) : Int) + 1) + ((i - (64 - p % 64) : Nat) : Int) = (p : Int) + (i : Int) by omega]
        · rw [hd1 (p % 64 + i) (by omega), decide_eq_false e9, Bool.false_and, Bool.or_false, show (64 : Int) * ((p / 64 : Nat) : Int) + ((p % 64 + i : Nat) : Int) = (p : Int) + (i : Int) by omega]
  · try rw [mI_eq0 ⟨by omega, by omega⟩] at c24
    refine mu_ll_5 B dX1_window_27 ?_
    refine mu_goto (tgt := 49) B dX1_window_29 (by decide) ?_
    refine mu_lret E rfl (by decide) (by decide) dX1_window_49 ?_
    first
      | refine ⟨⟨_, rfl, fun i hi => ?_⟩, rfl⟩
        have e0 : p % 64 = 0 := by omega
        rw [lb_ush _ (by omega), e0, Nat.zero_add, hd1 i hi, show (64 : Int) * ((p / 64 : Nat) : Int) + (i : Int) = (p : Int) + (i : Int) by omega]
      | refine ⟨⟨_, rfl, fun i hi => ?_⟩, rfl⟩
        rw [lb_or, lb_ush _ (by omega), lb_shl _ (by omega) hi]
        by_cases e9 : 64 - p % 64 ≤ i
        · rw [lb_big _ (by omega), hd2 (i - (64 - p % 64)) (by omega), decide_eq_true e9, Bool.false_or, Bool.true_and, show (64 : Int) * (((p / 64 : Nat) : Int) + 1) + ((i - (64 - p % 64) : Nat) : Int) = (p : Int) + (i : Int) by omega]
        · rw [hd1 (p % 64 + i) (by omega), decide_eq_false e9, Bool.false_and, Bool.or_false, show (64 : Int) * ((p / 64 : Nat) : Int) + ((p % 64 + i : Nat) : Int) = (p : Int) + (i : Int) by omega]
