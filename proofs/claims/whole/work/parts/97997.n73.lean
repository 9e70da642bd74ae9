/-! ===== the class: searches called ===== -/
set_option maxHeartbeats 4000000 in
set_option maxRecDepth 100000 in
theorem c_X11_isBox (G : mu_G) {w : mu_W} {x y rim most : Int} (hx9 : mi_ok x) (hy9 : mi_ok y) (hrim : 0 ≤ rim ∧ rim ≤ 2) (hmost : 0 ≤ most ∧ most ≤ 100) : mu_Ct G M_X11_isBox [.int (mI x), .int (mI y), .int (mI rim), .int (mI most)] w (fun r w' => r = some (.int (if 1 ≤ x ∧ x ≤ 16 ∧ 1 ≤ y ∧ y ≤ 16 ∧ (x + rim) * (y + rim) ≤ most then mI 1 else mI 0)) ∧ w' = w) := by
  obtain ⟨hx1, hx2⟩ := hx9
  obtain ⟨hy1, hy2⟩ := hy9
  refine mu_ofWA G M_X11_isBox [.int (mI x), .int (mI y), .int (mI rim), .int (mI most)] (by decide) rfl (Nat.le_of_ble_eq_true rfl) ?_
  intro X E
  have B : mu_B X G cX11_isBox RX11 4 (mu_rm M_X11_isBox) := E.1
  show mu_WA X G 4 _ _ 0 0 0 _ []
  refine mu_il_0 B dX11_isBox_0 ?_
  refine mu_iconst (v := mI 1) B dX11_isBox_1 rfl ?_
  refine mu_icmp_lt (tgt := 37) B dX11_isBox_2 (by decide) (fun c2 => ?_) (fun c2 => ?_)
  · try rw [mI_lt ⟨by omega, by omega⟩ ⟨by omega, by omega⟩] at c2
    refine mu_iconst (v := mI 0) B dX11_isBox_37 rfl ?_
    refine mu_zret E rfl (by decide) (by decide) dX11_isBox_38 (by decide) ?_
    first
      | exact ⟨by rw [if_pos ⟨by omega, by omega, by omega, by omega, by omega⟩], rfl⟩
      | exact ⟨by rw [if_neg (fun h => by have := h.1; omega)], rfl⟩
      | exact ⟨by rw [if_neg (fun h => by have := h.2.1; omega)], rfl⟩
      | exact ⟨by rw [if_neg (fun h => by have := h.2.2.1; omega)], rfl⟩
      | exact ⟨by rw [if_neg (fun h => by have := h.2.2.2.1; omega)], rfl⟩
      | exact ⟨by rw [if_neg (fun h => by have := h.2.2.2.2; omega)], rfl⟩
  · try rw [mI_lt ⟨by omega, by omega⟩ ⟨by omega, by omega⟩] at c2
    refine mu_il_0 B dX11_isBox_5 ?_
    refine mu_bipush (v := mI 16) B dX11_isBox_6 (by decide) ?_
    refine mu_icmp_gt (tgt := 37) B dX11_isBox_8 (by decide) (fun c8 => ?_) (fun c8 => ?_)
    · try rw [mI_lt ⟨by omega, by omega⟩ ⟨by omega, by omega⟩] at c8
      refine mu_iconst (v := mI 0) B dX11_isBox_37 rfl ?_
      refine mu_zret E rfl (by decide) (by decide) dX11_isBox_38 (by decide) ?_
      first
        | exact ⟨by rw [if_pos ⟨by omega, by omega, by omega, by omega, by omega⟩], rfl⟩
        | exact ⟨by rw [if_neg (fun h => by have := h.1; omega)], rfl⟩
        | exact ⟨by rw [if_neg (fun h => by have := h.2.1; omega)], rfl⟩
        | exact ⟨by rw [if_neg (fun h => by have := h.2.2.1; omega)], rfl⟩
        | exact ⟨by rw [if_neg (fun h => by have := h.2.2.2.1; omega)], rfl⟩
        | exact ⟨by rw [if_neg (fun h => by have := h.2.2.2.2; omega)], rfl⟩
    · try rw [mI_lt ⟨by omega, by omega⟩ ⟨by omega, by omega⟩] at c8
      refine mu_il_1 B dX11_isBox_11 ?_
      refine mu_iconst (v := mI 1) B dX11_isBox_12 rfl ?_
      refine mu_icmp_lt (tgt := 37) B dX11_isBox_13 (by decide) (fun c13 => ?_) (fun c13 => ?_)
      · try rw [mI_lt ⟨by omega, by omega⟩ ⟨by omega, by omega⟩] at c13
        refine mu_iconst (v := mI 0) B dX11_isBox_37 rfl ?_
        refine mu_zret E rfl (by decide) (by decide) dX11_isBox_38 (by decide) ?_
        first
          | exact ⟨by rw [if_pos ⟨by omega, by omega, by omega, by omega, by omega⟩], rfl⟩
          | exact ⟨by rw [if_neg (fun h => by have := h.1; omega)], rfl⟩
          | exact ⟨by rw [if_neg (fun h => by have := h.2.1; omega)], rfl⟩
          | exact ⟨by rw [if_neg (fun h => by have := h.2.2.1; omega)], rfl⟩
          | exact ⟨by rw [if_neg (fun h => by have := h.2.2.2.1; omega)], rfl⟩
          | exact ⟨by rw [if_neg (fun h => by have := h.2.2.2.2; omega)], rfl⟩
      · try rw [mI_lt ⟨by omega, by omega⟩ ⟨by omega, by omega⟩] at c13
        refine mu_il_1 B dX11_isBox_16 ?_
        refine mu_bipush (v := mI 16) B dX11_isBox_17 (by decide) ?_
        refine mu_icmp_gt (tgt := 37) B dX11_isBox_19 (by decide) (fun c19 => ?_) (fun c19 => ?_)
        · try rw [mI_lt ⟨by omega, by omega⟩ ⟨by omega, by omega⟩] at c19
          refine mu_iconst (v := mI 0) B dX11_isBox_37 rfl ?_
          refine mu_zret E rfl (by decide) (by decide) dX11_isBox_38 (by decide) ?_
          first
            | exact ⟨by rw [if_pos ⟨by omega, by omega, by omega, by omega, by omega⟩], rfl⟩
            | exact ⟨by rw [if_neg (fun h => by have := h.1; omega)], rfl⟩
            | exact ⟨by rw [if_neg (fun h => by have := h.2.1; omega)], rfl⟩
            | exact ⟨by rw [if_neg (fun h => by have := h.2.2.1; omega)], rfl⟩
            | exact ⟨by rw [if_neg (fun h => by have := h.2.2.2.1; omega)], rfl⟩
            | exact ⟨by rw [if_neg (fun h => by have := h.2.2.2.2; omega)], rfl⟩
        · try rw [mI_lt ⟨by omega, by omega⟩ ⟨by omega, by omega⟩] at c19
          refine mu_il_0 B dX11_isBox_22 ?_
          refine mu_il_2 B dX11_isBox_23 ?_
          refine mu_iadd B dX11_isBox_24 ?_
          try rw [mI_add]
          refine mu_il_1 B dX11_isBox_25 ?_
          refine mu_il_2 B dX11_isBox_26 ?_
          refine mu_iadd B dX11_isBox_27 ?_
          try rw [mI_add]
          refine mu_imul B dX11_isBox_28 ?_
          try rw [mI_mul]
          have hpr1 : (x + rim) * (y + rim) ≤ 18 * 18 := Int.mul_le_mul (by omega) (by omega) (by omega) (by omega)
          have hpr0 : 0 ≤ (x + rim) * (y + rim) := Int.mul_nonneg (by omega) (by omega)
          refine mu_il_3 B dX11_isBox_29 ?_
          refine mu_icmp_gt (tgt := 37) B dX11_isBox_30 (by decide) (fun c30 => ?_) (fun c30 => ?_)
          · try rw [mI_lt ⟨by omega, by omega⟩ ⟨by omega, by omega⟩] at c30
            refine mu_iconst (v := mI 0) B dX11_isBox_37 rfl ?_
            refine mu_zret E rfl (by decide) (by decide) dX11_isBox_38 (by decide) ?_
            first
              | exact ⟨by rw [if_pos ⟨by omega, by omega, by omega, by omega, by omega⟩], rfl⟩
              | exact ⟨by rw [if_neg (fun h => by have := h.1; omega)], rfl⟩
              | exact ⟨by rw [if_neg (fun h => by have := h.2.1; omega)], rfl⟩
              | exact ⟨by rw [if_neg (fun h => by have := h.2.2.1; omega)], rfl⟩
              | exact ⟨by rw [if_neg (fun h => by have := h.2.2.2.1; omega)], rfl⟩
              | exact ⟨by rw [if_neg (fun h => by have := h.2.2.2.2; omega)], rfl⟩
          · try rw [mI_lt ⟨by omega, by omega⟩ ⟨by omega, by omega⟩] at c30
            refine mu_iconst (v := mI 1) B dX11_isBox_33 rfl ?_
            refine mu_goto (tgt := 38) B dX11_isBox_34 (by decide) ?_
            refine mu_zret E rfl (by decide) (by decide) dX11_isBox_38 (by decide) ?_
            first
              | exact ⟨by rw [if_pos ⟨by omega, by omega, by omega, by omega, by omega⟩], rfl⟩
              | exact ⟨by rw [if_neg (fun h => by have := h.1; omega)], rfl⟩
              | exact ⟨by rw [if_neg (fun h => by have := h.2.1; omega)], rfl⟩
              | exact ⟨by rw [if_neg (fun h => by have := h.2.2.1; omega)], rfl⟩
              | exact ⟨by rw [if_neg (fun h => by have := h.2.2.2.1; omega)], rfl⟩
              | exact ⟨by rw [if_neg (fun h => by have := h.2.2.2.2; omega)], rfl⟩

set_option maxHeartbeats 4000000 in
set_option maxRecDepth 100000 in
theorem c_X11_still_n (G : mu_G) {w : mu_W} {o : Nat} (hm : CMo w o) {nr : Nat} {rs : Nat → mu_RS} {ra : Nat → Nat} (hr : CRs w o nr rs ra) {z : Int} (hz : mi_ok z) (hn : ¬ (0 ≤ z ∧ z < nr)) {x y : Int32} : mu_Ct G M_X11_still [.ref o, .int (mI z), .int x, .int y] w (fun r w' => r = some (.int (mI (-1))) ∧ w' = w) := by
  obtain ⟨ko, hox, ⟨r0, r1, r2, r3, r4, r6, r8, r10, r11, r12, r13, r14⟩, ⟨k1, k3, k4, kB, k12, k13, k14⟩, kS, kF, kQ, k26, kH⟩ := id hm
  obtain ⟨hn16, hnr, hrs⟩ := id hr
  refine mu_ofWA G M_X11_still [.ref o, .int (mI z), .int x, .int y, mu_no] (by decide) rfl (Nat.le_of_ble_eq_true rfl) ?_
  intro X E
  have B : mu_B X G cX11_still RX11 5 (mu_rm M_X11_still) := E.1
  show mu_WA X G 5 _ _ 0 0 0 _ []
  refine mu_al_0 B dX11_still_0 ?_
  refine mu_il_1 B dX11_still_1 ?_
  refine mu_eV1 B dX11_still_2 mX11_117 ⟨⟨by decide, by decide⟩, by decide, by decide⟩ (Nat.le_of_ble_eq_true rfl) (by exact ko) (c_X11_ruleAt_n G hm hr hz hn) ?_
  refine mu_ns_4 B dX11_still_5 (by decide) rfl ?_
  refine mu_nl_4 B dX11_still_7 ?_
  refine mu_ifnullN (tgt := 23) B dX11_still_9 (by decide) ?_
  refine mu_iconst (v := mI (-1)) B dX11_still_23 rfl ?_
  refine mu_iret E rfl (by decide) (by decide) dX11_still_24 ?_
  exact ⟨rfl, rfl⟩

set_option maxHeartbeats 4000000 in
set_option maxRecDepth 100000 in
theorem c_X11_still_b (G : mu_G) {w : mu_W} {o : Nat} (hm : CMo w o) {nr : Nat} {rs : Nat → mu_RS} {ra : Nat → Nat} (hr : CRs w o nr rs ra) {i : Nat} (hi : i < nr) {x y : Int} (hx9 : mi_ok x) (hy9 : mi_ok y) (hbad : ¬ ((1 ≤ x ∧ x ≤ 16 ∧ 1 ≤ y ∧ y ≤ 16 ∧ (x + 0) * (y + 0) ≤ 16))) : mu_Ct G M_X11_still [.ref o, .int (mI (i : Nat)), .int (mI x), .int (mI y)] w (fun r w' => r = some (.int (mI (-1))) ∧ w' = w) := by
  obtain ⟨ko, hox, ⟨r0, r1, r2, r3, r4, r6, r8, r10, r11, r12, r13, r14⟩, ⟨k1, k3, k4, kB, k12, k13, k14⟩, kS, kF, kQ, k26, kH⟩ := id hm
  obtain ⟨hn16, hnr, hrs⟩ := id hr
  obtain ⟨hx1, hx2⟩ := hx9
  obtain ⟨hy1, hy2⟩ := hy9
  refine mu_ofWA G M_X11_still [.ref o, .int (mI (i : Nat)), .int (mI x), .int (mI y), mu_no] (by decide) rfl (Nat.le_of_ble_eq_true rfl) ?_
  intro X E
  have B : mu_B X G cX11_still RX11 5 (mu_rm M_X11_still) := E.1
  show mu_WA X G 5 _ _ 0 0 0 _ []
  refine mu_al_0 B dX11_still_0 ?_
  refine mu_il_1 B dX11_still_1 ?_
  refine mu_eV1 B dX11_still_2 mX11_117 ⟨⟨by decide, by decide⟩, by decide, by decide⟩ (Nat.le_of_ble_eq_true rfl) (by exact ko) (c_X11_ruleAt_y G hm hr hi) ?_
  refine mu_as_4 B dX11_still_5 (by decide) rfl ?_
  refine mu_al_4 B dX11_still_7 ?_
  refine mu_ifnull B dX11_still_9 ?_
  refine mu_il_2 B dX11_still_12 ?_
  refine mu_il_3 B dX11_still_13 ?_
  refine mu_iconst (v := mI 0) B dX11_still_14 rfl ?_
  refine mu_bipush (v := mI 16) B dX11_still_15 (by decide) ?_
  refine mu_eS4 B dX11_still_17 mX11_233 ⟨⟨by decide, by decide⟩, by decide, by decide⟩ (Nat.le_of_ble_eq_true rfl) (c_X11_isBox G (x := x) (y := y) (rim := 0) (most := 16) ⟨by omega, by omega⟩ ⟨by omega, by omega⟩ ⟨by decide, by decide⟩ ⟨by decide, by decide⟩) ?_
  refine mu_if_ne (tgt := 25) B dX11_still_20 (by decide) (fun c20 => ?_) (fun c20 => ?_)
  · have z20 := mu_bt c20
    exact absurd z20 hbad
  · have z20 := mu_bf c20
    refine mu_iconst (v := mI (-1)) B dX11_still_23 rfl ?_
    refine mu_iret E rfl (by decide) (by decide) dX11_still_24 ?_
    exact ⟨rfl, rfl⟩

set_option maxHeartbeats 4000000 in
set_option maxRecDepth 100000 in
theorem c_X11_still_w (G : mu_G) {w : mu_W} {o : Nat} (hm : CMo w o) {nr : Nat} {rs : Nat → mu_RS} {ra : Nat → Nat} (hr : CRs w o nr rs ra) {i : Nat} (hi : i < nr) {sr : Nat} (hs : mu_iv w o 15 = mI sr) (hsb : sr ≤ 30) {R C : Nat} (hR : 1 ≤ R ∧ R ≤ 16) (hC : 1 ≤ C ∧ C ≤ 16) (hRC : R * C ≤ 16) (hno : ¬ ((rs_nb (rs i) ≠ 0 ∧ rs_bo (rs i) % 2 = 0) ∧ sr < 30)) : mu_Ct G M_X11_still [.ref o, .int (mI (i : Nat)), .int (mI (R : Nat)), .int (mI (C : Nat))] w (fun r w' => r = some (.int (if rs_nb (rs i) ≠ 0 ∧ rs_bo (rs i) % 2 = 0 then mI (-3) else mI (-2))) ∧ w' = w) := by
  obtain ⟨ko, hox, ⟨r0, r1, r2, r3, r4, r6, r8, r10, r11, r12, r13, r14⟩, ⟨k1, k3, k4, kB, k12, k13, k14⟩, kS, kF, kQ, k26, kH⟩ := id hm
  obtain ⟨hn16, hnr, hrs⟩ := id hr
  have hpq : ((R : Int) + 0) * ((C : Int) + 0) = ((R * C : Nat) : Int) := by rw [Int.add_zero, Int.add_zero, Int.natCast_mul]
  refine mu_ofWA G M_X11_still [.ref o, .int (mI (i : Nat)), .int (mI (R : Nat)), .int (mI (C : Nat)), mu_no] (by decide) rfl (Nat.le_of_ble_eq_true rfl) ?_
  intro X E
  have B : mu_B X G cX11_still RX11 5 (mu_rm M_X11_still) := E.1
  show mu_WA X G 5 _ _ 0 0 0 _ []
  refine mu_al_0 B dX11_still_0 ?_
  refine mu_il_1 B dX11_still_1 ?_
  refine mu_eV1 B dX11_still_2 mX11_117 ⟨⟨by decide, by decide⟩, by decide, by decide⟩ (Nat.le_of_ble_eq_true rfl) (by exact ko) (c_X11_ruleAt_y G hm hr hi) ?_
  refine mu_as_4 B dX11_still_5 (by decide) rfl ?_
  refine mu_al_4 B dX11_still_7 ?_
  refine mu_ifnull B dX11_still_9 ?_
  refine mu_il_2 B dX11_still_12 ?_
  refine mu_il_3 B dX11_still_13 ?_
  refine mu_iconst (v := mI 0) B dX11_still_14 rfl ?_
  refine mu_bipush (v := mI 16) B dX11_still_15 (by decide) ?_
  refine mu_eS4 B dX11_still_17 mX11_233 ⟨⟨by decide, by decide⟩, by decide, by decide⟩ (Nat.le_of_ble_eq_true rfl) (c_X11_isBox G (x := (R : Nat)) (y := (C : Nat)) (rim := 0) (most := 16) ⟨by omega, by omega⟩ ⟨by omega, by omega⟩ ⟨by decide, by decide⟩ ⟨by decide, by decide⟩) ?_
  refine mu_if_ne (tgt := 25) B dX11_still_20 (by decide) (fun c20 => ?_) (fun c20 => ?_)
  · have z20 := mu_bt c20
    refine mu_al_0 B dX11_still_25 ?_
    refine mu_al_4 B dX11_still_26 ?_
    refine mu_eV1 B dX11_still_28 mX11_237 ⟨⟨by decide, by decide⟩, by decide, by decide⟩ (Nat.le_of_ble_eq_true rfl) (by exact ko) (c_X11_maySearch G hm (hrs i hi).2.2.2 hs hsb) ?_
    refine mu_if_ne (tgt := 40) B dX11_still_31 (by decide) (fun c31 => ?_) (fun c31 => ?_)
    · have z31 := mu_bt c31
      exact absurd z31 hno
    · have z31 := mu_bf c31
      refine mu_al_4 B dX11_still_34 ?_
      refine mu_eS1 B dX11_still_36 mX11_241 ⟨⟨by decide, by decide⟩, by decide, by decide⟩ (Nat.le_of_ble_eq_true rfl) (c_X11_whyNoSearch G (hrs i hi).2.2.2) ?_
      refine mu_iret E rfl (by decide) (by decide) dX11_still_39 ?_
      exact ⟨rfl, rfl⟩
  · have z20 := mu_bf c20
    exact absurd ⟨by omega, by omega, by omega, by omega, by rw [hpq]; omega⟩ z20

set_option maxHeartbeats 4000000 in
set_option maxRecDepth 100000 in
theorem c_X11_still_y (G : mu_G) {w : mu_W} {o : Nat} (hm : CMo w o) {nr : Nat} {rs : Nat → mu_RS} {ra : Nat → Nat} (hr : CRs w o nr rs ra) {i : Nat} (hi : i < nr) {sr : Nat} (hs : mu_iv w o 15 = mI sr) (hsb : sr ≤ 30) {R C : Nat} (hR : 1 ≤ R ∧ R ≤ 16) (hC : 1 ≤ C ∧ C ≤ 16) (hRC : R * C ≤ 16) (hq1 : rs_nb (rs i) ≠ 0) (hq2 : rs_bo (rs i) % 2 = 0) (hs30 : sr < 30) : mu_Ct G M_X11_still [.ref o, .int (mI (i : Nat)), .int (mI (R : Nat)), .int (mI (C : Nat))] w (fun r w' => fx_post (mu_si w o 15 (mI ((sr : Int) + 1))) (o + 27) (st_P (rs i) R C) r w') := by
  obtain ⟨ko, hox, ⟨r0, r1, r2, r3, r4, r6, r8, r10, r11, r12, r13, r14⟩, ⟨k1, k3, k4, kB, k12, k13, k14⟩, kS, kF, kQ, k26, kH⟩ := id hm
  obtain ⟨hn16, hnr, hrs⟩ := id hr
  have hpq : ((R : Int) + 0) * ((C : Int) + 0) = ((R * C : Nat) : Int) := by rw [Int.add_zero, Int.add_zero, Int.natCast_mul]
  refine mu_ofWA G M_X11_still [.ref o, .int (mI (i : Nat)), .int (mI (R : Nat)), .int (mI (C : Nat)), mu_no] (by decide) rfl (Nat.le_of_ble_eq_true rfl) ?_
  intro X E
  have B : mu_B X G cX11_still RX11 5 (mu_rm M_X11_still) := E.1
  show mu_WA X G 5 _ _ 0 0 0 _ []
  refine mu_al_0 B dX11_still_0 ?_
  refine mu_il_1 B dX11_still_1 ?_
  refine mu_eV1 B dX11_still_2 mX11_117 ⟨⟨by decide, by decide⟩, by decide, by decide⟩ (Nat.le_of_ble_eq_true rfl) (by exact ko) (c_X11_ruleAt_y G hm hr hi) ?_
  refine mu_as_4 B dX11_still_5 (by decide) rfl ?_
  refine mu_al_4 B dX11_still_7 ?_
  refine mu_ifnull B dX11_still_9 ?_
  refine mu_il_2 B dX11_still_12 ?_
  refine mu_il_3 B dX11_still_13 ?_
  refine mu_iconst (v := mI 0) B dX11_still_14 rfl ?_
  refine mu_bipush (v := mI 16) B dX11_still_15 (by decide) ?_
  refine mu_eS4 B dX11_still_17 mX11_233 ⟨⟨by decide, by decide⟩, by decide, by decide⟩ (Nat.le_of_ble_eq_true rfl) (c_X11_isBox G (x := (R : Nat)) (y := (C : Nat)) (rim := 0) (most := 16) ⟨by omega, by omega⟩ ⟨by omega, by omega⟩ ⟨by decide, by decide⟩ ⟨by decide, by decide⟩) ?_
  refine mu_if_ne (tgt := 25) B dX11_still_20 (by decide) (fun c20 => ?_) (fun c20 => ?_)
  · have z20 := mu_bt c20
    refine mu_al_0 B dX11_still_25 ?_
    refine mu_al_4 B dX11_still_26 ?_
    refine mu_eV1 B dX11_still_28 mX11_237 ⟨⟨by decide, by decide⟩, by decide, by decide⟩ (Nat.le_of_ble_eq_true rfl) (by exact ko) (c_X11_maySearch G hm (hrs i hi).2.2.2 hs hsb) ?_
    refine mu_if_ne (tgt := 40) B dX11_still_31 (by decide) (fun c31 => ?_) (fun c31 => ?_)
    · have z31 := mu_bt c31
      refine mu_al_0 B dX11_still_40 ?_
      refine mu_dup B dX11_still_41 rfl ?_
      refine mu_getI B dX11_still_42 fX11_245 rfl (by exact ko) ?_
      rw [hs]
      refine mu_iconst (v := mI 1) B dX11_still_45 rfl ?_
      refine mu_iadd B dX11_still_46 ?_
      try rw [mI_add]
      refine mu_putI B dX11_still_47 fX11_245 fwX11_15 rfl (by exact ko) ?_
      have hF1 : mu_Fi (fun e j => e = o ∧ j = 15) w (mu_si w o 15 (mI ((sr : Int) + 1))) := (mu_Fi.refl _).si ⟨rfl, rfl⟩
      have huq := (hrs i hi).2.2.2.uq hq1 hq2
      have huq1 : RUq (mu_si w o 15 (mI ((sr : Int) + 1))) (ra i) (rs i) := ⟨huq.1.fi hF1 (fun j hh => by have := hh.1; have := (hrs i hi).2.1; omega), huq.2⟩
      refine mu_al_0 B dX11_still_50 ?_
      refine mu_getR B dX11_still_51 fX11_84 rfl (by exact ko) (by exact r14) ?_
      refine mu_al_4 B dX11_still_54 ?_
      refine mu_il_2 B dX11_still_56 ?_
      refine mu_il_3 B dX11_still_57 ?_
      refine mu_cV3 B dX11_still_58 mX11_248 ⟨⟨by decide, by decide⟩, by decide, by decide⟩ (Nat.le_of_ble_eq_true rfl) (by exact kH.1) (c_X7_findStill G (kH.fi hF1) huq1 hR hC hRC) (fun r58 w58 q58 => ?_)
      obtain ⟨rfl, q58b⟩ := q58
      show mu_WA X G 5 _ _ _ _ 61 _ [.int _]
      refine mu_iret E rfl (by decide) (by decide) dX11_still_61 ?_
      exact ⟨rfl, q58b⟩
    · have z31 := mu_bf c31
      exact absurd ⟨⟨hq1, hq2⟩, hs30⟩ z31
  · have z20 := mu_bf c20
    exact absurd ⟨by omega, by omega, by omega, by omega, by rw [hpq]; omega⟩ z20

set_option maxHeartbeats 4000000 in
set_option maxRecDepth 100000 in
theorem c_X11_garden_n (G : mu_G) {w : mu_W} {o : Nat} (hm : CMo w o) {nr : Nat} {rs : Nat → mu_RS} {ra : Nat → Nat} (hr : CRs w o nr rs ra) {z : Int} (hz : mi_ok z) (hn : ¬ (0 ≤ z ∧ z < nr)) {x y : Int32} : mu_Ct G M_X11_garden [.ref o, .int (mI z), .int x, .int y] w (fun r w' => r = some (.int (mI (-1))) ∧ w' = w) := by
  obtain ⟨ko, hox, ⟨r0, r1, r2, r3, r4, r6, r8, r10, r11, r12, r13, r14⟩, ⟨k1, k3, k4, kB, k12, k13, k14⟩, kS, kF, kQ, k26, kH⟩ := id hm
  obtain ⟨hn16, hnr, hrs⟩ := id hr
  refine mu_ofWA G M_X11_garden [.ref o, .int (mI z), .int x, .int y, mu_no] (by decide) rfl (Nat.le_of_ble_eq_true rfl) ?_
  intro X E
  have B : mu_B X G cX11_garden RX11 5 (mu_rm M_X11_garden) := E.1
  show mu_WA X G 5 _ _ 0 0 0 _ []
  refine mu_al_0 B dX11_garden_0 ?_
  refine mu_il_1 B dX11_garden_1 ?_
  refine mu_eV1 B dX11_garden_2 mX11_117 ⟨⟨by decide, by decide⟩, by decide, by decide⟩ (Nat.le_of_ble_eq_true rfl) (by exact ko) (c_X11_ruleAt_n G hm hr hz hn) ?_
  refine mu_ns_4 B dX11_garden_5 (by decide) rfl ?_
  refine mu_nl_4 B dX11_garden_7 ?_
  refine mu_ifnullN (tgt := 23) B dX11_garden_9 (by decide) ?_
  refine mu_iconst (v := mI (-1)) B dX11_garden_23 rfl ?_
  refine mu_iret E rfl (by decide) (by decide) dX11_garden_24 ?_
  exact ⟨rfl, rfl⟩

set_option maxHeartbeats 4000000 in
set_option maxRecDepth 100000 in
theorem c_X11_garden_b (G : mu_G) {w : mu_W} {o : Nat} (hm : CMo w o) {nr : Nat} {rs : Nat → mu_RS} {ra : Nat → Nat} (hr : CRs w o nr rs ra) {i : Nat} (hi : i < nr) {x y : Int} (hx9 : mi_ok x) (hy9 : mi_ok y) (hbad : ¬ ((1 ≤ x ∧ x ≤ 16 ∧ 1 ≤ y ∧ y ≤ 16 ∧ (x + 2) * (y + 2) ≤ 16))) : mu_Ct G M_X11_garden [.ref o, .int (mI (i : Nat)), .int (mI x), .int (mI y)] w (fun r w' => r = some (.int (mI (-1))) ∧ w' = w) := by
  obtain ⟨ko, hox, ⟨r0, r1, r2, r3, r4, r6, r8, r10, r11, r12, r13, r14⟩, ⟨k1, k3, k4, kB, k12, k13, k14⟩, kS, kF, kQ, k26, kH⟩ := id hm
  obtain ⟨hn16, hnr, hrs⟩ := id hr
  obtain ⟨hx1, hx2⟩ := hx9
  obtain ⟨hy1, hy2⟩ := hy9
  refine mu_ofWA G M_X11_garden [.ref o, .int (mI (i : Nat)), .int (mI x), .int (mI y), mu_no] (by decide) rfl (Nat.le_of_ble_eq_true rfl) ?_
  intro X E
  have B : mu_B X G cX11_garden RX11 5 (mu_rm M_X11_garden) := E.1
  show mu_WA X G 5 _ _ 0 0 0 _ []
  refine mu_al_0 B dX11_garden_0 ?_
  refine mu_il_1 B dX11_garden_1 ?_
  refine mu_eV1 B dX11_garden_2 mX11_117 ⟨⟨by decide, by decide⟩, by decide, by decide⟩ (Nat.le_of_ble_eq_true rfl) (by exact ko) (c_X11_ruleAt_y G hm hr hi) ?_
  refine mu_as_4 B dX11_garden_5 (by decide) rfl ?_
  refine mu_al_4 B dX11_garden_7 ?_
  refine mu_ifnull B dX11_garden_9 ?_
  refine mu_il_2 B dX11_garden_12 ?_
  refine mu_il_3 B dX11_garden_13 ?_
  refine mu_iconst (v := mI 2) B dX11_garden_14 rfl ?_
  refine mu_bipush (v := mI 16) B dX11_garden_15 (by decide) ?_
  refine mu_eS4 B dX11_garden_17 mX11_233 ⟨⟨by decide, by decide⟩, by decide, by decide⟩ (Nat.le_of_ble_eq_true rfl) (c_X11_isBox G (x := x) (y := y) (rim := 2) (most := 16) ⟨by omega, by omega⟩ ⟨by omega, by omega⟩ ⟨by decide, by decide⟩ ⟨by decide, by decide⟩) ?_
  refine mu_if_ne (tgt := 25) B dX11_garden_20 (by decide) (fun c20 => ?_) (fun c20 => ?_)
  · have z20 := mu_bt c20
    exact absurd z20 hbad
  · have z20 := mu_bf c20
    refine mu_iconst (v := mI (-1)) B dX11_garden_23 rfl ?_
    refine mu_iret E rfl (by decide) (by decide) dX11_garden_24 ?_
    exact ⟨rfl, rfl⟩

set_option maxHeartbeats 4000000 in
set_option maxRecDepth 100000 in
theorem c_X11_garden_w (G : mu_G) {w : mu_W} {o : Nat} (hm : CMo w o) {nr : Nat} {rs : Nat → mu_RS} {ra : Nat → Nat} (hr : CRs w o nr rs ra) {i : Nat} (hi : i < nr) {sr : Nat} (hs : mu_iv w o 15 = mI sr) (hsb : sr ≤ 30) {R C : Nat} (hR : 1 ≤ R ∧ R ≤ 16) (hC : 1 ≤ C ∧ C ≤ 16) (hRC : (R + 2) * (C + 2) ≤ 16) (hno : ¬ ((rs_nb (rs i) ≠ 0 ∧ rs_bo (rs i) % 2 = 0) ∧ sr < 30)) : mu_Ct G M_X11_garden [.ref o, .int (mI (i : Nat)), .int (mI (R : Nat)), .int (mI (C : Nat))] w (fun r w' => r = some (.int (if rs_nb (rs i) ≠ 0 ∧ rs_bo (rs i) % 2 = 0 then mI (-3) else mI (-2))) ∧ w' = w) := by
  obtain ⟨ko, hox, ⟨r0, r1, r2, r3, r4, r6, r8, r10, r11, r12, r13, r14⟩, ⟨k1, k3, k4, kB, k12, k13, k14⟩, kS, kF, kQ, k26, kH⟩ := id hm
  obtain ⟨hn16, hnr, hrs⟩ := id hr
  have hpq : ((R : Int) + 2) * ((C : Int) + 2) = (((R + 2) * (C + 2) : Nat) : Int) := by rw [Int.natCast_mul, Int.natCast_add, Int.natCast_add]; rfl
  refine mu_ofWA G M_X11_garden [.ref o, .int (mI (i : Nat)), .int (mI (R : Nat)), .int (mI (C : Nat)), mu_no] (by decide) rfl (Nat.le_of_ble_eq_true rfl) ?_
  intro X E
  have B : mu_B X G cX11_garden RX11 5 (mu_rm M_X11_garden) := E.1
  show mu_WA X G 5 _ _ 0 0 0 _ []
  refine mu_al_0 B dX11_garden_0 ?_
  refine mu_il_1 B dX11_garden_1 ?_
  refine mu_eV1 B dX11_garden_2 mX11_117 ⟨⟨by decide, by decide⟩, by decide, by decide⟩ (Nat.le_of_ble_eq_true rfl) (by exact ko) (c_X11_ruleAt_y G hm hr hi) ?_
  refine mu_as_4 B dX11_garden_5 (by decide) rfl ?_
  refine mu_al_4 B dX11_garden_7 ?_
  refine mu_ifnull B dX11_garden_9 ?_
  refine mu_il_2 B dX11_garden_12 ?_
  refine mu_il_3 B dX11_garden_13 ?_
  refine mu_iconst (v := mI 2) B dX11_garden_14 rfl ?_
  refine mu_bipush (v := mI 16) B dX11_garden_15 (by decide) ?_
  refine mu_eS4 B dX11_garden_17 mX11_233 ⟨⟨by decide, by decide⟩, by decide, by decide⟩ (Nat.le_of_ble_eq_true rfl) (c_X11_isBox G (x := (R : Nat)) (y := (C : Nat)) (rim := 2) (most := 16) ⟨by omega, by omega⟩ ⟨by omega, by omega⟩ ⟨by decide, by decide⟩ ⟨by decide, by decide⟩) ?_
  refine mu_if_ne (tgt := 25) B dX11_garden_20 (by decide) (fun c20 => ?_) (fun c20 => ?_)
  · have z20 := mu_bt c20
    refine mu_al_0 B dX11_garden_25 ?_
    refine mu_al_4 B dX11_garden_26 ?_
    refine mu_eV1 B dX11_garden_28 mX11_237 ⟨⟨by decide, by decide⟩, by decide, by decide⟩ (Nat.le_of_ble_eq_true rfl) (by exact ko) (c_X11_maySearch G hm (hrs i hi).2.2.2 hs hsb) ?_
    refine mu_if_ne (tgt := 40) B dX11_garden_31 (by decide) (fun c31 => ?_) (fun c31 => ?_)
    · have z31 := mu_bt c31
      exact absurd z31 hno
    · have z31 := mu_bf c31
      refine mu_al_4 B dX11_garden_34 ?_
      refine mu_eS1 B dX11_garden_36 mX11_241 ⟨⟨by decide, by decide⟩, by decide, by decide⟩ (Nat.le_of_ble_eq_true rfl) (c_X11_whyNoSearch G (hrs i hi).2.2.2) ?_
      refine mu_iret E rfl (by decide) (by decide) dX11_garden_39 ?_
      exact ⟨rfl, rfl⟩
  · have z20 := mu_bf c20
    exact absurd ⟨by omega, by omega, by omega, by omega, by rw [hpq]; omega⟩ z20

set_option maxHeartbeats 4000000 in
set_option maxRecDepth 100000 in
theorem c_X11_garden_y (G : mu_G) {w : mu_W} {o : Nat} (hm : CMo w o) {nr : Nat} {rs : Nat → mu_RS} {ra : Nat → Nat} (hr : CRs w o nr rs ra) {i : Nat} (hi : i < nr) {sr : Nat} (hs : mu_iv w o 15 = mI sr) (hsb : sr ≤ 30) {R C : Nat} (hR : 1 ≤ R ∧ R ≤ 16) (hC : 1 ≤ C ∧ C ≤ 16) (hRC : (R + 2) * (C + 2) ≤ 16) (hq1 : rs_nb (rs i) ≠ 0) (hq2 : rs_bo (rs i) % 2 = 0) (hs30 : sr < 30) : mu_Ct G M_X11_garden [.ref o, .int (mI (i : Nat)), .int (mI (R : Nat)), .int (mI (C : Nat))] w (fun r w' => fx_post (mu_si w o 15 (mI ((sr : Int) + 1))) (o + 27) (gd_P (rs i) R C) r w') := by
  obtain ⟨ko, hox, ⟨r0, r1, r2, r3, r4, r6, r8, r10, r11, r12, r13, r14⟩, ⟨k1, k3, k4, kB, k12, k13, k14⟩, kS, kF, kQ, k26, kH⟩ := id hm
  obtain ⟨hn16, hnr, hrs⟩ := id hr
  have hpq : ((R : Int) + 2) * ((C : Int) + 2) = (((R + 2) * (C + 2) : Nat) : Int) := by rw [Int.natCast_mul, Int.natCast_add, Int.natCast_add]; rfl
  refine mu_ofWA G M_X11_garden [.ref o, .int (mI (i : Nat)), .int (mI (R : Nat)), .int (mI (C : Nat)), mu_no] (by decide) rfl (Nat.le_of_ble_eq_true rfl) ?_
  intro X E
  have B : mu_B X G cX11_garden RX11 5 (mu_rm M_X11_garden) := E.1
  show mu_WA X G 5 _ _ 0 0 0 _ []
  refine mu_al_0 B dX11_garden_0 ?_
  refine mu_il_1 B dX11_garden_1 ?_
  refine mu_eV1 B dX11_garden_2 mX11_117 ⟨⟨by decide, by decide⟩, by decide, by decide⟩ (Nat.le_of_ble_eq_true rfl) (by exact ko) (c_X11_ruleAt_y G hm hr hi) ?_
  refine mu_as_4 B dX11_garden_5 (by decide) rfl ?_
  refine mu_al_4 B dX11_garden_7 ?_
  refine mu_ifnull B dX11_garden_9 ?_
  refine mu_il_2 B dX11_garden_12 ?_
  refine mu_il_3 B dX11_garden_13 ?_
  refine mu_iconst (v := mI 2) B dX11_garden_14 rfl ?_
  refine mu_bipush (v := mI 16) B dX11_garden_15 (by decide) ?_
  refine mu_eS4 B dX11_garden_17 mX11_233 ⟨⟨by decide, by decide⟩, by decide, by decide⟩ (Nat.le_of_ble_eq_true rfl) (c_X11_isBox G (x := (R : Nat)) (y := (C : Nat)) (rim := 2) (most := 16) ⟨by omega, by omega⟩ ⟨by omega, by omega⟩ ⟨by decide, by decide⟩ ⟨by decide, by decide⟩) ?_
  refine mu_if_ne (tgt := 25) B dX11_garden_20 (by decide) (fun c20 => ?_) (fun c20 => ?_)
  · have z20 := mu_bt c20
    refine mu_al_0 B dX11_garden_25 ?_
    refine mu_al_4 B dX11_garden_26 ?_
    refine mu_eV1 B dX11_garden_28 mX11_237 ⟨⟨by decide, by decide⟩, by decide, by decide⟩ (Nat.le_of_ble_eq_true rfl) (by exact ko) (c_X11_maySearch G hm (hrs i hi).2.2.2 hs hsb) ?_
    refine mu_if_ne (tgt := 40) B dX11_garden_31 (by decide) (fun c31 => ?_) (fun c31 => ?_)
    · have z31 := mu_bt c31
      refine mu_al_0 B dX11_garden_40 ?_
      refine mu_dup B dX11_garden_41 rfl ?_
      refine mu_getI B dX11_garden_42 fX11_245 rfl (by exact ko) ?_
      rw [hs]
      refine mu_iconst (v := mI 1) B dX11_garden_45 rfl ?_
      refine mu_iadd B dX11_garden_46 ?_
      try rw [mI_add]
      refine mu_putI B dX11_garden_47 fX11_245 fwX11_15 rfl (by exact ko) ?_
      have hF1 : mu_Fi (fun e j => e = o ∧ j = 15) w (mu_si w o 15 (mI ((sr : Int) + 1))) := (mu_Fi.refl _).si ⟨rfl, rfl⟩
      have huq := (hrs i hi).2.2.2.uq hq1 hq2
      have huq1 : RUq (mu_si w o 15 (mI ((sr : Int) + 1))) (ra i) (rs i) := ⟨huq.1.fi hF1 (fun j hh => by have := hh.1; have := (hrs i hi).2.1; omega), huq.2⟩
      refine mu_al_0 B dX11_garden_50 ?_
      refine mu_getR B dX11_garden_51 fX11_84 rfl (by exact ko) (by exact r14) ?_
      refine mu_al_4 B dX11_garden_54 ?_
      refine mu_il_2 B dX11_garden_56 ?_
      refine mu_il_3 B dX11_garden_57 ?_
      refine mu_cV3 B dX11_garden_58 mX11_261 ⟨⟨by decide, by decide⟩, by decide, by decide⟩ (Nat.le_of_ble_eq_true rfl) (by exact kH.1) (c_X7_findGarden G (kH.fi hF1) huq1 hR hC hRC) (fun r58 w58 q58 => ?_)
      obtain ⟨rfl, q58b⟩ := q58
      show mu_WA X G 5 _ _ _ _ 61 _ [.int _]
      refine mu_iret E rfl (by decide) (by decide) dX11_garden_61 ?_
      exact ⟨rfl, q58b⟩
    · have z31 := mu_bf c31
      exact absurd ⟨⟨hq1, hq2⟩, hs30⟩ z31
  · have z20 := mu_bf c20
    exact absurd ⟨by omega, by omega, by omega, by omega, by rw [hpq]; omega⟩ z20

set_option maxHeartbeats 4000000 in
set_option maxRecDepth 100000 in
theorem c_X11_oscillators_n (G : mu_G) {w : mu_W} {o : Nat} (hm : CMo w o) {nr : Nat} {rs : Nat → mu_RS} {ra : Nat → Nat} (hr : CRs w o nr rs ra) {z : Int} (hz : mi_ok z) (hn : ¬ (0 ≤ z ∧ z < nr)) {x y p : Int32} : mu_Ct G M_X11_oscillators [.ref o, .int (mI z), .int x, .int y, .int p] w (fun r w' => r = some (.int (mI (-1))) ∧ w' = w) := by
  obtain ⟨ko, hox, ⟨r0, r1, r2, r3, r4, r6, r8, r10, r11, r12, r13, r14⟩, ⟨k1, k3, k4, kB, k12, k13, k14⟩, kS, kF, kQ, k26, kH⟩ := id hm
  obtain ⟨hn16, hnr, hrs⟩ := id hr
  refine mu_ofWA G M_X11_oscillators [.ref o, .int (mI z), .int x, .int y, .int p, mu_no] (by decide) rfl (Nat.le_of_ble_eq_true rfl) ?_
  intro X E
  have B : mu_B X G cX11_oscillators RX11 6 (mu_rm M_X11_oscillators) := E.1
  show mu_WA X G 6 _ _ 0 0 0 _ []
  refine mu_al_0 B dX11_oscillators_0 ?_
  refine mu_il_1 B dX11_oscillators_1 ?_
  refine mu_eV1 B dX11_oscillators_2 mX11_117 ⟨⟨by decide, by decide⟩, by decide, by decide⟩ (Nat.le_of_ble_eq_true rfl) (by exact ko) (c_X11_ruleAt_n G hm hr hz hn) ?_
  refine mu_ns_5 B dX11_oscillators_5 (by decide) rfl ?_
  refine mu_nl_5 B dX11_oscillators_7 ?_
  refine mu_ifnullN (tgt := 36) B dX11_oscillators_9 (by decide) ?_
  refine mu_iconst (v := mI (-1)) B dX11_oscillators_36 rfl ?_
  refine mu_iret E rfl (by decide) (by decide) dX11_oscillators_37 ?_
  exact ⟨rfl, rfl⟩

set_option maxHeartbeats 4000000 in
set_option maxRecDepth 100000 in
theorem c_X11_oscillators_b (G : mu_G) {w : mu_W} {o : Nat} (hm : CMo w o) {nr : Nat} {rs : Nat → mu_RS} {ra : Nat → Nat} (hr : CRs w o nr rs ra) {i : Nat} (hi : i < nr) {x y p : Int} (hx9 : mi_ok x) (hy9 : mi_ok y) (hp9 : mi_ok p) (hbad : ¬ ((1 ≤ x ∧ x ≤ 16 ∧ 1 ≤ y ∧ y ≤ 16 ∧ (x + 0) * (y + 0) ≤ 12) ∧ 2 ≤ p ∧ p ≤ 6)) : mu_Ct G M_X11_oscillators [.ref o, .int (mI (i : Nat)), .int (mI x), .int (mI y), .int (mI p)] w (fun r w' => r = some (.int (mI (-1))) ∧ w' = w) := by
  obtain ⟨ko, hox, ⟨r0, r1, r2, r3, r4, r6, r8, r10, r11, r12, r13, r14⟩, ⟨k1, k3, k4, kB, k12, k13, k14⟩, kS, kF, kQ, k26, kH⟩ := id hm
  obtain ⟨hn16, hnr, hrs⟩ := id hr
  obtain ⟨hx1, hx2⟩ := hx9
  obtain ⟨hy1, hy2⟩ := hy9
  obtain ⟨hp1, hp2⟩ := hp9
  refine mu_ofWA G M_X11_oscillators [.ref o, .int (mI (i : Nat)), .int (mI x), .int (mI y), .int (mI p), mu_no] (by decide) rfl (Nat.le_of_ble_eq_true rfl) ?_
  intro X E
  have B : mu_B X G cX11_oscillators RX11 6 (mu_rm M_X11_oscillators) := E.1
  show mu_WA X G 6 _ _ 0 0 0 _ []
  refine mu_al_0 B dX11_oscillators_0 ?_
  refine mu_il_1 B dX11_oscillators_1 ?_
  refine mu_eV1 B dX11_oscillators_2 mX11_117 ⟨⟨by decide, by decide⟩, by decide, by decide⟩ (Nat.le_of_ble_eq_true rfl) (by exact ko) (c_X11_ruleAt_y G hm hr hi) ?_
  refine mu_as_5 B dX11_oscillators_5 (by decide) rfl ?_
  refine mu_al_5 B dX11_oscillators_7 ?_
  refine mu_ifnull B dX11_oscillators_9 ?_
  refine mu_il_2 B dX11_oscillators_12 ?_
  refine mu_il_3 B dX11_oscillators_13 ?_
  refine mu_iconst (v := mI 0) B dX11_oscillators_14 rfl ?_
  refine mu_bipush (v := mI 12) B dX11_oscillators_15 (by decide) ?_
  refine mu_eS4 B dX11_oscillators_17 mX11_233 ⟨⟨by decide, by decide⟩, by decide, by decide⟩ (Nat.le_of_ble_eq_true rfl) (c_X11_isBox G (x := x) (y := y) (rim := 0) (most := 12) ⟨by omega, by omega⟩ ⟨by omega, by omega⟩ ⟨by decide, by decide⟩ ⟨by decide, by decide⟩) ?_
  refine mu_if_eq (tgt := 36) B dX11_oscillators_20 (by decide) (fun c20 => ?_) (fun c20 => ?_)
  · have z20 := mu_bf c20
    refine mu_iconst (v := mI (-1)) B dX11_oscillators_36 rfl ?_
    refine mu_iret E rfl (by decide) (by decide) dX11_oscillators_37 ?_
    exact ⟨rfl, rfl⟩
  · have z20 := mu_bt c20
    refine mu_il_4 B dX11_oscillators_23 ?_
    refine mu_iconst (v := mI 2) B dX11_oscillators_25 rfl ?_
    refine mu_icmp_lt (tgt := 36) B dX11_oscillators_26 (by decide) (fun c26 => ?_) (fun c26 => ?_)
    · try rw [mI_lt ⟨by omega, by omega⟩ ⟨by omega, by omega⟩] at c26
      refine mu_iconst (v := mI (-1)) B dX11_oscillators_36 rfl ?_
      refine mu_iret E rfl (by decide) (by decide) dX11_oscillators_37 ?_
      exact ⟨rfl, rfl⟩
    · try rw [mI_lt ⟨by omega, by omega⟩ ⟨by omega, by omega⟩] at c26
      refine mu_il_4 B dX11_oscillators_29 ?_
      refine mu_bipush (v := mI 6) B dX11_oscillators_31 (by decide) ?_
      refine mu_icmp_le (tgt := 38) B dX11_oscillators_33 (by decide) (fun c33 => ?_) (fun c33 => ?_)
      · try rw [mI_le ⟨by omega, by omega⟩ ⟨by omega, by omega⟩] at c33
        exact absurd ⟨z20, by omega, by omega⟩ hbad
      · try rw [mI_le ⟨by omega, by omega⟩ ⟨by omega, by omega⟩] at c33
        refine mu_iconst (v := mI (-1)) B dX11_oscillators_36 rfl ?_
        refine mu_iret E rfl (by decide) (by decide) dX11_oscillators_37 ?_
        exact ⟨rfl, rfl⟩

set_option maxHeartbeats 4000000 in
set_option maxRecDepth 100000 in
theorem c_X11_oscillators_w (G : mu_G) {w : mu_W} {o : Nat} (hm : CMo w o) {nr : Nat} {rs : Nat → mu_RS} {ra : Nat → Nat} (hr : CRs w o nr rs ra) {i : Nat} (hi : i < nr) {sr : Nat} (hs : mu_iv w o 15 = mI sr) (hsb : sr ≤ 30) {R C p : Nat} (hR : 1 ≤ R ∧ R ≤ 16) (hC : 1 ≤ C ∧ C ≤ 16) (hRC : R * C ≤ 12) (hp6 : 2 ≤ p ∧ p ≤ 6) (hno : ¬ ((rs_nb (rs i) ≠ 0 ∧ rs_bo (rs i) % 2 = 0) ∧ sr < 30)) : mu_Ct G M_X11_oscillators [.ref o, .int (mI (i : Nat)), .int (mI (R : Nat)), .int (mI (C : Nat)), .int (mI (p : Nat))] w (fun r w' => r = some (.int (if rs_nb (rs i) ≠ 0 ∧ rs_bo (rs i) % 2 = 0 then mI (-3) else mI (-2))) ∧ w' = w) := by
  obtain ⟨ko, hox, ⟨r0, r1, r2, r3, r4, r6, r8, r10, r11, r12, r13, r14⟩, ⟨k1, k3, k4, kB, k12, k13, k14⟩, kS, kF, kQ, k26, kH⟩ := id hm
  obtain ⟨hn16, hnr, hrs⟩ := id hr
  have hpq : ((R : Int) + 0) * ((C : Int) + 0) = ((R * C : Nat) : Int) := by rw [Int.add_zero, Int.add_zero, Int.natCast_mul]
  refine mu_ofWA G M_X11_oscillators [.ref o, .int (mI (i : Nat)), .int (mI (R : Nat)), .int (mI (C : Nat)), .int (mI (p : Nat)), mu_no] (by decide) rfl (Nat.le_of_ble_eq_true rfl) ?_
  intro X E
  have B : mu_B X G cX11_oscillators RX11 6 (mu_rm M_X11_oscillators) := E.1
  show mu_WA X G 6 _ _ 0 0 0 _ []
  refine mu_al_0 B dX11_oscillators_0 ?_
  refine mu_il_1 B dX11_oscillators_1 ?_
  refine mu_eV1 B dX11_oscillators_2 mX11_117 ⟨⟨by decide, by decide⟩, by decide, by decide⟩ (Nat.le_of_ble_eq_true rfl) (by exact ko) (c_X11_ruleAt_y G hm hr hi) ?_
  refine mu_as_5 B dX11_oscillators_5 (by decide) rfl ?_
  refine mu_al_5 B dX11_oscillators_7 ?_
  refine mu_ifnull B dX11_oscillators_9 ?_
  refine mu_il_2 B dX11_oscillators_12 ?_
  refine mu_il_3 B dX11_oscillators_13 ?_
  refine mu_iconst (v := mI 0) B dX11_oscillators_14 rfl ?_
  refine mu_bipush (v := mI 12) B dX11_oscillators_15 (by decide) ?_
  refine mu_eS4 B dX11_oscillators_17 mX11_233 ⟨⟨by decide, by decide⟩, by decide, by decide⟩ (Nat.le_of_ble_eq_true rfl) (c_X11_isBox G (x := (R : Nat)) (y := (C : Nat)) (rim := 0) (most := 12) ⟨by omega, by omega⟩ ⟨by omega, by omega⟩ ⟨by decide, by decide⟩ ⟨by decide, by decide⟩) ?_
  refine mu_if_eq (tgt := 36) B dX11_oscillators_20 (by decide) (fun c20 => ?_) (fun c20 => ?_)
  · have z20 := mu_bf c20
    exact absurd ⟨by omega, by omega, by omega, by omega, by rw [hpq]; omega⟩ z20
  · have z20 := mu_bt c20
    refine mu_il_4 B dX11_oscillators_23 ?_
    refine mu_iconst (v := mI 2) B dX11_oscillators_25 rfl ?_
    refine mu_icmp_lt (tgt := 36) B dX11_oscillators_26 (by decide) (fun c26 => ?_) (fun c26 => ?_)
    · try rw [mI_lt ⟨by omega, by omega⟩ ⟨by omega, by omega⟩] at c26
      exfalso
      omega
    · try rw [mI_lt ⟨by omega, by omega⟩ ⟨by omega, by omega⟩] at c26
      refine mu_il_4 B dX11_oscillators_29 ?_
      refine mu_bipush (v := mI 6) B dX11_oscillators_31 (by decide) ?_
      refine mu_icmp_le (tgt := 38) B dX11_oscillators_33 (by decide) (fun c33 => ?_) (fun c33 => ?_)
      · try rw [mI_le ⟨by omega, by omega⟩ ⟨by omega, by omega⟩] at c33
        refine mu_al_0 B dX11_oscillators_38 ?_
        refine mu_al_5 B dX11_oscillators_39 ?_
        refine mu_eV1 B dX11_oscillators_41 mX11_237 ⟨⟨by decide, by decide⟩, by decide, by decide⟩ (Nat.le_of_ble_eq_true rfl) (by exact ko) (c_X11_maySearch G hm (hrs i hi).2.2.2 hs hsb) ?_
        refine mu_if_ne (tgt := 53) B dX11_oscillators_44 (by decide) (fun c44 => ?_) (fun c44 => ?_)
        · have z44 := mu_bt c44
          exact absurd z44 hno
        · have z44 := mu_bf c44
          refine mu_al_5 B dX11_oscillators_47 ?_
          refine mu_eS1 B dX11_oscillators_49 mX11_241 ⟨⟨by decide, by decide⟩, by decide, by decide⟩ (Nat.le_of_ble_eq_true rfl) (c_X11_whyNoSearch G (hrs i hi).2.2.2) ?_
          refine mu_iret E rfl (by decide) (by decide) dX11_oscillators_52 ?_
          exact ⟨rfl, rfl⟩
      · try rw [mI_le ⟨by omega, by omega⟩ ⟨by omega, by omega⟩] at c33
        exfalso
        omega

set_option maxHeartbeats 4000000 in
set_option maxRecDepth 100000 in
theorem c_X11_oscillators_y (G : mu_G) {w : mu_W} {o : Nat} (hm : CMo w o) {nr : Nat} {rs : Nat → mu_RS} {ra : Nat → Nat} (hr : CRs w o nr rs ra) {i : Nat} (hi : i < nr) {sr : Nat} (hs : mu_iv w o 15 = mI sr) (hsb : sr ≤ 30) {R C p : Nat} (hR : 1 ≤ R ∧ R ≤ 16) (hC : 1 ≤ C ∧ C ≤ 16) (hRC : R * C ≤ 12) (hp6 : 2 ≤ p ∧ p ≤ 6) (hq1 : rs_nb (rs i) ≠ 0) (hq2 : rs_bo (rs i) % 2 = 0) (hs30 : sr < 30) : mu_Ct G M_X11_oscillators [.ref o, .int (mI (i : Nat)), .int (mI (R : Nat)), .int (mI (C : Nat)), .int (mI (p : Nat))] w (fun r w' => fx_post (mu_si w o 15 (mI ((sr : Int) + 1))) (o + 27) (os_P (rs i) R C p) r w') := by
  obtain ⟨ko, hox, ⟨r0, r1, r2, r3, r4, r6, r8, r10, r11, r12, r13, r14⟩, ⟨k1, k3, k4, kB, k12, k13, k14⟩, kS, kF, kQ, k26, kH⟩ := id hm
  obtain ⟨hn16, hnr, hrs⟩ := id hr
  have hpq : ((R : Int) + 0) * ((C : Int) + 0) = ((R * C : Nat) : Int) := by rw [Int.add_zero, Int.add_zero, Int.natCast_mul]
  refine mu_ofWA G M_X11_oscillators [.ref o, .int (mI (i : Nat)), .int (mI (R : Nat)), .int (mI (C : Nat)), .int (mI (p : Nat)), mu_no] (by decide) rfl (Nat.le_of_ble_eq_true rfl) ?_
  intro X E
  have B : mu_B X G cX11_oscillators RX11 6 (mu_rm M_X11_oscillators) := E.1
  show mu_WA X G 6 _ _ 0 0 0 _ []
  refine mu_al_0 B dX11_oscillators_0 ?_
  refine mu_il_1 B dX11_oscillators_1 ?_
  refine mu_eV1 B dX11_oscillators_2 mX11_117 ⟨⟨by decide, by decide⟩, by decide, by decide⟩ (Nat.le_of_ble_eq_true rfl) (by exact ko) (c_X11_ruleAt_y G hm hr hi) ?_
  refine mu_as_5 B dX11_oscillators_5 (by decide) rfl ?_
  refine mu_al_5 B dX11_oscillators_7 ?_
  refine mu_ifnull B dX11_oscillators_9 ?_
  refine mu_il_2 B dX11_oscillators_12 ?_
  refine mu_il_3 B dX11_oscillators_13 ?_
  refine mu_iconst (v := mI 0) B dX11_oscillators_14 rfl ?_
  refine mu_bipush (v := mI 12) B dX11_oscillators_15 (by decide) ?_
  refine mu_eS4 B dX11_oscillators_17 mX11_233 ⟨⟨by decide, by decide⟩, by decide, by decide⟩ (Nat.le_of_ble_eq_true rfl) (c_X11_isBox G (x := (R : Nat)) (y := (C : Nat)) (rim := 0) (most := 12) ⟨by omega, by omega⟩ ⟨by omega, by omega⟩ ⟨by decide, by decide⟩ ⟨by decide, by decide⟩) ?_
  refine mu_if_eq (tgt := 36) B dX11_oscillators_20 (by decide) (fun c20 => ?_) (fun c20 => ?_)
  · have z20 := mu_bf c20
    exact absurd ⟨by omega, by omega, by omega, by omega, by rw [hpq]; omega⟩ z20
  · have z20 := mu_bt c20
    refine mu_il_4 B dX11_oscillators_23 ?_
    refine mu_iconst (v := mI 2) B dX11_oscillators_25 rfl ?_
    refine mu_icmp_lt (tgt := 36) B dX11_oscillators_26 (by decide) (fun c26 => ?_) (fun c26 => ?_)
    · try rw [mI_lt ⟨by omega, by omega⟩ ⟨by omega, by omega⟩] at c26
      exfalso
      omega
    · try rw [mI_lt ⟨by omega, by omega⟩ ⟨by omega, by omega⟩] at c26
      refine mu_il_4 B dX11_oscillators_29 ?_
      refine mu_bipush (v := mI 6) B dX11_oscillators_31 (by decide) ?_
      refine mu_icmp_le (tgt := 38) B dX11_oscillators_33 (by decide) (fun c33 => ?_) (fun c33 => ?_)
      · try rw [mI_le ⟨by omega, by omega⟩ ⟨by omega, by omega⟩] at c33
        refine mu_al_0 B dX11_oscillators_38 ?_
        refine mu_al_5 B dX11_oscillators_39 ?_
        refine mu_eV1 B dX11_oscillators_41 mX11_237 ⟨⟨by decide, by decide⟩, by decide, by decide⟩ (Nat.le_of_ble_eq_true rfl) (by exact ko) (c_X11_maySearch G hm (hrs i hi).2.2.2 hs hsb) ?_
        refine mu_if_ne (tgt := 53) B dX11_oscillators_44 (by decide) (fun c44 => ?_) (fun c44 => ?_)
        · have z44 := mu_bt c44
          refine mu_al_0 B dX11_oscillators_53 ?_
          refine mu_dup B dX11_oscillators_54 rfl ?_
          refine mu_getI B dX11_oscillators_55 fX11_245 rfl (by exact ko) ?_
          rw [hs]
          refine mu_iconst (v := mI 1) B dX11_oscillators_58 rfl ?_
          refine mu_iadd B dX11_oscillators_59 ?_
          try rw [mI_add]
          refine mu_putI B dX11_oscillators_60 fX11_245 fwX11_15 rfl (by exact ko) ?_
          have hF1 : mu_Fi (fun e j => e = o ∧ j = 15) w (mu_si w o 15 (mI ((sr : Int) + 1))) := (mu_Fi.refl _).si ⟨rfl, rfl⟩
          have huq := (hrs i hi).2.2.2.uq hq1 hq2
          have huq1 : RUq (mu_si w o 15 (mI ((sr : Int) + 1))) (ra i) (rs i) := ⟨huq.1.fi hF1 (fun j hh => by have := hh.1; have := (hrs i hi).2.1; omega), huq.2⟩
          refine mu_al_0 B dX11_oscillators_63 ?_
          refine mu_getR B dX11_oscillators_64 fX11_84 rfl (by exact ko) (by exact r14) ?_
          refine mu_al_5 B dX11_oscillators_67 ?_
          refine mu_il_2 B dX11_oscillators_69 ?_
          refine mu_il_3 B dX11_oscillators_70 ?_
          refine mu_il_4 B dX11_oscillators_71 ?_
          refine mu_cV4 B dX11_oscillators_73 mX11_252 ⟨⟨by decide, by decide⟩, by decide, by decide⟩ (Nat.le_of_ble_eq_true rfl) (by exact kH.1) (c_X7_findOscillators G (kH.fi hF1) huq1 hR hC hRC hp6) (fun r73 w73 q73 => ?_)
          obtain ⟨rfl, q73b⟩ := q73
          show mu_WA X G 6 _ _ _ _ 76 _ [.int _]
          refine mu_iret E rfl (by decide) (by decide) dX11_oscillators_76 ?_
          exact ⟨rfl, q73b⟩
        · have z44 := mu_bf c44
          exact absurd ⟨⟨hq1, hq2⟩, hs30⟩ z44
      · try rw [mI_le ⟨by omega, by omega⟩ ⟨by omega, by omega⟩] at c33
        exfalso
        omega
