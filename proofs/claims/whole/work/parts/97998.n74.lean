/-! ===== the class: ancestors called ===== -/
set_option maxHeartbeats 4000000 in
set_option maxRecDepth 100000 in
theorem c_X11_ancestors_n (G : mu_G) {w : mu_W} {o : Nat} (hm : CMo w o) {nr : Nat} {rs : Nat → mu_RS} {ra : Nat → Nat} (hr : CRs w o nr rs ra) {z : Int} (hz : mi_ok z) (hn : ¬ (0 ≤ z ∧ z < nr)) {x y p : Int32} : mu_Ct G M_X11_ancestors [.ref o, .int (mI z), .int x, .int y, .int p] w (fun r w' => r = some (.int (mI (-1))) ∧ w' = w) := by
  obtain ⟨ko, hox, ⟨r0, r1, r2, r3, r4, r6, r8, r10, r11, r12, r13, r14⟩, ⟨k1, k3, k4, kB, k12, k13, k14⟩, kS, kF, kQ, k26, kH⟩ := id hm
  obtain ⟨hn16, hnr, hrs⟩ := id hr
  refine mu_ofWA G M_X11_ancestors [.ref o, .int (mI z), .int x, .int y, .int p, mu_no] (by decide) rfl (Nat.le_of_ble_eq_true rfl) ?_
  intro X E
  have B : mu_B X G cX11_ancestors RX11 6 (mu_rm M_X11_ancestors) := E.1
  show mu_WA X G 6 _ _ 0 0 0 _ []
  refine mu_al_0 B dX11_ancestors_0 ?_
  refine mu_il_1 B dX11_ancestors_1 ?_
  refine mu_eV1 B dX11_ancestors_2 mX11_117 ⟨⟨by decide, by decide⟩, by decide, by decide⟩ (Nat.le_of_ble_eq_true rfl) (by exact ko) (c_X11_ruleAt_n G hm hr hz hn) ?_
  refine mu_ns_5 B dX11_ancestors_5 (by decide) rfl ?_
  refine mu_nl_5 B dX11_ancestors_7 ?_
  refine mu_ifnullN (tgt := 38) B dX11_ancestors_9 (by decide) ?_
  refine mu_iconst (v := mI (-1)) B dX11_ancestors_38 rfl ?_
  refine mu_iret E rfl (by decide) (by decide) dX11_ancestors_39 ?_
  exact ⟨rfl, rfl⟩

set_option maxHeartbeats 4000000 in
set_option maxRecDepth 100000 in
theorem c_X11_ancestors_b (G : mu_G) {w : mu_W} {o : Nat} (hm : CMo w o) {nr : Nat} {rs : Nat → mu_RS} {ra : Nat → Nat} (hr : CRs w o nr rs ra) {i : Nat} (hi : i < nr) {x y p : Int} (hx9 : mi_ok x) (hy9 : mi_ok y) (hp9 : mi_ok p) (hbad : ¬ ((1 ≤ x ∧ x ≤ 16 ∧ 1 ≤ y ∧ y ≤ 16 ∧ (x + 2) * (y + 2) ≤ 16) ∧ 0 ≤ p ∧ p < ((2 ^ (x.toNat * y.toNat) : Nat) : Int))) : mu_Ct G M_X11_ancestors [.ref o, .int (mI (i : Nat)), .int (mI x), .int (mI y), .int (mI p)] w (fun r w' => r = some (.int (mI (-1))) ∧ w' = w) := by
  obtain ⟨ko, hox, ⟨r0, r1, r2, r3, r4, r6, r8, r10, r11, r12, r13, r14⟩, ⟨k1, k3, k4, kB, k12, k13, k14⟩, kS, kF, kQ, k26, kH⟩ := id hm
  obtain ⟨hn16, hnr, hrs⟩ := id hr
  obtain ⟨hx1, hx2⟩ := hx9
  obtain ⟨hy1, hy2⟩ := hy9
  obtain ⟨hp1, hp2⟩ := hp9
  refine mu_ofWA G M_X11_ancestors [.ref o, .int (mI (i : Nat)), .int (mI x), .int (mI y), .int (mI p), mu_no] (by decide) rfl (Nat.le_of_ble_eq_true rfl) ?_
  intro X E
  have B : mu_B X G cX11_ancestors RX11 6 (mu_rm M_X11_ancestors) := E.1
  show mu_WA X G 6 _ _ 0 0 0 _ []
  refine mu_al_0 B dX11_ancestors_0 ?_
  refine mu_il_1 B dX11_ancestors_1 ?_
  refine mu_eV1 B dX11_ancestors_2 mX11_117 ⟨⟨by decide, by decide⟩, by decide, by decide⟩ (Nat.le_of_ble_eq_true rfl) (by exact ko) (c_X11_ruleAt_y G hm hr hi) ?_
  refine mu_as_5 B dX11_ancestors_5 (by decide) rfl ?_
  refine mu_al_5 B dX11_ancestors_7 ?_
  refine mu_ifnull B dX11_ancestors_9 ?_
  refine mu_il_2 B dX11_ancestors_12 ?_
  refine mu_il_3 B dX11_ancestors_13 ?_
  refine mu_iconst (v := mI 2) B dX11_ancestors_14 rfl ?_
  refine mu_bipush (v := mI 16) B dX11_ancestors_15 (by decide) ?_
  refine mu_eS4 B dX11_ancestors_17 mX11_233 ⟨⟨by decide, by decide⟩, by decide, by decide⟩ (Nat.le_of_ble_eq_true rfl) (c_X11_isBox G (x := x) (y := y) (rim := 2) (most := 16) ⟨by omega, by omega⟩ ⟨by omega, by omega⟩ ⟨by decide, by decide⟩ ⟨by decide, by decide⟩) ?_
  refine mu_if_eq (tgt := 38) B dX11_ancestors_20 (by decide) (fun c20 => ?_) (fun c20 => ?_)
  · have z20 := mu_bf c20
    refine mu_iconst (v := mI (-1)) B dX11_ancestors_38 rfl ?_
    refine mu_iret E rfl (by decide) (by decide) dX11_ancestors_39 ?_
    exact ⟨rfl, rfl⟩
  · have z20 := mu_bt c20
    obtain ⟨R, hR9⟩ : ∃ R : Nat, x = R := ⟨x.toNat, by omega⟩
    subst hR9
    obtain ⟨C, hC9⟩ : ∃ C : Nat, y = C := ⟨y.toNat, by omega⟩
    subst hC9
    rw [Int.toNat_natCast, Int.toNat_natCast] at hbad
    have hpq : ((R : Int) + 2) * ((C : Int) + 2) = (((R + 2) * (C + 2) : Nat) : Int) := by rw [Int.natCast_mul, Int.natCast_add, Int.natCast_add]; rfl
    have hRC : (R + 2) * (C + 2) ≤ 16 := by have := z20.2.2.2.2; rw [hpq] at this; omega
    have hRC6 : R * C ≤ 16 := Nat.le_trans (Nat.mul_le_mul (Nat.le_add_right R 2) (Nat.le_add_right C 2)) hRC
    have h2p : 2 ^ (R * C) ≤ 65536 := Nat.pow_le_pow_right (n := 2) (by decide) hRC6
    have h2q : (0 : Int) ≤ ((2 ^ (R * C) : Nat) : Int) := Int.natCast_nonneg _
    refine mu_il_4 B dX11_ancestors_23 ?_
    refine mu_if_lt (tgt := 38) B dX11_ancestors_25 (by decide) (fun c25 => ?_) (fun c25 => ?_)
    · try rw [mI_lt0 ⟨by omega, by omega⟩] at c25
      refine mu_iconst (v := mI (-1)) B dX11_ancestors_38 rfl ?_
      refine mu_iret E rfl (by decide) (by decide) dX11_ancestors_39 ?_
      exact ⟨rfl, rfl⟩
    · try rw [mI_lt0 ⟨by omega, by omega⟩] at c25
      refine mu_il_4 B dX11_ancestors_28 ?_
      refine mu_iconst (v := mI 1) B dX11_ancestors_30 rfl ?_
      refine mu_il_2 B dX11_ancestors_31 ?_
      refine mu_il_3 B dX11_ancestors_32 ?_
      refine mu_imul B dX11_ancestors_33 ?_
      try rw [mI_mul]
      rw [show (R : Int) * (C : Int) = ((R * C : Nat) : Int) from (Int.natCast_mul R C).symm]
      refine mu_ishl B dX11_ancestors_34 ?_
      rw [mI_shl _ _ (by omega), Int.one_mul]
      rw [show (2 : Int) ^ (R * C) = ((2 ^ (R * C) : Nat) : Int) by rw [Int.natCast_pow]; rfl]
      refine mu_icmp_lt (tgt := 40) B dX11_ancestors_35 (by decide) (fun c35 => ?_) (fun c35 => ?_)
      · try rw [mI_lt ⟨by omega, by omega⟩ ⟨by omega, by omega⟩] at c35
        exact absurd ⟨z20, by omega, by omega⟩ hbad
      · try rw [mI_lt ⟨by omega, by omega⟩ ⟨by omega, by omega⟩] at c35
        refine mu_iconst (v := mI (-1)) B dX11_ancestors_38 rfl ?_
        refine mu_iret E rfl (by decide) (by decide) dX11_ancestors_39 ?_
        exact ⟨rfl, rfl⟩

set_option maxHeartbeats 4000000 in
set_option maxRecDepth 100000 in
theorem c_X11_ancestors_w (G : mu_G) {w : mu_W} {o : Nat} (hm : CMo w o) {nr : Nat} {rs : Nat → mu_RS} {ra : Nat → Nat} (hr : CRs w o nr rs ra) {i : Nat} (hi : i < nr) {sr : Nat} (hs : mu_iv w o 15 = mI sr) (hsb : sr ≤ 30) {R C p : Nat} (hR : 1 ≤ R ∧ R ≤ 16) (hC : 1 ≤ C ∧ C ≤ 16) (hRC : (R + 2) * (C + 2) ≤ 16) (hpp : p < 2 ^ (R * C)) (hno : ¬ ((rs_nb (rs i) ≠ 0 ∧ rs_bo (rs i) % 2 = 0) ∧ sr < 30)) : mu_Ct G M_X11_ancestors [.ref o, .int (mI (i : Nat)), .int (mI (R : Nat)), .int (mI (C : Nat)), .int (mI (p : Nat))] w (fun r w' => r = some (.int (if rs_nb (rs i) ≠ 0 ∧ rs_bo (rs i) % 2 = 0 then mI (-3) else mI (-2))) ∧ w' = w) := by
  obtain ⟨ko, hox, ⟨r0, r1, r2, r3, r4, r6, r8, r10, r11, r12, r13, r14⟩, ⟨k1, k3, k4, kB, k12, k13, k14⟩, kS, kF, kQ, k26, kH⟩ := id hm
  obtain ⟨hn16, hnr, hrs⟩ := id hr
  have hpq : ((R : Int) + 2) * ((C : Int) + 2) = (((R + 2) * (C + 2) : Nat) : Int) := by rw [Int.natCast_mul, Int.natCast_add, Int.natCast_add]; rfl
  have hRC6 : R * C ≤ 16 := Nat.le_trans (Nat.mul_le_mul (Nat.le_add_right R 2) (Nat.le_add_right C 2)) hRC
  have h2p : 2 ^ (R * C) ≤ 65536 := Nat.pow_le_pow_right (n := 2) (by decide) hRC6
  have h2q : (0 : Int) ≤ ((2 ^ (R * C) : Nat) : Int) := Int.natCast_nonneg _
  refine mu_ofWA G M_X11_ancestors [.ref o, .int (mI (i : Nat)), .int (mI (R : Nat)), .int (mI (C : Nat)), .int (mI (p : Nat)), mu_no] (by decide) rfl (Nat.le_of_ble_eq_true rfl) ?_
  intro X E
  have B : mu_B X G cX11_ancestors RX11 6 (mu_rm M_X11_ancestors) := E.1
  show mu_WA X G 6 _ _ 0 0 0 _ []
  refine mu_al_0 B dX11_ancestors_0 ?_
  refine mu_il_1 B dX11_ancestors_1 ?_
  refine mu_eV1 B dX11_ancestors_2 mX11_117 ⟨⟨by decide, by decide⟩, by decide, by decide⟩ (Nat.le_of_ble_eq_true rfl) (by exact ko) (c_X11_ruleAt_y G hm hr hi) ?_
  refine mu_as_5 B dX11_ancestors_5 (by decide) rfl ?_
  refine mu_al_5 B dX11_ancestors_7 ?_
  refine mu_ifnull B dX11_ancestors_9 ?_
  refine mu_il_2 B dX11_ancestors_12 ?_
  refine mu_il_3 B dX11_ancestors_13 ?_
  refine mu_iconst (v := mI 2) B dX11_ancestors_14 rfl ?_
  refine mu_bipush (v := mI 16) B dX11_ancestors_15 (by decide) ?_
  refine mu_eS4 B dX11_ancestors_17 mX11_233 ⟨⟨by decide, by decide⟩, by decide, by decide⟩ (Nat.le_of_ble_eq_true rfl) (c_X11_isBox G (x := (R : Nat)) (y := (C : Nat)) (rim := 2) (most := 16) ⟨by omega, by omega⟩ ⟨by omega, by omega⟩ ⟨by decide, by decide⟩ ⟨by decide, by decide⟩) ?_
  refine mu_if_eq (tgt := 38) B dX11_ancestors_20 (by decide) (fun c20 => ?_) (fun c20 => ?_)
  · have z20 := mu_bf c20
    exact absurd ⟨by omega, by omega, by omega, by omega, by rw [hpq]; omega⟩ z20
  · have z20 := mu_bt c20
    refine mu_il_4 B dX11_ancestors_23 ?_
    refine mu_if_lt (tgt := 38) B dX11_ancestors_25 (by decide) (fun c25 => ?_) (fun c25 => ?_)
    · try rw [mI_lt0 ⟨by omega, by omega⟩] at c25
      exfalso
      omega
    · try rw [mI_lt0 ⟨by omega, by omega⟩] at c25
      refine mu_il_4 B dX11_ancestors_28 ?_
      refine mu_iconst (v := mI 1) B dX11_ancestors_30 rfl ?_
      refine mu_il_2 B dX11_ancestors_31 ?_
      refine mu_il_3 B dX11_ancestors_32 ?_
      refine mu_imul B dX11_ancestors_33 ?_
      try rw [mI_mul]
      rw [show (R : Int) * (C : Int) = ((R * C : Nat) : Int) from (Int.natCast_mul R C).symm]
      refine mu_ishl B dX11_ancestors_34 ?_
      rw [mI_shl _ _ (by omega), Int.one_mul]
      rw [show (2 : Int) ^ (R * C) = ((2 ^ (R * C) : Nat) : Int) by rw [Int.natCast_pow]; rfl]
      refine mu_icmp_lt (tgt := 40) B dX11_ancestors_35 (by decide) (fun c35 => ?_) (fun c35 => ?_)
      · try rw [mI_lt ⟨by omega, by omega⟩ ⟨by omega, by omega⟩] at c35
        refine mu_al_0 B dX11_ancestors_40 ?_
        refine mu_al_5 B dX11_ancestors_41 ?_
        refine mu_eV1 B dX11_ancestors_43 mX11_237 ⟨⟨by decide, by decide⟩, by decide, by decide⟩ (Nat.le_of_ble_eq_true rfl) (by exact ko) (c_X11_maySearch G hm (hrs i hi).2.2.2 hs hsb) ?_
        refine mu_if_ne (tgt := 55) B dX11_ancestors_46 (by decide) (fun c46 => ?_) (fun c46 => ?_)
        · have z46 := mu_bt c46
          exact absurd z46 hno
        · have z46 := mu_bf c46
          refine mu_al_5 B dX11_ancestors_49 ?_
          refine mu_eS1 B dX11_ancestors_51 mX11_241 ⟨⟨by decide, by decide⟩, by decide, by decide⟩ (Nat.le_of_ble_eq_true rfl) (c_X11_whyNoSearch G (hrs i hi).2.2.2) ?_
          refine mu_iret E rfl (by decide) (by decide) dX11_ancestors_54 ?_
          exact ⟨rfl, rfl⟩
      · try rw [mI_lt ⟨by omega, by omega⟩ ⟨by omega, by omega⟩] at c35
        exfalso
        omega

set_option maxHeartbeats 4000000 in
set_option maxRecDepth 100000 in
theorem c_X11_ancestors_y (G : mu_G) {w : mu_W} {o : Nat} (hm : CMo w o) {nr : Nat} {rs : Nat → mu_RS} {ra : Nat → Nat} (hr : CRs w o nr rs ra) {i : Nat} (hi : i < nr) {sr : Nat} (hs : mu_iv w o 15 = mI sr) (hsb : sr ≤ 30) {R C p : Nat} (hR : 1 ≤ R ∧ R ≤ 16) (hC : 1 ≤ C ∧ C ≤ 16) (hRC : (R + 2) * (C + 2) ≤ 16) (hpp : p < 2 ^ (R * C)) (hq1 : rs_nb (rs i) ≠ 0) (hq2 : rs_bo (rs i) % 2 = 0) (hs30 : sr < 30) : mu_Ct G M_X11_ancestors [.ref o, .int (mI (i : Nat)), .int (mI (R : Nat)), .int (mI (C : Nat)), .int (mI (p : Nat))] w (fun r w' => fa_post (mu_si w o 15 (mI ((sr : Int) + 1))) (o + 27) (rs i) R C p 65536 r w') := by
  obtain ⟨ko, hox, ⟨r0, r1, r2, r3, r4, r6, r8, r10, r11, r12, r13, r14⟩, ⟨k1, k3, k4, kB, k12, k13, k14⟩, kS, kF, kQ, k26, kH⟩ := id hm
  obtain ⟨hn16, hnr, hrs⟩ := id hr
  have hpq : ((R : Int) + 2) * ((C : Int) + 2) = (((R + 2) * (C + 2) : Nat) : Int) := by rw [Int.natCast_mul, Int.natCast_add, Int.natCast_add]; rfl
  have hRC6 : R * C ≤ 16 := Nat.le_trans (Nat.mul_le_mul (Nat.le_add_right R 2) (Nat.le_add_right C 2)) hRC
  have h2p : 2 ^ (R * C) ≤ 65536 := Nat.pow_le_pow_right (n := 2) (by decide) hRC6
  have h2q : (0 : Int) ≤ ((2 ^ (R * C) : Nat) : Int) := Int.natCast_nonneg _
  refine mu_ofWA G M_X11_ancestors [.ref o, .int (mI (i : Nat)), .int (mI (R : Nat)), .int (mI (C : Nat)), .int (mI (p : Nat)), mu_no] (by decide) rfl (Nat.le_of_ble_eq_true rfl) ?_
  intro X E
  have B : mu_B X G cX11_ancestors RX11 6 (mu_rm M_X11_ancestors) := E.1
  show mu_WA X G 6 _ _ 0 0 0 _ []
  refine mu_al_0 B dX11_ancestors_0 ?_
  refine mu_il_1 B dX11_ancestors_1 ?_
  refine mu_eV1 B dX11_ancestors_2 mX11_117 ⟨⟨by decide, by decide⟩, by decide, by decide⟩ (Nat.le_of_ble_eq_true rfl) (by exact ko) (c_X11_ruleAt_y G hm hr hi) ?_
  refine mu_as_5 B dX11_ancestors_5 (by decide) rfl ?_
  refine mu_al_5 B dX11_ancestors_7 ?_
  refine mu_ifnull B dX11_ancestors_9 ?_
  refine mu_il_2 B dX11_ancestors_12 ?_
  refine mu_il_3 B dX11_ancestors_13 ?_
  refine mu_iconst (v := mI 2) B dX11_ancestors_14 rfl ?_
  refine mu_bipush (v := mI 16) B dX11_ancestors_15 (by decide) ?_
  refine mu_eS4 B dX11_ancestors_17 mX11_233 ⟨⟨by decide, by decide⟩, by decide, by decide⟩ (Nat.le_of_ble_eq_true rfl) (c_X11_isBox G (x := (R : Nat)) (y := (C : Nat)) (rim := 2) (most := 16) ⟨by omega, by omega⟩ ⟨by omega, by omega⟩ ⟨by decide, by decide⟩ ⟨by decide, by decide⟩) ?_
  refine mu_if_eq (tgt := 38) B dX11_ancestors_20 (by decide) (fun c20 => ?_) (fun c20 => ?_)
  · have z20 := mu_bf c20
    exact absurd ⟨by omega, by omega, by omega, by omega, by rw [hpq]; omega⟩ z20
  · have z20 := mu_bt c20
    refine mu_il_4 B dX11_ancestors_23 ?_
    refine mu_if_lt (tgt := 38) B dX11_ancestors_25 (by decide) (fun c25 => ?_) (fun c25 => ?_)
    · try rw [mI_lt0 ⟨by omega, by omega⟩] at c25
      exfalso
      omega
    · try rw [mI_lt0 ⟨by omega, by omega⟩] at c25
      refine mu_il_4 B dX11_ancestors_28 ?_
      refine mu_iconst (v := mI 1) B dX11_ancestors_30 rfl ?_
      refine mu_il_2 B dX11_ancestors_31 ?_
      refine mu_il_3 B dX11_ancestors_32 ?_
      refine mu_imul B dX11_ancestors_33 ?_
      try rw [mI_mul]
      rw [show (R : Int) * (C : Int) = ((R * C : Nat) : Int) from (Int.natCast_mul R C).symm]
      refine mu_ishl B dX11_ancestors_34 ?_
      rw [mI_shl _ _ (by omega), Int.one_mul]
      rw [show (2 : Int) ^ (R * C) = ((2 ^ (R * C) : Nat) : Int) by rw [Int.natCast_pow]; rfl]
      refine mu_icmp_lt (tgt := 40) B dX11_ancestors_35 (by decide) (fun c35 => ?_) (fun c35 => ?_)
      · try rw [mI_lt ⟨by omega, by omega⟩ ⟨by omega, by omega⟩] at c35
        refine mu_al_0 B dX11_ancestors_40 ?_
        refine mu_al_5 B dX11_ancestors_41 ?_
        refine mu_eV1 B dX11_ancestors_43 mX11_237 ⟨⟨by decide, by decide⟩, by decide, by decide⟩ (Nat.le_of_ble_eq_true rfl) (by exact ko) (c_X11_maySearch G hm (hrs i hi).2.2.2 hs hsb) ?_
        refine mu_if_ne (tgt := 55) B dX11_ancestors_46 (by decide) (fun c46 => ?_) (fun c46 => ?_)
        · have z46 := mu_bt c46
          refine mu_al_0 B dX11_ancestors_55 ?_
          refine mu_dup B dX11_ancestors_56 rfl ?_
          refine mu_getI B dX11_ancestors_57 fX11_245 rfl (by exact ko) ?_
          rw [hs]
          refine mu_iconst (v := mI 1) B dX11_ancestors_60 rfl ?_
          refine mu_iadd B dX11_ancestors_61 ?_
          try rw [mI_add]
          refine mu_putI B dX11_ancestors_62 fX11_245 fwX11_15 rfl (by exact ko) ?_
          have hF1 : mu_Fi (fun e j => e = o ∧ j = 15) w (mu_si w o 15 (mI ((sr : Int) + 1))) := (mu_Fi.refl _).si ⟨rfl, rfl⟩
          have huq := (hrs i hi).2.2.2.uq hq1 hq2
          have huq1 : RUq (mu_si w o 15 (mI ((sr : Int) + 1))) (ra i) (rs i) := ⟨huq.1.fi hF1 (fun j hh => by have := hh.1; have := (hrs i hi).2.1; omega), huq.2⟩
          refine mu_al_0 B dX11_ancestors_65 ?_
          refine mu_getR B dX11_ancestors_66 fX11_84 rfl (by exact ko) (by exact r14) ?_
          refine mu_al_5 B dX11_ancestors_69 ?_
          refine mu_il_2 B dX11_ancestors_71 ?_
          refine mu_il_3 B dX11_ancestors_72 ?_
          refine mu_il_4 B dX11_ancestors_73 ?_
          refine mu_ldcw B kX11_256 dX11_ancestors_75 ?_
          refine mu_cV5 B dX11_ancestors_78 mX11_257 ⟨⟨by decide, by decide⟩, by decide, by decide⟩ (Nat.le_of_ble_eq_true rfl) (by exact kH.1) (c_X7_findAncestors G (kH.fi hF1) huq1 (most := 65536) hR hC hRC hpp (by decide)) (fun r78 w78 q78 => ?_)
          obtain ⟨hF7, q9, q91, q92, q93, rfl⟩ := q78
          show mu_WA X G 6 _ _ _ _ 81 _ [.int _]
          refine mu_iret E rfl (by decide) (by decide) dX11_ancestors_81 ?_
          exact ⟨hF7, q9, q91, q92, q93, rfl⟩
        · have z46 := mu_bf c46
          exact absurd ⟨⟨hq1, hq2⟩, hs30⟩ z46
      · try rw [mI_lt ⟨by omega, by omega⟩ ⟨by omega, by omega⟩] at c35
        exfalso
        omega
