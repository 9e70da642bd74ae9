/-! ===== the class: a field laid, grids ===== -/
def nvr : Nat → Nat → Prop := fun _ _ => False
theorem NF.rg {w0 w : mu_W} {a n : Nat} (h : NF w0 a n w) : RG nvr a w0 w := fun q hq => ⟨(h.2.1 q (by omega)).1, h.2.2.1 q hq, fun j _ => ⟨(h.2.1 q (by omega)).2.1 j, (h.2.1 q (by omega)).2.2 j⟩⟩

set_option maxHeartbeats 4000000 in
set_option maxRecDepth 100000 in
theorem c_X11_field_y1 (G : mu_G) {w : mu_W} {o : Nat} (hm : CMo w o) {nr : Nat} {rs : Nat → mu_RS} {ra : Nat → Nat} (hr : CRs w o nr rs ra) {i : Nat} (hi : i < nr) (hq1 : rs_nb (rs i) ≠ 0) (hq2 : rs_bo (rs i) % 2 = 0) {nf : Nat} {fs : Nat → mu_FS} {hf : Nat} {fa : Nat → Nat} (hF : CFs w o ra nf fs hf fa) (hfull : nf < 8) (hex : nf = hf) : mu_Ct G M_X11_field [.ref o, .int (mI (i : Nat))] w (fun r w' => r = some (.int (mI (nf : Nat))) ∧ ∃ w1 w2, RG nvr (mu_nx w) w w1 ∧ mu_nx w1 = mu_nx w + 3 ∧ CFo w1 (mu_nx w) ∧ cle_post (mu_si (mu_sr (mu_sr w1 (o + 13) nf (some (mu_nx w))) (mu_nx w) 2 (some (ra i))) (mu_nx w) 3 (mI (i : Nat))) (mu_nx w) none w2 ∧ w' = mu_si w2 o 7 (mI ((nf : Int) + 1))) := by
  obtain ⟨ko, hox, ⟨r0, r1, r2, r3, r4, r6, r8, r10, r11, r12, r13, r14⟩, ⟨k1, k3, k4, kB, k12, k13, k14⟩, kS, kF, kQ, k26, kH⟩ := id hm
  obtain ⟨hn16, hnr, hrs⟩ := id hr
  obtain ⟨hn1, hn8, hnf, hfs, hfn, hfi, hf1⟩ := id hF
  refine mu_ofWA G M_X11_field [.ref o, .int (mI (i : Nat)), mu_no, mu_no] (by decide) rfl (Nat.le_of_ble_eq_true rfl) ?_
  intro X E
  have B : mu_B X G cX11_field RX11 4 (mu_rm M_X11_field) := E.1
  show mu_WA X G 4 _ _ 0 0 0 _ []
  refine mu_al_0 B dX11_field_0 ?_
  refine mu_il_1 B dX11_field_1 ?_
  refine mu_eV1 B dX11_field_2 mX11_117 ⟨⟨by decide, by decide⟩, by decide, by decide⟩ (Nat.le_of_ble_eq_true rfl) (by exact ko) (c_X11_ruleAt_y G hm hr hi) ?_
  refine mu_as_2 B dX11_field_5 (by decide) rfl ?_
  refine mu_al_2 B dX11_field_6 ?_
  refine mu_ifnonnull (tgt := 12) B dX11_field_7 (by decide) ?_
  refine mu_al_2 B dX11_field_12 ?_
  refine mu_eV0 B dX11_field_13 mX11_131 ⟨⟨by decide, by decide⟩, by decide, by decide⟩ (Nat.le_of_ble_eq_true rfl) (by exact (hrs i hi).2.2.2.1) (c_X4_keepsVoid G (hrs i hi).2.2.2) ?_
  refine mu_if_ne (tgt := 22) B dX11_field_16 (by decide) (fun c16 => ?_) (fun c16 => ?_)
  · have z16 := mu_bt c16
    refine mu_al_0 B dX11_field_22 ?_
    refine mu_getI B dX11_field_23 fX11_125 rfl (by exact ko) ?_
    rw [hnf]
    refine mu_bipush (v := mI 8) B dX11_field_26 (by decide) ?_
    refine mu_icmp_lt (tgt := 34) B dX11_field_28 (by decide) (fun c28 => ?_) (fun c28 => ?_)
    · try rw [mI_lt ⟨by omega, by omega⟩ ⟨by omega, by omega⟩] at c28
      refine mu_al_0 B dX11_field_34 ?_
      refine mu_getR B dX11_field_35 fX11_45 rfl (by exact ko) (by exact r6) ?_
      refine mu_al_0 B dX11_field_38 ?_
      refine mu_getI B dX11_field_39 fX11_125 rfl (by exact ko) ?_
      rw [hnf]
      refine mu_aaldN B dX11_field_42 (by exact k13) (by simp) (mI_inN (by omega) (by decide)) (by rw [mI_clampN (by omega)]; exact hfn nf (by omega) (by omega)) ?_
      refine mu_ns_3 B dX11_field_43 (by decide) rfl ?_
      refine mu_nl_3 B dX11_field_44 ?_
      refine mu_ifnonnullN B dX11_field_45 ?_
      refine mu_new B dX11_field_48 cfX1 nlX11_43 niX1 ndX1 (by decide) (by decide) ?_
      have hA : RG nvr (mu_nx w) w (mu_al w 1 0) := (RG.refl w).al (Nat.le_refl _) 1 0
      have hk9 : mu_kd (mu_al w 1 0) (mu_nx w) = some (1, 0) := by rw [mu_kd_al, if_pos rfl]
      have hn9 : mu_nx (mu_al w 1 0) = mu_nx w + 1 := rfl
      generalize (mu_al w 1 0) = w9 at hA hk9 hn9 ⊢
      refine mu_dup B dX11_field_51 rfl ?_
      refine mu_cN0 B dX11_field_52 mX11_62 ⟨⟨by decide, by decide⟩, by decide, by decide⟩ (Nat.le_of_ble_eq_true rfl) (c_X1_init G hk9 hn9) (fun r52 w52 q52 => ?_)
      obtain ⟨rfl, hNF, hfo⟩ := q52
      have hGA := hA.trans hNF.rg
      have n52 : mu_nx w52 = mu_nx w + 3 := hNF.1
      show mu_WA X G 4 _ _ _ _ 55 _ [.ref (mu_nx w)]
      refine mu_as_3 B dX11_field_55 (by decide) rfl ?_
      refine mu_al_0 B dX11_field_56 ?_
      refine mu_getR B dX11_field_57 fX11_45 rfl (hGA.kd ko (by omega)) (hGA.rv r6 (by omega)) ?_
      refine mu_al_0 B dX11_field_60 ?_
      refine mu_getI B dX11_field_61 fX11_125 rfl (hGA.kd ko (by omega)) ?_
      rw [hGA.iv hnf (by omega) id]
      refine mu_al_3 B dX11_field_64 ?_
      refine mu_aast (ka := 5) (t := 1) B dX11_field_65 (hGA.kd k13 (by omega)) (by decide) rfl rfl (by decide) hfo.1 (mI_inN (by omega) (by decide)) ?_
      rw [mI_clampN (by omega)]
      have hfo2 : CFo (mu_sr w52 (o + 13) nf (some (mu_nx w))) (mu_nx w) := hfo.sm rfl rfl rfl (by rw [mu_rv_sr, if_neg (by omega)]) (by rw [mu_rv_sr, if_neg (by omega)])
      have ko2 : mu_kd (mu_sr w52 (o + 13) nf (some (mu_nx w))) o = some (11, 0) := hGA.kd ko (by omega)
      refine mu_al_3 B dX11_field_66 ?_
      refine mu_al_2 B dX11_field_67 ?_
      refine mu_il_1 B dX11_field_68 ?_
      refine mu_cV2 B dX11_field_69 mX11_135 ⟨⟨by decide, by decide⟩, by decide, by decide⟩ (Nat.le_of_ble_eq_true rfl) (by exact hfo2.1) (c_X1_begin G hfo2) (fun r69 w69 q69 => ?_)
      obtain ⟨rfl, q69b⟩ := q69
      have hF9 := q69b.1
      refine mu_al_0 B dX11_field_72 ?_
      refine mu_dup B dX11_field_73 rfl ?_
      refine mu_getI B dX11_field_74 fX11_125 rfl (hF9.kd (by exact ko2)) ?_
      rw [hF9.iv (fun hh => by rcases hh with hh | hh | hh <;> omega) (show mu_iv (mu_si (mu_sr (mu_sr w52 (o + 13) nf (some (mu_nx w))) (mu_nx w) 2 (some (ra i))) (mu_nx w) 3 (mI (i : Nat))) o 7 = mI nf by rw [mu_iv_oth _ _ (by omega), mu_iv_sr, mu_iv_sr]; exact hGA.iv hnf (by omega) id)]
      refine mu_iconst (v := mI 1) B dX11_field_77 rfl ?_
      refine mu_iadd B dX11_field_78 ?_
      try rw [mI_add]
      refine mu_putI B dX11_field_79 fX11_125 fwX11_7 rfl (hF9.kd (by exact ko2)) ?_
      refine mu_al_0 B dX11_field_82 ?_
      refine mu_getI B dX11_field_83 fX11_125 rfl (hF9.kd (by exact ko2)) ?_
      rw [mu_iv_same]
      refine mu_iconst (v := mI 1) B dX11_field_86 rfl ?_
      refine mu_isub B dX11_field_87 ?_
      try rw [mI_sub]
      rw [show (nf : Int) + 1 - 1 = ((nf : Nat) : Int) by omega]
      refine mu_iret E rfl (by decide) (by decide) dX11_field_88 ?_
      exact ⟨rfl, w52, w69, hGA, n52, hfo, ⟨rfl, q69b⟩, rfl⟩
    · try rw [mI_lt ⟨by omega, by omega⟩ ⟨by omega, by omega⟩] at c28
      exfalso
      omega
  · have z16 := mu_bf c16
    exact absurd ⟨hq1, hq2⟩ z16

set_option maxHeartbeats 4000000 in
set_option maxRecDepth 100000 in
theorem c_X11_grid_n (G : mu_G) {w : mu_W} {o : Nat} (hm : CMo w o) {nr : Nat} {rs : Nat → mu_RS} {ra : Nat → Nat} (hr : CRs w o nr rs ra) {z : Int} (hz : mi_ok z) (hn : ¬ (0 ≤ z ∧ z < nr)) {x y : Int32} : mu_Ct G M_X11_grid [.ref o, .int (mI z), .int x, .int y] w (fun r w' => r = some (.int (mI (-1))) ∧ w' = w) := by
  obtain ⟨ko, hox, ⟨r0, r1, r2, r3, r4, r6, r8, r10, r11, r12, r13, r14⟩, ⟨k1, k3, k4, kB, k12, k13, k14⟩, kS, kF, kQ, k26, kH⟩ := id hm
  obtain ⟨hn16, hnr, hrs⟩ := id hr
  refine mu_ofWA G M_X11_grid [.ref o, .int (mI z), .int x, .int y, mu_no, mu_no] (by decide) rfl (Nat.le_of_ble_eq_true rfl) ?_
  intro X E
  have B : mu_B X G cX11_grid RX11 6 (mu_rm M_X11_grid) := E.1
  show mu_WA X G 6 _ _ 0 0 0 _ []
  refine mu_al_0 B dX11_grid_0 ?_
  refine mu_il_1 B dX11_grid_1 ?_
  refine mu_eV1 B dX11_grid_2 mX11_117 ⟨⟨by decide, by decide⟩, by decide, by decide⟩ (Nat.le_of_ble_eq_true rfl) (by exact ko) (c_X11_ruleAt_n G hm hr hz hn) ?_
  refine mu_ns_4 B dX11_grid_5 (by decide) rfl ?_
  refine mu_nl_4 B dX11_grid_7 ?_
  refine mu_ifnullN (tgt := 26) B dX11_grid_9 (by decide) ?_
  refine mu_iconst (v := mI (-1)) B dX11_grid_26 rfl ?_
  refine mu_iret E rfl (by decide) (by decide) dX11_grid_27 ?_
  exact ⟨rfl, rfl⟩

set_option maxHeartbeats 4000000 in
set_option maxRecDepth 100000 in
theorem c_X11_grid_b (G : mu_G) {w : mu_W} {o : Nat} (hm : CMo w o) {nr : Nat} {rs : Nat → mu_RS} {ra : Nat → Nat} (hr : CRs w o nr rs ra) {i : Nat} (hi : i < nr) {x y : Int} (hx9 : mi_ok x) (hy9 : mi_ok y) (hbad : ¬ ((2 ≤ x ∧ x ≤ 16 ∧ x % 2 = 0) ∧ 2 ≤ y ∧ y ≤ 16 ∧ y % 2 = 0)) : mu_Ct G M_X11_grid [.ref o, .int (mI (i : Nat)), .int (mI x), .int (mI y)] w (fun r w' => r = some (.int (mI (-1))) ∧ w' = w) := by
  obtain ⟨ko, hox, ⟨r0, r1, r2, r3, r4, r6, r8, r10, r11, r12, r13, r14⟩, ⟨k1, k3, k4, kB, k12, k13, k14⟩, kS, kF, kQ, k26, kH⟩ := id hm
  obtain ⟨hn16, hnr, hrs⟩ := id hr
  obtain ⟨hx1, hx2⟩ := hx9
  obtain ⟨hy1, hy2⟩ := hy9
  refine mu_ofWA G M_X11_grid [.ref o, .int (mI (i : Nat)), .int (mI x), .int (mI y), mu_no, mu_no] (by decide) rfl (Nat.le_of_ble_eq_true rfl) ?_
  intro X E
  have B : mu_B X G cX11_grid RX11 6 (mu_rm M_X11_grid) := E.1
  show mu_WA X G 6 _ _ 0 0 0 _ []
  refine mu_al_0 B dX11_grid_0 ?_
  refine mu_il_1 B dX11_grid_1 ?_
  refine mu_eV1 B dX11_grid_2 mX11_117 ⟨⟨by decide, by decide⟩, by decide, by decide⟩ (Nat.le_of_ble_eq_true rfl) (by exact ko) (c_X11_ruleAt_y G hm hr hi) ?_
  refine mu_as_4 B dX11_grid_5 (by decide) rfl ?_
  refine mu_al_4 B dX11_grid_7 ?_
  refine mu_ifnull B dX11_grid_9 ?_
  refine mu_il_2 B dX11_grid_12 ?_
  refine mu_eS1 B dX11_grid_13 mX11_270 ⟨⟨by decide, by decide⟩, by decide, by decide⟩ (Nat.le_of_ble_eq_true rfl) (c_X11_isEvenSide G (z := x) ⟨by omega, by omega⟩) ?_
  refine mu_if_eq (tgt := 26) B dX11_grid_16 (by decide) (fun c16 => ?_) (fun c16 => ?_)
  · have z16 := mu_bf c16
    refine mu_iconst (v := mI (-1)) B dX11_grid_26 rfl ?_
    refine mu_iret E rfl (by decide) (by decide) dX11_grid_27 ?_
    exact ⟨rfl, rfl⟩
  · have z16 := mu_bt c16
    refine mu_il_3 B dX11_grid_19 ?_
    refine mu_eS1 B dX11_grid_20 mX11_270 ⟨⟨by decide, by decide⟩, by decide, by decide⟩ (Nat.le_of_ble_eq_true rfl) (c_X11_isEvenSide G (z := y) ⟨by omega, by omega⟩) ?_
    refine mu_if_ne (tgt := 28) B dX11_grid_23 (by decide) (fun c23 => ?_) (fun c23 => ?_)
    · have z23 := mu_bt c23
      exact absurd ⟨z16, z23⟩ hbad
    · have z23 := mu_bf c23
      refine mu_iconst (v := mI (-1)) B dX11_grid_26 rfl ?_
      refine mu_iret E rfl (by decide) (by decide) dX11_grid_27 ?_
      exact ⟨rfl, rfl⟩

set_option maxHeartbeats 4000000 in
set_option maxRecDepth 100000 in
theorem c_X11_grid_v (G : mu_G) {w : mu_W} {o : Nat} (hm : CMo w o) {nr : Nat} {rs : Nat → mu_RS} {ra : Nat → Nat} (hr : CRs w o nr rs ra) {i : Nat} (hi : i < nr) {R C : Nat} (hR : gs_sd R) (hC : gs_sd C) (hno : ¬ rs_nb (rs i) = 0) : mu_Ct G M_X11_grid [.ref o, .int (mI (i : Nat)), .int (mI (R : Nat)), .int (mI (C : Nat))] w (fun r w' => r = some (.int (mI (-2))) ∧ w' = w) := by
  obtain ⟨ko, hox, ⟨r0, r1, r2, r3, r4, r6, r8, r10, r11, r12, r13, r14⟩, ⟨k1, k3, k4, kB, k12, k13, k14⟩, kS, kF, kQ, k26, kH⟩ := id hm
  obtain ⟨hn16, hnr, hrs⟩ := id hr
  obtain ⟨sR1, sR2, sR3⟩ := id hR
  obtain ⟨sC1, sC2, sC3⟩ := id hC
  refine mu_ofWA G M_X11_grid [.ref o, .int (mI (i : Nat)), .int (mI (R : Nat)), .int (mI (C : Nat)), mu_no, mu_no] (by decide) rfl (Nat.le_of_ble_eq_true rfl) ?_
  intro X E
  have B : mu_B X G cX11_grid RX11 6 (mu_rm M_X11_grid) := E.1
  show mu_WA X G 6 _ _ 0 0 0 _ []
  refine mu_al_0 B dX11_grid_0 ?_
  refine mu_il_1 B dX11_grid_1 ?_
  refine mu_eV1 B dX11_grid_2 mX11_117 ⟨⟨by decide, by decide⟩, by decide, by decide⟩ (Nat.le_of_ble_eq_true rfl) (by exact ko) (c_X11_ruleAt_y G hm hr hi) ?_
  refine mu_as_4 B dX11_grid_5 (by decide) rfl ?_
  refine mu_al_4 B dX11_grid_7 ?_
  refine mu_ifnull B dX11_grid_9 ?_
  refine mu_il_2 B dX11_grid_12 ?_
  refine mu_eS1 B dX11_grid_13 mX11_270 ⟨⟨by decide, by decide⟩, by decide, by decide⟩ (Nat.le_of_ble_eq_true rfl) (c_X11_isEvenSide G (z := (R : Nat)) ⟨by omega, by omega⟩) ?_
  refine mu_if_eq (tgt := 26) B dX11_grid_16 (by decide) (fun c16 => ?_) (fun c16 => ?_)
  · have z16 := mu_bf c16
    exfalso
    omega
  · have z16 := mu_bt c16
    refine mu_il_3 B dX11_grid_19 ?_
    refine mu_eS1 B dX11_grid_20 mX11_270 ⟨⟨by decide, by decide⟩, by decide, by decide⟩ (Nat.le_of_ble_eq_true rfl) (c_X11_isEvenSide G (z := (C : Nat)) ⟨by omega, by omega⟩) ?_
    refine mu_if_ne (tgt := 28) B dX11_grid_23 (by decide) (fun c23 => ?_) (fun c23 => ?_)
    · have z23 := mu_bt c23
      refine mu_al_4 B dX11_grid_28 ?_
      refine mu_eV0 B dX11_grid_30 mX11_273 ⟨⟨by decide, by decide⟩, by decide, by decide⟩ (Nat.le_of_ble_eq_true rfl) (by exact (hrs i hi).2.2.2.1) (c_X4_hasBlocks G (hrs i hi).2.2.2) ?_
      refine mu_if_ne (tgt := 39) B dX11_grid_33 (by decide) (fun c33 => ?_) (fun c33 => ?_)
      · have z33 := mu_bt c33
        exact absurd z33 hno
      · have z33 := mu_bf c33
        refine mu_bipush (v := mI (-2)) B dX11_grid_36 (by decide) ?_
        refine mu_iret E rfl (by decide) (by decide) dX11_grid_38 ?_
        exact ⟨rfl, rfl⟩
    · have z23 := mu_bf c23
      exfalso
      omega

set_option maxHeartbeats 4000000 in
set_option maxRecDepth 100000 in
theorem c_X11_grid_f (G : mu_G) {w : mu_W} {o : Nat} (hm : CMo w o) {nr : Nat} {rs : Nat → mu_RS} {ra : Nat → Nat} (hr : CRs w o nr rs ra) {i : Nat} (hi : i < nr) {R C : Nat} (hR : gs_sd R) (hC : gs_sd C) {ng : Nat} {gs : Nat → mu_GS} {hg : Nat} {ga : Nat → Nat} (hG : CGs w o rs ra ng gs hg ga) (hq0 : rs_nb (rs i) = 0) (hfull : 8 ≤ ng) : mu_Ct G M_X11_grid [.ref o, .int (mI (i : Nat)), .int (mI (R : Nat)), .int (mI (C : Nat))] w (fun r w' => r = some (.int (mI (-3))) ∧ w' = w) := by
  obtain ⟨ko, hox, ⟨r0, r1, r2, r3, r4, r6, r8, r10, r11, r12, r13, r14⟩, ⟨k1, k3, k4, kB, k12, k13, k14⟩, kS, kF, kQ, k26, kH⟩ := id hm
  obtain ⟨hn16, hnr, hrs⟩ := id hr
  obtain ⟨hn1, hn8, hng, hgs, hgn, hgi, hg1⟩ := id hG
  obtain ⟨sR1, sR2, sR3⟩ := id hR
  obtain ⟨sC1, sC2, sC3⟩ := id hC
  refine mu_ofWA G M_X11_grid [.ref o, .int (mI (i : Nat)), .int (mI (R : Nat)), .int (mI (C : Nat)), mu_no, mu_no] (by decide) rfl (Nat.le_of_ble_eq_true rfl) ?_
  intro X E
  have B : mu_B X G cX11_grid RX11 6 (mu_rm M_X11_grid) := E.1
  show mu_WA X G 6 _ _ 0 0 0 _ []
  refine mu_al_0 B dX11_grid_0 ?_
  refine mu_il_1 B dX11_grid_1 ?_
  refine mu_eV1 B dX11_grid_2 mX11_117 ⟨⟨by decide, by decide⟩, by decide, by decide⟩ (Nat.le_of_ble_eq_true rfl) (by exact ko) (c_X11_ruleAt_y G hm hr hi) ?_
  refine mu_as_4 B dX11_grid_5 (by decide) rfl ?_
  refine mu_al_4 B dX11_grid_7 ?_
  refine mu_ifnull B dX11_grid_9 ?_
  refine mu_il_2 B dX11_grid_12 ?_
  refine mu_eS1 B dX11_grid_13 mX11_270 ⟨⟨by decide, by decide⟩, by decide, by decide⟩ (Nat.le_of_ble_eq_true rfl) (c_X11_isEvenSide G (z := (R : Nat)) ⟨by omega, by omega⟩) ?_
  refine mu_if_eq (tgt := 26) B dX11_grid_16 (by decide) (fun c16 => ?_) (fun c16 => ?_)
  · have z16 := mu_bf c16
    exfalso
    omega
  · have z16 := mu_bt c16
    refine mu_il_3 B dX11_grid_19 ?_
    refine mu_eS1 B dX11_grid_20 mX11_270 ⟨⟨by decide, by decide⟩, by decide, by decide⟩ (Nat.le_of_ble_eq_true rfl) (c_X11_isEvenSide G (z := (C : Nat)) ⟨by omega, by omega⟩) ?_
    refine mu_if_ne (tgt := 28) B dX11_grid_23 (by decide) (fun c23 => ?_) (fun c23 => ?_)
    · have z23 := mu_bt c23
      refine mu_al_4 B dX11_grid_28 ?_
      refine mu_eV0 B dX11_grid_30 mX11_273 ⟨⟨by decide, by decide⟩, by decide, by decide⟩ (Nat.le_of_ble_eq_true rfl) (by exact (hrs i hi).2.2.2.1) (c_X4_hasBlocks G (hrs i hi).2.2.2) ?_
      refine mu_if_ne (tgt := 39) B dX11_grid_33 (by decide) (fun c33 => ?_) (fun c33 => ?_)
      · have z33 := mu_bt c33
        refine mu_al_0 B dX11_grid_39 ?_
        refine mu_getI B dX11_grid_40 fX11_128 rfl (by exact ko) ?_
        rw [hng]
        refine mu_bipush (v := mI 8) B dX11_grid_43 (by decide) ?_
        refine mu_icmp_lt (tgt := 51) B dX11_grid_45 (by decide) (fun c45 => ?_) (fun c45 => ?_)
        · try rw [mI_lt ⟨by omega, by omega⟩ ⟨by omega, by omega⟩] at c45
          exfalso
          omega
        · try rw [mI_lt ⟨by omega, by omega⟩ ⟨by omega, by omega⟩] at c45
          refine mu_bipush (v := mI (-3)) B dX11_grid_48 (by decide) ?_
          refine mu_iret E rfl (by decide) (by decide) dX11_grid_50 ?_
          exact ⟨rfl, rfl⟩
      · have z33 := mu_bf c33
        exact absurd hq0 z33
    · have z23 := mu_bf c23
      exfalso
      omega

set_option maxHeartbeats 4000000 in
set_option maxRecDepth 100000 in
theorem c_X11_grid_y0 (G : mu_G) {w : mu_W} {o : Nat} (hm : CMo w o) {nr : Nat} {rs : Nat → mu_RS} {ra : Nat → Nat} (hr : CRs w o nr rs ra) {i : Nat} (hi : i < nr) {R C : Nat} (hR : gs_sd R) (hC : gs_sd C) {ng : Nat} {gs : Nat → mu_GS} {hg : Nat} {ga : Nat → Nat} (hG : CGs w o rs ra ng gs hg ga) (hq0 : rs_nb (rs i) = 0) (hfull : ng < 8) (hex : ng < hg) : mu_Ct G M_X11_grid [.ref o, .int (mI (i : Nat)), .int (mI (R : Nat)), .int (mI (C : Nat))] w (fun r w' => r = some (.int (mI (ng : Nat))) ∧ ∃ w2, (mu_Fr (fun q j => (q = (ga ng) ∧ 1 ≤ j ∧ j ≤ 5) ∨ q = (ga ng) + 1) w w2 ∧ mu_rv w2 (ga ng) 1 = some (ra i) ∧ CGf w2 (ga ng) (rs_S (rs i)) R C 0 ∧ ∀ j, j < 256 → mu_iv w2 ((ga ng) + 1) j = mI 0) ∧ w' = mu_si w2 o 9 (mI ((ng : Int) + 1))) := by
  obtain ⟨ko, hox, ⟨r0, r1, r2, r3, r4, r6, r8, r10, r11, r12, r13, r14⟩, ⟨k1, k3, k4, kB, k12, k13, k14⟩, kS, kF, kQ, k26, kH⟩ := id hm
  obtain ⟨hn16, hnr, hrs⟩ := id hr
  obtain ⟨hn1, hn8, hng, hgs, hgn, hgi, hg1⟩ := id hG
  obtain ⟨sR1, sR2, sR3⟩ := id hR
  obtain ⟨sC1, sC2, sC3⟩ := id hC
  refine mu_ofWA G M_X11_grid [.ref o, .int (mI (i : Nat)), .int (mI (R : Nat)), .int (mI (C : Nat)), mu_no, mu_no] (by decide) rfl (Nat.le_of_ble_eq_true rfl) ?_
  intro X E
  have B : mu_B X G cX11_grid RX11 6 (mu_rm M_X11_grid) := E.1
  show mu_WA X G 6 _ _ 0 0 0 _ []
  refine mu_al_0 B dX11_grid_0 ?_
  refine mu_il_1 B dX11_grid_1 ?_
  refine mu_eV1 B dX11_grid_2 mX11_117 ⟨⟨by decide, by decide⟩, by decide, by decide⟩ (Nat.le_of_ble_eq_true rfl) (by exact ko) (c_X11_ruleAt_y G hm hr hi) ?_
  refine mu_as_4 B dX11_grid_5 (by decide) rfl ?_
  refine mu_al_4 B dX11_grid_7 ?_
  refine mu_ifnull B dX11_grid_9 ?_
  refine mu_il_2 B dX11_grid_12 ?_
  refine mu_eS1 B dX11_grid_13 mX11_270 ⟨⟨by decide, by decide⟩, by decide, by decide⟩ (Nat.le_of_ble_eq_true rfl) (c_X11_isEvenSide G (z := (R : Nat)) ⟨by omega, by omega⟩) ?_
  refine mu_if_eq (tgt := 26) B dX11_grid_16 (by decide) (fun c16 => ?_) (fun c16 => ?_)
  · have z16 := mu_bf c16
    exfalso
    omega
  · have z16 := mu_bt c16
    refine mu_il_3 B dX11_grid_19 ?_
    refine mu_eS1 B dX11_grid_20 mX11_270 ⟨⟨by decide, by decide⟩, by decide, by decide⟩ (Nat.le_of_ble_eq_true rfl) (c_X11_isEvenSide G (z := (C : Nat)) ⟨by omega, by omega⟩) ?_
    refine mu_if_ne (tgt := 28) B dX11_grid_23 (by decide) (fun c23 => ?_) (fun c23 => ?_)
    · have z23 := mu_bt c23
      refine mu_al_4 B dX11_grid_28 ?_
      refine mu_eV0 B dX11_grid_30 mX11_273 ⟨⟨by decide, by decide⟩, by decide, by decide⟩ (Nat.le_of_ble_eq_true rfl) (by exact (hrs i hi).2.2.2.1) (c_X4_hasBlocks G (hrs i hi).2.2.2) ?_
      refine mu_if_ne (tgt := 39) B dX11_grid_33 (by decide) (fun c33 => ?_) (fun c33 => ?_)
      · have z33 := mu_bt c33
        refine mu_al_0 B dX11_grid_39 ?_
        refine mu_getI B dX11_grid_40 fX11_128 rfl (by exact ko) ?_
        rw [hng]
        refine mu_bipush (v := mI 8) B dX11_grid_43 (by decide) ?_
        refine mu_icmp_lt (tgt := 51) B dX11_grid_45 (by decide) (fun c45 => ?_) (fun c45 => ?_)
        · try rw [mI_lt ⟨by omega, by omega⟩ ⟨by omega, by omega⟩] at c45
          refine mu_al_0 B dX11_grid_51 ?_
          refine mu_getR B dX11_grid_52 fX11_51 rfl (by exact ko) (by exact r8) ?_
          refine mu_al_0 B dX11_grid_55 ?_
          refine mu_getI B dX11_grid_56 fX11_128 rfl (by exact ko) ?_
          rw [hng]
          refine mu_aald B dX11_grid_59 (by exact k14) (by simp) (mI_inN (by omega) (by decide)) (by rw [mI_clampN (by omega)]; exact (hgs ng hex).1) ?_
          refine mu_as_5 B dX11_grid_60 (by decide) rfl ?_
          refine mu_al_5 B dX11_grid_62 ?_
          refine mu_ifnonnull (tgt := 87) B dX11_grid_64 (by decide) ?_
          refine mu_al_5 B dX11_grid_87 ?_
          refine mu_al_4 B dX11_grid_89 ?_
          refine mu_il_2 B dX11_grid_91 ?_
          refine mu_il_3 B dX11_grid_92 ?_
          refine mu_cV3 B dX11_grid_93 mX11_277 ⟨⟨by decide, by decide⟩, by decide, by decide⟩ (Nat.le_of_ble_eq_true rfl) (by exact (hgs ng hex).2.2.2.1) (c_X3_begin G (hgs ng hex).2.2.2 (hrs i hi).2.2.2) (fun r93 w93 q93 => ?_)
          obtain ⟨rfl, q93b⟩ := q93
          have hF9 := q93b.1
          refine mu_al_0 B dX11_grid_96 ?_
          refine mu_dup B dX11_grid_97 rfl ?_
          refine mu_getI B dX11_grid_98 fX11_128 rfl (hF9.kd ko) ?_
          rw [hF9.iv (fun hh => by have := (hgs ng hex).2.1; rcases hh with hh | hh <;> omega) hng]
          refine mu_iconst (v := mI 1) B dX11_grid_101 rfl ?_
          refine mu_iadd B dX11_grid_102 ?_
          try rw [mI_add]
          refine mu_putI B dX11_grid_103 fX11_128 fwX11_9 rfl (hF9.kd ko) ?_
          refine mu_al_0 B dX11_grid_106 ?_
          refine mu_getI B dX11_grid_107 fX11_128 rfl (hF9.kd ko) ?_
          rw [mu_iv_same]
          refine mu_iconst (v := mI 1) B dX11_grid_110 rfl ?_
          refine mu_isub B dX11_grid_111 ?_
          try rw [mI_sub]
          rw [show (ng : Int) + 1 - 1 = ((ng : Nat) : Int) by omega]
          refine mu_iret E rfl (by decide) (by decide) dX11_grid_112 ?_
          exact ⟨rfl, w93, q93b, rfl⟩
        · try rw [mI_lt ⟨by omega, by omega⟩ ⟨by omega, by omega⟩] at c45
          exfalso
          omega
      · have z33 := mu_bf c33
        exact absurd hq0 z33
    · have z23 := mu_bf c23
      exfalso
      omega

set_option maxHeartbeats 4000000 in
set_option maxRecDepth 100000 in
theorem c_X11_grid_y1 (G : mu_G) {w : mu_W} {o : Nat} (hm : CMo w o) {nr : Nat} {rs : Nat → mu_RS} {ra : Nat → Nat} (hr : CRs w o nr rs ra) {i : Nat} (hi : i < nr) {R C : Nat} (hR : gs_sd R) (hC : gs_sd C) {ng : Nat} {gs : Nat → mu_GS} {hg : Nat} {ga : Nat → Nat} (hG : CGs w o rs ra ng gs hg ga) (hq0 : rs_nb (rs i) = 0) (hfull : ng < 8) (hex : ng = hg) : mu_Ct G M_X11_grid [.ref o, .int (mI (i : Nat)), .int (mI (R : Nat)), .int (mI (C : Nat))] w (fun r w' => r = some (.int (mI (ng : Nat))) ∧ ∃ w1 w2, RG nvr (mu_nx w) w w1 ∧ mu_nx w1 = mu_nx w + 2 ∧ CGo w1 (mu_nx w) ∧ (mu_Fr (fun q j => (q = (mu_nx w) ∧ 1 ≤ j ∧ j ≤ 5) ∨ q = (mu_nx w) + 1) (mu_sr w1 (o + 14) ng (some (mu_nx w))) w2 ∧ mu_rv w2 (mu_nx w) 1 = some (ra i) ∧ CGf w2 (mu_nx w) (rs_S (rs i)) R C 0 ∧ ∀ j, j < 256 → mu_iv w2 ((mu_nx w) + 1) j = mI 0) ∧ w' = mu_si w2 o 9 (mI ((ng : Int) + 1))) := by
  obtain ⟨ko, hox, ⟨r0, r1, r2, r3, r4, r6, r8, r10, r11, r12, r13, r14⟩, ⟨k1, k3, k4, kB, k12, k13, k14⟩, kS, kF, kQ, k26, kH⟩ := id hm
  obtain ⟨hn16, hnr, hrs⟩ := id hr
  obtain ⟨hn1, hn8, hng, hgs, hgn, hgi, hg1⟩ := id hG
  obtain ⟨sR1, sR2, sR3⟩ := id hR
  obtain ⟨sC1, sC2, sC3⟩ := id hC
  refine mu_ofWA G M_X11_grid [.ref o, .int (mI (i : Nat)), .int (mI (R : Nat)), .int (mI (C : Nat)), mu_no, mu_no] (by decide) rfl (Nat.le_of_ble_eq_true rfl) ?_
  intro X E
  have B : mu_B X G cX11_grid RX11 6 (mu_rm M_X11_grid) := E.1
  show mu_WA X G 6 _ _ 0 0 0 _ []
  refine mu_al_0 B dX11_grid_0 ?_
  refine mu_il_1 B dX11_grid_1 ?_
  refine mu_eV1 B dX11_grid_2 mX11_117 ⟨⟨by decide, by decide⟩, by decide, by decide⟩ (Nat.le_of_ble_eq_true rfl) (by exact ko) (c_X11_ruleAt_y G hm hr hi) ?_
  refine mu_as_4 B dX11_grid_5 (by decide) rfl ?_
  refine mu_al_4 B dX11_grid_7 ?_
  refine mu_ifnull B dX11_grid_9 ?_
  refine mu_il_2 B dX11_grid_12 ?_
  refine mu_eS1 B dX11_grid_13 mX11_270 ⟨⟨by decide, by decide⟩, by decide, by decide⟩ (Nat.le_of_ble_eq_true rfl) (c_X11_isEvenSide G (z := (R : Nat)) ⟨by omega, by omega⟩) ?_
  refine mu_if_eq (tgt := 26) B dX11_grid_16 (by decide) (fun c16 => ?_) (fun c16 => ?_)
  · have z16 := mu_bf c16
    exfalso
    omega
  · have z16 := mu_bt c16
    refine mu_il_3 B dX11_grid_19 ?_
    refine mu_eS1 B dX11_grid_20 mX11_270 ⟨⟨by decide, by decide⟩, by decide, by decide⟩ (Nat.le_of_ble_eq_true rfl) (c_X11_isEvenSide G (z := (C : Nat)) ⟨by omega, by omega⟩) ?_
    refine mu_if_ne (tgt := 28) B dX11_grid_23 (by decide) (fun c23 => ?_) (fun c23 => ?_)
    · have z23 := mu_bt c23
      refine mu_al_4 B dX11_grid_28 ?_
      refine mu_eV0 B dX11_grid_30 mX11_273 ⟨⟨by decide, by decide⟩, by decide, by decide⟩ (Nat.le_of_ble_eq_true rfl) (by exact (hrs i hi).2.2.2.1) (c_X4_hasBlocks G (hrs i hi).2.2.2) ?_
      refine mu_if_ne (tgt := 39) B dX11_grid_33 (by decide) (fun c33 => ?_) (fun c33 => ?_)
      · have z33 := mu_bt c33
        refine mu_al_0 B dX11_grid_39 ?_
        refine mu_getI B dX11_grid_40 fX11_128 rfl (by exact ko) ?_
        rw [hng]
        refine mu_bipush (v := mI 8) B dX11_grid_43 (by decide) ?_
        refine mu_icmp_lt (tgt := 51) B dX11_grid_45 (by decide) (fun c45 => ?_) (fun c45 => ?_)
        · try rw [mI_lt ⟨by omega, by omega⟩ ⟨by omega, by omega⟩] at c45
          refine mu_al_0 B dX11_grid_51 ?_
          refine mu_getR B dX11_grid_52 fX11_51 rfl (by exact ko) (by exact r8) ?_
          refine mu_al_0 B dX11_grid_55 ?_
          refine mu_getI B dX11_grid_56 fX11_128 rfl (by exact ko) ?_
          rw [hng]
          refine mu_aaldN B dX11_grid_59 (by exact k14) (by simp) (mI_inN (by omega) (by decide)) (by rw [mI_clampN (by omega)]; exact hgn ng (by omega) (by omega)) ?_
          refine mu_ns_5 B dX11_grid_60 (by decide) rfl ?_
          refine mu_nl_5 B dX11_grid_62 ?_
          refine mu_ifnonnullN B dX11_grid_64 ?_
          refine mu_new B dX11_grid_67 cfX3 nlX11_49 niX3 ndX3 (by decide) (by decide) ?_
          have hA : RG nvr (mu_nx w) w (mu_al w 3 0) := (RG.refl w).al (Nat.le_refl _) 3 0
          have hk9 : mu_kd (mu_al w 3 0) (mu_nx w) = some (3, 0) := by rw [mu_kd_al, if_pos rfl]
          have hn9 : mu_nx (mu_al w 3 0) = mu_nx w + 1 := rfl
          generalize (mu_al w 3 0) = w9 at hA hk9 hn9 ⊢
          refine mu_dup B dX11_grid_70 rfl ?_
          refine mu_cN0 B dX11_grid_71 mX11_276 ⟨⟨by decide, by decide⟩, by decide, by decide⟩ (Nat.le_of_ble_eq_true rfl) (c_X3_init G hk9 hn9) (fun r71 w71 q71 => ?_)
          obtain ⟨rfl, hNF, hgo⟩ := q71
          have hGA := hA.trans hNF.rg
          have n71 : mu_nx w71 = mu_nx w + 2 := hNF.1
          show mu_WA X G 6 _ _ _ _ 74 _ [.ref (mu_nx w)]
          refine mu_as_5 B dX11_grid_74 (by decide) rfl ?_
          refine mu_al_0 B dX11_grid_76 ?_
          refine mu_getR B dX11_grid_77 fX11_51 rfl (hGA.kd ko (by omega)) (hGA.rv r8 (by omega)) ?_
          refine mu_al_0 B dX11_grid_80 ?_
          refine mu_getI B dX11_grid_81 fX11_128 rfl (hGA.kd ko (by omega)) ?_
          rw [hGA.iv hng (by omega) id]
          refine mu_al_5 B dX11_grid_84 ?_
          refine mu_aast (ka := 6) (t := 3) B dX11_grid_86 (hGA.kd k14 (by omega)) (by decide) rfl rfl (by decide) hgo.1 (mI_inN (by omega) (by decide)) ?_
          rw [mI_clampN (by omega)]
          have hgo2 : CGo (mu_sr w71 (o + 14) ng (some (mu_nx w))) (mu_nx w) := hgo.sm rfl rfl (by rw [mu_rv_sr, if_neg (by omega)])
          have ko2 : mu_kd (mu_sr w71 (o + 14) ng (some (mu_nx w))) o = some (11, 0) := hGA.kd ko (by omega)
          have hcr2 : CRu (mu_sr w71 (o + 14) ng (some (mu_nx w))) (ra i) (rs i) := (hrs i hi).2.2.2.kp (fun q hq => by
            have h1 := (hrs i hi).2.1
            have h2 := (hrs i hi).2.2.1
            obtain ⟨h3, h4⟩ := hq
            have hs := hGA.smc (q := q) (by omega) (fun _ => id)
            exact ⟨hs.1, hs.2.1, fun j => by rw [mu_rv_sr, if_neg (by omega)]; exact hs.2.2.2 j⟩)
          refine mu_al_5 B dX11_grid_87 ?_
          refine mu_al_4 B dX11_grid_89 ?_
          refine mu_il_2 B dX11_grid_91 ?_
          refine mu_il_3 B dX11_grid_92 ?_
          refine mu_cV3 B dX11_grid_93 mX11_277 ⟨⟨by decide, by decide⟩, by decide, by decide⟩ (Nat.le_of_ble_eq_true rfl) (by exact hgo2.1) (c_X3_begin G hgo2 hcr2) (fun r93 w93 q93 => ?_)
          obtain ⟨rfl, q93b⟩ := q93
          have hF9 := q93b.1
          refine mu_al_0 B dX11_grid_96 ?_
          refine mu_dup B dX11_grid_97 rfl ?_
          refine mu_getI B dX11_grid_98 fX11_128 rfl (hF9.kd ko2) ?_
          rw [hF9.iv (fun hh => by rcases hh with hh | hh <;> omega) (show mu_iv (mu_sr w71 (o + 14) ng (some (mu_nx w))) o 9 = mI ng by rw [mu_iv_sr]; exact hGA.iv hng (by omega) id)]
          refine mu_iconst (v := mI 1) B dX11_grid_101 rfl ?_
          refine mu_iadd B dX11_grid_102 ?_
          try rw [mI_add]
          refine mu_putI B dX11_grid_103 fX11_128 fwX11_9 rfl (hF9.kd ko2) ?_
          refine mu_al_0 B dX11_grid_106 ?_
          refine mu_getI B dX11_grid_107 fX11_128 rfl (hF9.kd ko2) ?_
          rw [mu_iv_same]
          refine mu_iconst (v := mI 1) B dX11_grid_110 rfl ?_
          refine mu_isub B dX11_grid_111 ?_
          try rw [mI_sub]
          rw [show (ng : Int) + 1 - 1 = ((ng : Nat) : Int) by omega]
          refine mu_iret E rfl (by decide) (by decide) dX11_grid_112 ?_
          exact ⟨rfl, w71, w93, hGA, n71, hgo, q93b, rfl⟩
        · try rw [mI_lt ⟨by omega, by omega⟩ ⟨by omega, by omega⟩] at c45
          exfalso
          omega
      · have z33 := mu_bf c33
        exact absurd hq0 z33
    · have z23 := mu_bf c23
      exfalso
      omega
