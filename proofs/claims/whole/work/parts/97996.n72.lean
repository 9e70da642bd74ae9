/-! ===== the class: calls on grids ===== -/
set_option maxHeartbeats 4000000 in
set_option maxRecDepth 100000 in
theorem c_X11_cell_n (G : mu_G) {w : mu_W} {o : Nat} (hm : CMo w o) {rs : Nat → mu_RS} {ra : Nat → Nat} {ng : Nat} {gs : Nat → mu_GS} {hg : Nat} {ga : Nat → Nat} (hG : CGs w o rs ra ng gs hg ga) {z : Int} (hz : mi_ok z) (hn : ¬ (0 ≤ z ∧ z < ng)) {x y : Int32} : mu_Ct G M_X11_cell [.ref o, .int (mI z), .int x, .int y] w (fun r w' => r = some (.int (mI (-1))) ∧ w' = w) := by
  obtain ⟨ko, hox, ⟨r0, r1, r2, r3, r4, r6, r8, r10, r11, r12, r13, r14⟩, ⟨k1, k3, k4, kB, k12, k13, k14⟩, kS, kF, kQ, k26, kH⟩ := id hm
  obtain ⟨hn1, hn8, hng, hgs, hgn, hgi, hg1⟩ := id hG
  refine mu_ofWA G M_X11_cell [.ref o, .int (mI z), .int x, .int y, mu_no] (by decide) rfl (Nat.le_of_ble_eq_true rfl) ?_
  intro X E
  have B : mu_B X G cX11_cell RX11 5 (mu_rm M_X11_cell) := E.1
  show mu_WA X G 5 _ _ 0 0 0 _ []
  refine mu_al_0 B dX11_cell_0 ?_
  refine mu_il_1 B dX11_cell_1 ?_
  refine mu_eV1 B dX11_cell_2 mX11_280 ⟨⟨by decide, by decide⟩, by decide, by decide⟩ (Nat.le_of_ble_eq_true rfl) (by exact ko) (c_X11_gridAt_n G hm hG hz hn) ?_
  refine mu_ns_4 B dX11_cell_5 (by decide) rfl ?_
  refine mu_nl_4 B dX11_cell_7 ?_
  refine mu_ifnullN (tgt := 22) B dX11_cell_9 (by decide) ?_
  refine mu_iconst (v := mI (-1)) B dX11_cell_22 rfl ?_
  refine mu_iret E rfl (by decide) (by decide) dX11_cell_23 ?_
  exact ⟨rfl, rfl⟩

set_option maxHeartbeats 4000000 in
set_option maxRecDepth 100000 in
theorem c_X11_cell_b (G : mu_G) {w : mu_W} {o : Nat} (hm : CMo w o) {rs : Nat → mu_RS} {ra : Nat → Nat} {ng : Nat} {gs : Nat → mu_GS} {hg : Nat} {ga : Nat → Nat} (hG : CGs w o rs ra ng gs hg ga) {i : Nat} (hi : i < ng) {nr : Nat} (hgk : gs_ok nr rs (gs i)) (hS : 2 ≤ rs_S (rs (gs_r (gs i))) ∧ rs_S (rs (gs_r (gs i))) ≤ 4) {x y : Int} (hx9 : mi_ok x) (hy9 : mi_ok y) (hbad : ¬ (0 ≤ x ∧ x < (gs_R (gs i) : Int) ∧ 0 ≤ y ∧ y < (gs_C (gs i) : Int))) : mu_Ct G M_X11_cell [.ref o, .int (mI (i : Nat)), .int (mI x), .int (mI y)] w (fun r w' => r = some (.int (mI (-1))) ∧ w' = w) := by
  obtain ⟨ko, hox, ⟨r0, r1, r2, r3, r4, r6, r8, r10, r11, r12, r13, r14⟩, ⟨k1, k3, k4, kB, k12, k13, k14⟩, kS, kF, kQ, k26, kH⟩ := id hm
  obtain ⟨hn1, hn8, hng, hgs, hgn, hgi, hg1⟩ := id hG
  obtain ⟨hcf, hcc, hrr⟩ := id (hg1 i hi)
  have hgo := (hgs i (by omega)).2.2.2
  obtain ⟨gk1, gk2, gk3, gk4, gk5, gk6⟩ := id hgk
  have sd1 := id gk3
  have sd2 := id gk4
  obtain ⟨sd11, sd12, sd13⟩ := sd1
  obtain ⟨sd21, sd22, sd23⟩ := sd2
  obtain ⟨hx1, hx2⟩ := hx9
  obtain ⟨hy1, hy2⟩ := hy9
  refine mu_ofWA G M_X11_cell [.ref o, .int (mI (i : Nat)), .int (mI x), .int (mI y), mu_no] (by decide) rfl (Nat.le_of_ble_eq_true rfl) ?_
  intro X E
  have B : mu_B X G cX11_cell RX11 5 (mu_rm M_X11_cell) := E.1
  show mu_WA X G 5 _ _ 0 0 0 _ []
  refine mu_al_0 B dX11_cell_0 ?_
  refine mu_il_1 B dX11_cell_1 ?_
  refine mu_eV1 B dX11_cell_2 mX11_280 ⟨⟨by decide, by decide⟩, by decide, by decide⟩ (Nat.le_of_ble_eq_true rfl) (by exact ko) (c_X11_gridAt_y G hm hG hi) ?_
  refine mu_as_4 B dX11_cell_5 (by decide) rfl ?_
  refine mu_al_4 B dX11_cell_7 ?_
  refine mu_ifnull B dX11_cell_9 ?_
  refine mu_al_4 B dX11_cell_12 ?_
  refine mu_il_2 B dX11_cell_14 ?_
  refine mu_il_3 B dX11_cell_15 ?_
  refine mu_eV2 B dX11_cell_16 mX11_284 ⟨⟨by decide, by decide⟩, by decide, by decide⟩ (Nat.le_of_ble_eq_true rfl) (by exact hgo.1) (c_X3_hasCell G hgo hcf hS gk3 gk4 ⟨hx1, hx2⟩ ⟨hy1, hy2⟩) ?_
  refine mu_if_ne (tgt := 24) B dX11_cell_19 (by decide) (fun c19 => ?_) (fun c19 => ?_)
  · have z19 := mu_bt c19
    exact absurd z19 hbad
  · have z19 := mu_bf c19
    refine mu_iconst (v := mI (-1)) B dX11_cell_22 rfl ?_
    refine mu_iret E rfl (by decide) (by decide) dX11_cell_23 ?_
    exact ⟨rfl, rfl⟩

set_option maxHeartbeats 4000000 in
set_option maxRecDepth 100000 in
theorem c_X11_cell_y (G : mu_G) {w : mu_W} {o : Nat} (hm : CMo w o) {rs : Nat → mu_RS} {ra : Nat → Nat} {ng : Nat} {gs : Nat → mu_GS} {hg : Nat} {ga : Nat → Nat} (hG : CGs w o rs ra ng gs hg ga) {i : Nat} (hi : i < ng) {nr : Nat} (hgk : gs_ok nr rs (gs i)) (hS : 2 ≤ rs_S (rs (gs_r (gs i))) ∧ rs_S (rs (gs_r (gs i))) ≤ 4) {p q : Nat} (hp : p < gs_R (gs i)) (hq : q < gs_C (gs i)) : mu_Ct G M_X11_cell [.ref o, .int (mI (i : Nat)), .int (mI (p : Nat)), .int (mI (q : Nat))] w (fun r w' => r = some (.int (mI (gs_c (gs i) p q))) ∧ w' = w) := by
  obtain ⟨ko, hox, ⟨r0, r1, r2, r3, r4, r6, r8, r10, r11, r12, r13, r14⟩, ⟨k1, k3, k4, kB, k12, k13, k14⟩, kS, kF, kQ, k26, kH⟩ := id hm
  obtain ⟨hn1, hn8, hng, hgs, hgn, hgi, hg1⟩ := id hG
  obtain ⟨hcf, hcc, hrr⟩ := id (hg1 i hi)
  have hgo := (hgs i (by omega)).2.2.2
  obtain ⟨gk1, gk2, gk3, gk4, gk5, gk6⟩ := id hgk
  have sd1 := id gk3
  have sd2 := id gk4
  obtain ⟨sd11, sd12, sd13⟩ := sd1
  obtain ⟨sd21, sd22, sd23⟩ := sd2
  refine mu_ofWA G M_X11_cell [.ref o, .int (mI (i : Nat)), .int (mI (p : Nat)), .int (mI (q : Nat)), mu_no] (by decide) rfl (Nat.le_of_ble_eq_true rfl) ?_
  intro X E
  have B : mu_B X G cX11_cell RX11 5 (mu_rm M_X11_cell) := E.1
  show mu_WA X G 5 _ _ 0 0 0 _ []
  refine mu_al_0 B dX11_cell_0 ?_
  refine mu_il_1 B dX11_cell_1 ?_
  refine mu_eV1 B dX11_cell_2 mX11_280 ⟨⟨by decide, by decide⟩, by decide, by decide⟩ (Nat.le_of_ble_eq_true rfl) (by exact ko) (c_X11_gridAt_y G hm hG hi) ?_
  refine mu_as_4 B dX11_cell_5 (by decide) rfl ?_
  refine mu_al_4 B dX11_cell_7 ?_
  refine mu_ifnull B dX11_cell_9 ?_
  refine mu_al_4 B dX11_cell_12 ?_
  refine mu_il_2 B dX11_cell_14 ?_
  refine mu_il_3 B dX11_cell_15 ?_
  refine mu_eV2 B dX11_cell_16 mX11_284 ⟨⟨by decide, by decide⟩, by decide, by decide⟩ (Nat.le_of_ble_eq_true rfl) (by exact hgo.1) (c_X3_hasCell G hgo hcf hS gk3 gk4 (x := (p : Nat)) (y := (q : Nat)) ⟨by omega, by omega⟩ ⟨by omega, by omega⟩) ?_
  refine mu_if_ne (tgt := 24) B dX11_cell_19 (by decide) (fun c19 => ?_) (fun c19 => ?_)
  · have z19 := mu_bt c19
    refine mu_al_4 B dX11_cell_24 ?_
    refine mu_il_2 B dX11_cell_26 ?_
    refine mu_il_3 B dX11_cell_27 ?_
    refine mu_eV2 B dX11_cell_28 mX11_291 ⟨⟨by decide, by decide⟩, by decide, by decide⟩ (Nat.le_of_ble_eq_true rfl) (by exact hgo.1) (c_X3_look G hgo hcf hS gk3 gk4 hcc hp hq) ?_
    refine mu_iret E rfl (by decide) (by decide) dX11_cell_31 ?_
    exact ⟨rfl, rfl⟩
  · have z19 := mu_bf c19
    exfalso
    omega

set_option maxHeartbeats 4000000 in
set_option maxRecDepth 100000 in
theorem c_X11_set_n (G : mu_G) {w : mu_W} {o : Nat} (hm : CMo w o) {rs : Nat → mu_RS} {ra : Nat → Nat} {ng : Nat} {gs : Nat → mu_GS} {hg : Nat} {ga : Nat → Nat} (hG : CGs w o rs ra ng gs hg ga) {z : Int} (hz : mi_ok z) (hn : ¬ (0 ≤ z ∧ z < ng)) {x y v : Int32} : mu_Ct G M_X11_set [.ref o, .int (mI z), .int x, .int y, .int v] w (fun r w' => r = some (.int (mI (-1))) ∧ w' = w) := by
  obtain ⟨ko, hox, ⟨r0, r1, r2, r3, r4, r6, r8, r10, r11, r12, r13, r14⟩, ⟨k1, k3, k4, kB, k12, k13, k14⟩, kS, kF, kQ, k26, kH⟩ := id hm
  obtain ⟨hn1, hn8, hng, hgs, hgn, hgi, hg1⟩ := id hG
  refine mu_ofWA G M_X11_set [.ref o, .int (mI z), .int x, .int y, .int v, mu_no] (by decide) rfl (Nat.le_of_ble_eq_true rfl) ?_
  intro X E
  have B : mu_B X G cX11_set RX11 6 (mu_rm M_X11_set) := E.1
  show mu_WA X G 6 _ _ 0 0 0 _ []
  refine mu_al_0 B dX11_set_0 ?_
  refine mu_il_1 B dX11_set_1 ?_
  refine mu_eV1 B dX11_set_2 mX11_280 ⟨⟨by decide, by decide⟩, by decide, by decide⟩ (Nat.le_of_ble_eq_true rfl) (by exact ko) (c_X11_gridAt_n G hm hG hz hn) ?_
  refine mu_ns_5 B dX11_set_5 (by decide) rfl ?_
  refine mu_nl_5 B dX11_set_7 ?_
  refine mu_ifnullN (tgt := 32) B dX11_set_9 (by decide) ?_
  refine mu_iconst (v := mI (-1)) B dX11_set_32 rfl ?_
  refine mu_iret E rfl (by decide) (by decide) dX11_set_33 ?_
  exact ⟨rfl, rfl⟩

set_option maxHeartbeats 4000000 in
set_option maxRecDepth 100000 in
theorem c_X11_set_b (G : mu_G) {w : mu_W} {o : Nat} (hm : CMo w o) {rs : Nat → mu_RS} {ra : Nat → Nat} {ng : Nat} {gs : Nat → mu_GS} {hg : Nat} {ga : Nat → Nat} (hG : CGs w o rs ra ng gs hg ga) {i : Nat} (hi : i < ng) {nr : Nat} (hgk : gs_ok nr rs (gs i)) (hS : 2 ≤ rs_S (rs (gs_r (gs i))) ∧ rs_S (rs (gs_r (gs i))) ≤ 4) {x y v : Int} (hx9 : mi_ok x) (hy9 : mi_ok y) (hv9 : mi_ok v) (hbad : ¬ ((0 ≤ x ∧ x < (gs_R (gs i) : Int) ∧ 0 ≤ y ∧ y < (gs_C (gs i) : Int)) ∧ 0 ≤ v ∧ v < (rs_S (rs (gs_r (gs i))) : Int))) : mu_Ct G M_X11_set [.ref o, .int (mI (i : Nat)), .int (mI x), .int (mI y), .int (mI v)] w (fun r w' => r = some (.int (mI (-1))) ∧ w' = w) := by
  obtain ⟨ko, hox, ⟨r0, r1, r2, r3, r4, r6, r8, r10, r11, r12, r13, r14⟩, ⟨k1, k3, k4, kB, k12, k13, k14⟩, kS, kF, kQ, k26, kH⟩ := id hm
  obtain ⟨hn1, hn8, hng, hgs, hgn, hgi, hg1⟩ := id hG
  obtain ⟨hcf, hcc, hrr⟩ := id (hg1 i hi)
  have hgo := (hgs i (by omega)).2.2.2
  obtain ⟨gk1, gk2, gk3, gk4, gk5, gk6⟩ := id hgk
  have sd1 := id gk3
  have sd2 := id gk4
  obtain ⟨sd11, sd12, sd13⟩ := sd1
  obtain ⟨sd21, sd22, sd23⟩ := sd2
  obtain ⟨hx1, hx2⟩ := hx9
  obtain ⟨hy1, hy2⟩ := hy9
  refine mu_ofWA G M_X11_set [.ref o, .int (mI (i : Nat)), .int (mI x), .int (mI y), .int (mI v), mu_no] (by decide) rfl (Nat.le_of_ble_eq_true rfl) ?_
  intro X E
  have B : mu_B X G cX11_set RX11 6 (mu_rm M_X11_set) := E.1
  show mu_WA X G 6 _ _ 0 0 0 _ []
  refine mu_al_0 B dX11_set_0 ?_
  refine mu_il_1 B dX11_set_1 ?_
  refine mu_eV1 B dX11_set_2 mX11_280 ⟨⟨by decide, by decide⟩, by decide, by decide⟩ (Nat.le_of_ble_eq_true rfl) (by exact ko) (c_X11_gridAt_y G hm hG hi) ?_
  refine mu_as_5 B dX11_set_5 (by decide) rfl ?_
  refine mu_al_5 B dX11_set_7 ?_
  refine mu_ifnull B dX11_set_9 ?_
  refine mu_al_5 B dX11_set_12 ?_
  refine mu_il_2 B dX11_set_14 ?_
  refine mu_il_3 B dX11_set_15 ?_
  refine mu_eV2 B dX11_set_16 mX11_284 ⟨⟨by decide, by decide⟩, by decide, by decide⟩ (Nat.le_of_ble_eq_true rfl) (by exact hgo.1) (c_X3_hasCell G hgo hcf hS gk3 gk4 ⟨hx1, hx2⟩ ⟨hy1, hy2⟩) ?_
  refine mu_if_eq (tgt := 32) B dX11_set_19 (by decide) (fun c19 => ?_) (fun c19 => ?_)
  · have z19 := mu_bf c19
    refine mu_iconst (v := mI (-1)) B dX11_set_32 rfl ?_
    refine mu_iret E rfl (by decide) (by decide) dX11_set_33 ?_
    exact ⟨rfl, rfl⟩
  · have z19 := mu_bt c19
    refine mu_al_5 B dX11_set_22 ?_
    refine mu_il_4 B dX11_set_24 ?_
    refine mu_eV1 B dX11_set_26 mX11_287 ⟨⟨by decide, by decide⟩, by decide, by decide⟩ (Nat.le_of_ble_eq_true rfl) (by exact hgo.1) (c_X3_hasState G hgo hcf hS gk3 gk4 hv9) ?_
    refine mu_if_ne (tgt := 34) B dX11_set_29 (by decide) (fun c29 => ?_) (fun c29 => ?_)
    · have z29 := mu_bt c29
      exact absurd ⟨z19, z29⟩ hbad
    · have z29 := mu_bf c29
      refine mu_iconst (v := mI (-1)) B dX11_set_32 rfl ?_
      refine mu_iret E rfl (by decide) (by decide) dX11_set_33 ?_
      exact ⟨rfl, rfl⟩

set_option maxHeartbeats 4000000 in
set_option maxRecDepth 100000 in
theorem c_X11_set_y (G : mu_G) {w : mu_W} {o : Nat} (hm : CMo w o) {rs : Nat → mu_RS} {ra : Nat → Nat} {ng : Nat} {gs : Nat → mu_GS} {hg : Nat} {ga : Nat → Nat} (hG : CGs w o rs ra ng gs hg ga) {i : Nat} (hi : i < ng) {nr : Nat} (hgk : gs_ok nr rs (gs i)) (hS : 2 ≤ rs_S (rs (gs_r (gs i))) ∧ rs_S (rs (gs_r (gs i))) ≤ 4) {p q v : Nat} (hp : p < gs_R (gs i)) (hq : q < gs_C (gs i)) (hv : v < rs_S (rs (gs_r (gs i)))) : mu_Ct G M_X11_set [.ref o, .int (mI (i : Nat)), .int (mI (p : Nat)), .int (mI (q : Nat)), .int (mI (v : Nat))] w (fun r w' => r = some (.int (mI (gs_c (gs i) p q))) ∧ mu_Fi (fun q _ => q = ga i + 1) w w' ∧ CGc w' (ga i) (gs_R (gs i)) (gs_C (gs i)) (cu (gs_c (gs i)) p q v)) := by
  obtain ⟨ko, hox, ⟨r0, r1, r2, r3, r4, r6, r8, r10, r11, r12, r13, r14⟩, ⟨k1, k3, k4, kB, k12, k13, k14⟩, kS, kF, kQ, k26, kH⟩ := id hm
  obtain ⟨hn1, hn8, hng, hgs, hgn, hgi, hg1⟩ := id hG
  obtain ⟨hcf, hcc, hrr⟩ := id (hg1 i hi)
  have hgo := (hgs i (by omega)).2.2.2
  obtain ⟨gk1, gk2, gk3, gk4, gk5, gk6⟩ := id hgk
  have sd1 := id gk3
  have sd2 := id gk4
  obtain ⟨sd11, sd12, sd13⟩ := sd1
  obtain ⟨sd21, sd22, sd23⟩ := sd2
  refine mu_ofWA G M_X11_set [.ref o, .int (mI (i : Nat)), .int (mI (p : Nat)), .int (mI (q : Nat)), .int (mI (v : Nat)), mu_no] (by decide) rfl (Nat.le_of_ble_eq_true rfl) ?_
  intro X E
  have B : mu_B X G cX11_set RX11 6 (mu_rm M_X11_set) := E.1
  show mu_WA X G 6 _ _ 0 0 0 _ []
  refine mu_al_0 B dX11_set_0 ?_
  refine mu_il_1 B dX11_set_1 ?_
  refine mu_eV1 B dX11_set_2 mX11_280 ⟨⟨by decide, by decide⟩, by decide, by decide⟩ (Nat.le_of_ble_eq_true rfl) (by exact ko) (c_X11_gridAt_y G hm hG hi) ?_
  refine mu_as_5 B dX11_set_5 (by decide) rfl ?_
  refine mu_al_5 B dX11_set_7 ?_
  refine mu_ifnull B dX11_set_9 ?_
  refine mu_al_5 B dX11_set_12 ?_
  refine mu_il_2 B dX11_set_14 ?_
  refine mu_il_3 B dX11_set_15 ?_
  refine mu_eV2 B dX11_set_16 mX11_284 ⟨⟨by decide, by decide⟩, by decide, by decide⟩ (Nat.le_of_ble_eq_true rfl) (by exact hgo.1) (c_X3_hasCell G hgo hcf hS gk3 gk4 (x := (p : Nat)) (y := (q : Nat)) ⟨by omega, by omega⟩ ⟨by omega, by omega⟩) ?_
  refine mu_if_eq (tgt := 32) B dX11_set_19 (by decide) (fun c19 => ?_) (fun c19 => ?_)
  · have z19 := mu_bf c19
    exfalso
    omega
  · have z19 := mu_bt c19
    refine mu_al_5 B dX11_set_22 ?_
    refine mu_il_4 B dX11_set_24 ?_
    refine mu_eV1 B dX11_set_26 mX11_287 ⟨⟨by decide, by decide⟩, by decide, by decide⟩ (Nat.le_of_ble_eq_true rfl) (by exact hgo.1) (c_X3_hasState G hgo hcf hS gk3 gk4 (x := (v : Nat)) ⟨by omega, by omega⟩) ?_
    refine mu_if_ne (tgt := 34) B dX11_set_29 (by decide) (fun c29 => ?_) (fun c29 => ?_)
    · have z29 := mu_bt c29
      refine mu_al_5 B dX11_set_34 ?_
      refine mu_il_2 B dX11_set_36 ?_
      refine mu_il_3 B dX11_set_37 ?_
      refine mu_il_4 B dX11_set_38 ?_
      refine mu_cV3 B dX11_set_40 mX11_290 ⟨⟨by decide, by decide⟩, by decide, by decide⟩ (Nat.le_of_ble_eq_true rfl) (by exact hgo.1) (c_X3_change G hgo hcf hS gk3 gk4 hcc hp hq) (fun r40 w40 q40 => ?_)
      obtain ⟨rfl, q40b⟩ := q40
      show mu_WA X G 6 _ _ _ _ 43 _ [.int (mI (gs_c (gs i) p q))]
      refine mu_iret E rfl (by decide) (by decide) dX11_set_43 ?_
      exact ⟨rfl, q40b⟩
    · have z29 := mu_bf c29
      exfalso
      omega

set_option maxHeartbeats 4000000 in
set_option maxRecDepth 100000 in
theorem c_X11_amount_n (G : mu_G) {w : mu_W} {o : Nat} (hm : CMo w o) {rs : Nat → mu_RS} {ra : Nat → Nat} {ng : Nat} {gs : Nat → mu_GS} {hg : Nat} {ga : Nat → Nat} (hG : CGs w o rs ra ng gs hg ga) {z : Int} (hz : mi_ok z) (hn : ¬ (0 ≤ z ∧ z < ng)) {y : Int32} : mu_Ct G M_X11_amount [.ref o, .int (mI z), .int y] w (fun r w' => r = some (.int (mI (-1))) ∧ w' = w) := by
  obtain ⟨ko, hox, ⟨r0, r1, r2, r3, r4, r6, r8, r10, r11, r12, r13, r14⟩, ⟨k1, k3, k4, kB, k12, k13, k14⟩, kS, kF, kQ, k26, kH⟩ := id hm
  obtain ⟨hn1, hn8, hng, hgs, hgn, hgi, hg1⟩ := id hG
  refine mu_ofWA G M_X11_amount [.ref o, .int (mI z), .int y, mu_no] (by decide) rfl (Nat.le_of_ble_eq_true rfl) ?_
  intro X E
  have B : mu_B X G cX11_amount RX11 4 (mu_rm M_X11_amount) := E.1
  show mu_WA X G 4 _ _ 0 0 0 _ []
  refine mu_al_0 B dX11_amount_0 ?_
  refine mu_il_1 B dX11_amount_1 ?_
  refine mu_eV1 B dX11_amount_2 mX11_280 ⟨⟨by decide, by decide⟩, by decide, by decide⟩ (Nat.le_of_ble_eq_true rfl) (by exact ko) (c_X11_gridAt_n G hm hG hz hn) ?_
  refine mu_ns_3 B dX11_amount_5 (by decide) rfl ?_
  refine mu_nl_3 B dX11_amount_6 ?_
  refine mu_ifnullN (tgt := 18) B dX11_amount_7 (by decide) ?_
  refine mu_iconst (v := mI (-1)) B dX11_amount_18 rfl ?_
  refine mu_iret E rfl (by decide) (by decide) dX11_amount_19 ?_
  exact ⟨rfl, rfl⟩

set_option maxHeartbeats 4000000 in
set_option maxRecDepth 100000 in
theorem c_X11_amount_b (G : mu_G) {w : mu_W} {o : Nat} (hm : CMo w o) {rs : Nat → mu_RS} {ra : Nat → Nat} {ng : Nat} {gs : Nat → mu_GS} {hg : Nat} {ga : Nat → Nat} (hG : CGs w o rs ra ng gs hg ga) {i : Nat} (hi : i < ng) {nr : Nat} (hgk : gs_ok nr rs (gs i)) (hS : 2 ≤ rs_S (rs (gs_r (gs i))) ∧ rs_S (rs (gs_r (gs i))) ≤ 4) {y : Int} (hy : mi_ok y) (hbad : ¬ (0 ≤ y ∧ y < (rs_S (rs (gs_r (gs i))) : Int))) : mu_Ct G M_X11_amount [.ref o, .int (mI (i : Nat)), .int (mI y)] w (fun r w' => r = some (.int (mI (-1))) ∧ w' = w) := by
  obtain ⟨ko, hox, ⟨r0, r1, r2, r3, r4, r6, r8, r10, r11, r12, r13, r14⟩, ⟨k1, k3, k4, kB, k12, k13, k14⟩, kS, kF, kQ, k26, kH⟩ := id hm
  obtain ⟨hn1, hn8, hng, hgs, hgn, hgi, hg1⟩ := id hG
  obtain ⟨hcf, hcc, hrr⟩ := id (hg1 i hi)
  have hgo := (hgs i (by omega)).2.2.2
  obtain ⟨gk1, gk2, gk3, gk4, gk5, gk6⟩ := id hgk
  have sd1 := id gk3
  have sd2 := id gk4
  obtain ⟨sd11, sd12, sd13⟩ := sd1
  obtain ⟨sd21, sd22, sd23⟩ := sd2
  refine mu_ofWA G M_X11_amount [.ref o, .int (mI (i : Nat)), .int (mI y), mu_no] (by decide) rfl (Nat.le_of_ble_eq_true rfl) ?_
  intro X E
  have B : mu_B X G cX11_amount RX11 4 (mu_rm M_X11_amount) := E.1
  show mu_WA X G 4 _ _ 0 0 0 _ []
  refine mu_al_0 B dX11_amount_0 ?_
  refine mu_il_1 B dX11_amount_1 ?_
  refine mu_eV1 B dX11_amount_2 mX11_280 ⟨⟨by decide, by decide⟩, by decide, by decide⟩ (Nat.le_of_ble_eq_true rfl) (by exact ko) (c_X11_gridAt_y G hm hG hi) ?_
  refine mu_as_3 B dX11_amount_5 (by decide) rfl ?_
  refine mu_al_3 B dX11_amount_6 ?_
  refine mu_ifnull B dX11_amount_7 ?_
  refine mu_al_3 B dX11_amount_10 ?_
  refine mu_il_2 B dX11_amount_11 ?_
  refine mu_eV1 B dX11_amount_12 mX11_287 ⟨⟨by decide, by decide⟩, by decide, by decide⟩ (Nat.le_of_ble_eq_true rfl) (by exact hgo.1) (c_X3_hasState G hgo hcf hS gk3 gk4 hy) ?_
  refine mu_if_ne (tgt := 20) B dX11_amount_15 (by decide) (fun c15 => ?_) (fun c15 => ?_)
  · have z15 := mu_bt c15
    exact absurd z15 hbad
  · have z15 := mu_bf c15
    refine mu_iconst (v := mI (-1)) B dX11_amount_18 rfl ?_
    refine mu_iret E rfl (by decide) (by decide) dX11_amount_19 ?_
    exact ⟨rfl, rfl⟩

set_option maxHeartbeats 4000000 in
set_option maxRecDepth 100000 in
theorem c_X11_amount_y (G : mu_G) {w : mu_W} {o : Nat} (hm : CMo w o) {rs : Nat → mu_RS} {ra : Nat → Nat} {ng : Nat} {gs : Nat → mu_GS} {hg : Nat} {ga : Nat → Nat} (hG : CGs w o rs ra ng gs hg ga) {i : Nat} (hi : i < ng) {nr : Nat} (hgk : gs_ok nr rs (gs i)) (hS : 2 ≤ rs_S (rs (gs_r (gs i))) ∧ rs_S (rs (gs_r (gs i))) ≤ 4) {v : Nat} (hv : v < rs_S (rs (gs_r (gs i)))) : mu_Ct G M_X11_amount [.ref o, .int (mI (i : Nat)), .int (mI (v : Nat))] w (fun r w' => r = some (.int (mI ((sp_am (gs_C (gs i)) (gs_c (gs i)) v (gs_R (gs i) * gs_C (gs i)) : Nat) : Int))) ∧ w' = w) := by
  obtain ⟨ko, hox, ⟨r0, r1, r2, r3, r4, r6, r8, r10, r11, r12, r13, r14⟩, ⟨k1, k3, k4, kB, k12, k13, k14⟩, kS, kF, kQ, k26, kH⟩ := id hm
  obtain ⟨hn1, hn8, hng, hgs, hgn, hgi, hg1⟩ := id hG
  obtain ⟨hcf, hcc, hrr⟩ := id (hg1 i hi)
  have hgo := (hgs i (by omega)).2.2.2
  obtain ⟨gk1, gk2, gk3, gk4, gk5, gk6⟩ := id hgk
  have sd1 := id gk3
  have sd2 := id gk4
  obtain ⟨sd11, sd12, sd13⟩ := sd1
  obtain ⟨sd21, sd22, sd23⟩ := sd2
  refine mu_ofWA G M_X11_amount [.ref o, .int (mI (i : Nat)), .int (mI (v : Nat)), mu_no] (by decide) rfl (Nat.le_of_ble_eq_true rfl) ?_
  intro X E
  have B : mu_B X G cX11_amount RX11 4 (mu_rm M_X11_amount) := E.1
  show mu_WA X G 4 _ _ 0 0 0 _ []
  refine mu_al_0 B dX11_amount_0 ?_
  refine mu_il_1 B dX11_amount_1 ?_
  refine mu_eV1 B dX11_amount_2 mX11_280 ⟨⟨by decide, by decide⟩, by decide, by decide⟩ (Nat.le_of_ble_eq_true rfl) (by exact ko) (c_X11_gridAt_y G hm hG hi) ?_
  refine mu_as_3 B dX11_amount_5 (by decide) rfl ?_
  refine mu_al_3 B dX11_amount_6 ?_
  refine mu_ifnull B dX11_amount_7 ?_
  refine mu_al_3 B dX11_amount_10 ?_
  refine mu_il_2 B dX11_amount_11 ?_
  refine mu_eV1 B dX11_amount_12 mX11_287 ⟨⟨by decide, by decide⟩, by decide, by decide⟩ (Nat.le_of_ble_eq_true rfl) (by exact hgo.1) (c_X3_hasState G hgo hcf hS gk3 gk4 (x := (v : Nat)) ⟨by omega, by omega⟩) ?_
  refine mu_if_ne (tgt := 20) B dX11_amount_15 (by decide) (fun c15 => ?_) (fun c15 => ?_)
  · have z15 := mu_bt c15
    refine mu_al_3 B dX11_amount_20 ?_
    refine mu_il_2 B dX11_amount_21 ?_
    refine mu_eV1 B dX11_amount_22 mX11_304 ⟨⟨by decide, by decide⟩, by decide, by decide⟩ (Nat.le_of_ble_eq_true rfl) (by exact hgo.1) (c_X3_tally G hgo hcf hS gk3 gk4 hcc gk6 hv) ?_
    refine mu_iret E rfl (by decide) (by decide) dX11_amount_25 ?_
    exact ⟨rfl, rfl⟩
  · have z15 := mu_bf c15
    exfalso
    omega

set_option maxHeartbeats 4000000 in
set_option maxRecDepth 100000 in
theorem c_X11_fill_n (G : mu_G) {w : mu_W} {o : Nat} (hm : CMo w o) {rs : Nat → mu_RS} {ra : Nat → Nat} {ng : Nat} {gs : Nat → mu_GS} {hg : Nat} {ga : Nat → Nat} (hG : CGs w o rs ra ng gs hg ga) {z : Int} (hz : mi_ok z) (hn : ¬ (0 ≤ z ∧ z < ng)) {x y : Int32} : mu_Ct G M_X11_fill [.ref o, .int (mI z), .int x, .int y] w (fun r w' => r = some (.int (mI (-1))) ∧ w' = w) := by
  obtain ⟨ko, hox, ⟨r0, r1, r2, r3, r4, r6, r8, r10, r11, r12, r13, r14⟩, ⟨k1, k3, k4, kB, k12, k13, k14⟩, kS, kF, kQ, k26, kH⟩ := id hm
  obtain ⟨hn1, hn8, hng, hgs, hgn, hgi, hg1⟩ := id hG
  refine mu_ofWA G M_X11_fill [.ref o, .int (mI z), .int x, .int y, mu_no] (by decide) rfl (Nat.le_of_ble_eq_true rfl) ?_
  intro X E
  have B : mu_B X G cX11_fill RX11 5 (mu_rm M_X11_fill) := E.1
  show mu_WA X G 5 _ _ 0 0 0 _ []
  refine mu_al_0 B dX11_fill_0 ?_
  refine mu_il_1 B dX11_fill_1 ?_
  refine mu_eV1 B dX11_fill_2 mX11_280 ⟨⟨by decide, by decide⟩, by decide, by decide⟩ (Nat.le_of_ble_eq_true rfl) (by exact ko) (c_X11_gridAt_n G hm hG hz hn) ?_
  refine mu_ns_4 B dX11_fill_5 (by decide) rfl ?_
  refine mu_nl_4 B dX11_fill_7 ?_
  refine mu_ifnullN (tgt := 22) B dX11_fill_9 (by decide) ?_
  refine mu_iconst (v := mI (-1)) B dX11_fill_22 rfl ?_
  refine mu_iret E rfl (by decide) (by decide) dX11_fill_23 ?_
  exact ⟨rfl, rfl⟩

set_option maxHeartbeats 4000000 in
set_option maxRecDepth 100000 in
theorem c_X11_fill_b (G : mu_G) {w : mu_W} {o : Nat} (hm : CMo w o) {rs : Nat → mu_RS} {ra : Nat → Nat} {ng : Nat} {gs : Nat → mu_GS} {hg : Nat} {ga : Nat → Nat} (hG : CGs w o rs ra ng gs hg ga) {i : Nat} (hi : i < ng) {x : Int32} {y : Int} (hy : mi_ok y) (hbad : ¬ (0 ≤ y ∧ y ≤ 100)) : mu_Ct G M_X11_fill [.ref o, .int (mI (i : Nat)), .int x, .int (mI y)] w (fun r w' => r = some (.int (mI (-1))) ∧ w' = w) := by
  obtain ⟨ko, hox, ⟨r0, r1, r2, r3, r4, r6, r8, r10, r11, r12, r13, r14⟩, ⟨k1, k3, k4, kB, k12, k13, k14⟩, kS, kF, kQ, k26, kH⟩ := id hm
  obtain ⟨hn1, hn8, hng, hgs, hgn, hgi, hg1⟩ := id hG
  obtain ⟨hy1, hy2⟩ := hy
  refine mu_ofWA G M_X11_fill [.ref o, .int (mI (i : Nat)), .int x, .int (mI y), mu_no] (by decide) rfl (Nat.le_of_ble_eq_true rfl) ?_
  intro X E
  have B : mu_B X G cX11_fill RX11 5 (mu_rm M_X11_fill) := E.1
  show mu_WA X G 5 _ _ 0 0 0 _ []
  refine mu_al_0 B dX11_fill_0 ?_
  refine mu_il_1 B dX11_fill_1 ?_
  refine mu_eV1 B dX11_fill_2 mX11_280 ⟨⟨by decide, by decide⟩, by decide, by decide⟩ (Nat.le_of_ble_eq_true rfl) (by exact ko) (c_X11_gridAt_y G hm hG hi) ?_
  refine mu_as_4 B dX11_fill_5 (by decide) rfl ?_
  refine mu_al_4 B dX11_fill_7 ?_
  refine mu_ifnull B dX11_fill_9 ?_
  refine mu_il_3 B dX11_fill_12 ?_
  refine mu_if_lt (tgt := 22) B dX11_fill_13 (by decide) (fun c13 => ?_) (fun c13 => ?_)
  · try rw [mI_lt0 ⟨by omega, by omega⟩] at c13
    refine mu_iconst (v := mI (-1)) B dX11_fill_22 rfl ?_
    refine mu_iret E rfl (by decide) (by decide) dX11_fill_23 ?_
    exact ⟨rfl, rfl⟩
  · try rw [mI_lt0 ⟨by omega, by omega⟩] at c13
    refine mu_il_3 B dX11_fill_16 ?_
    refine mu_bipush (v := mI 100) B dX11_fill_17 (by decide) ?_
    refine mu_icmp_le (tgt := 24) B dX11_fill_19 (by decide) (fun c19 => ?_) (fun c19 => ?_)
    · try rw [mI_le ⟨by omega, by omega⟩ ⟨by omega, by omega⟩] at c19
      exfalso
      omega
    · try rw [mI_le ⟨by omega, by omega⟩ ⟨by omega, by omega⟩] at c19
      refine mu_iconst (v := mI (-1)) B dX11_fill_22 rfl ?_
      refine mu_iret E rfl (by decide) (by decide) dX11_fill_23 ?_
      exact ⟨rfl, rfl⟩

set_option maxHeartbeats 4000000 in
set_option maxRecDepth 100000 in
theorem c_X11_fill_y (G : mu_G) {w : mu_W} {o : Nat} (hm : CMo w o) {rs : Nat → mu_RS} {ra : Nat → Nat} {ng : Nat} {gs : Nat → mu_GS} {hg : Nat} {ga : Nat → Nat} (hG : CGs w o rs ra ng gs hg ga) {i : Nat} (hi : i < ng) {nr : Nat} (hgk : gs_ok nr rs (gs i)) (hS : 2 ≤ rs_S (rs (gs_r (gs i))) ∧ rs_S (rs (gs_r (gs i))) ≤ 4) {seed : Int32} {n : Nat} (hn100 : n ≤ 100) : mu_Ct G M_X11_fill [.ref o, .int (mI (i : Nat)), .int seed, .int (mI (n : Nat))] w (fun r w' => r = some (.int (mI ((sp_fn seed n (rs_S (rs (gs_r (gs i)))) (gs_R (gs i) * gs_C (gs i)) : Nat) : Int))) ∧ mu_Fi (fun q _ => q = ga i + 1) w w' ∧ CGc w' (ga i) (gs_R (gs i)) (gs_C (gs i)) (sp_fl seed n (rs_S (rs (gs_r (gs i)))) (gs_C (gs i)) (gs_R (gs i) * gs_C (gs i)) (gs_c (gs i)))) := by
  obtain ⟨ko, hox, ⟨r0, r1, r2, r3, r4, r6, r8, r10, r11, r12, r13, r14⟩, ⟨k1, k3, k4, kB, k12, k13, k14⟩, kS, kF, kQ, k26, kH⟩ := id hm
  obtain ⟨hn1, hn8, hng, hgs, hgn, hgi, hg1⟩ := id hG
  obtain ⟨hcf, hcc, hrr⟩ := id (hg1 i hi)
  have hgo := (hgs i (by omega)).2.2.2
  obtain ⟨gk1, gk2, gk3, gk4, gk5, gk6⟩ := id hgk
  have sd1 := id gk3
  have sd2 := id gk4
  obtain ⟨sd11, sd12, sd13⟩ := sd1
  obtain ⟨sd21, sd22, sd23⟩ := sd2
  refine mu_ofWA G M_X11_fill [.ref o, .int (mI (i : Nat)), .int seed, .int (mI (n : Nat)), mu_no] (by decide) rfl (Nat.le_of_ble_eq_true rfl) ?_
  intro X E
  have B : mu_B X G cX11_fill RX11 5 (mu_rm M_X11_fill) := E.1
  show mu_WA X G 5 _ _ 0 0 0 _ []
  refine mu_al_0 B dX11_fill_0 ?_
  refine mu_il_1 B dX11_fill_1 ?_
  refine mu_eV1 B dX11_fill_2 mX11_280 ⟨⟨by decide, by decide⟩, by decide, by decide⟩ (Nat.le_of_ble_eq_true rfl) (by exact ko) (c_X11_gridAt_y G hm hG hi) ?_
  refine mu_as_4 B dX11_fill_5 (by decide) rfl ?_
  refine mu_al_4 B dX11_fill_7 ?_
  refine mu_ifnull B dX11_fill_9 ?_
  refine mu_il_3 B dX11_fill_12 ?_
  refine mu_if_lt (tgt := 22) B dX11_fill_13 (by decide) (fun c13 => ?_) (fun c13 => ?_)
  · try rw [mI_lt0 ⟨by omega, by omega⟩] at c13
    exfalso
    omega
  · try rw [mI_lt0 ⟨by omega, by omega⟩] at c13
    refine mu_il_3 B dX11_fill_16 ?_
    refine mu_bipush (v := mI 100) B dX11_fill_17 (by decide) ?_
    refine mu_icmp_le (tgt := 24) B dX11_fill_19 (by decide) (fun c19 => ?_) (fun c19 => ?_)
    · try rw [mI_le ⟨by omega, by omega⟩ ⟨by omega, by omega⟩] at c19
      refine mu_al_4 B dX11_fill_24 ?_
      refine mu_il_2 B dX11_fill_26 ?_
      refine mu_il_3 B dX11_fill_27 ?_
      refine mu_cV2 B dX11_fill_28 mX11_292 ⟨⟨by decide, by decide⟩, by decide, by decide⟩ (Nat.le_of_ble_eq_true rfl) (by exact hgo.1) (c_X3_scatter G hgo hcf hS gk3 gk4 hcc hn100) (fun r28 w28 q28 => ?_)
      obtain ⟨rfl, q28b⟩ := q28
      show mu_WA X G 5 _ _ _ _ 31 _ [.int _]
      refine mu_iret E rfl (by decide) (by decide) dX11_fill_31 ?_
      exact ⟨rfl, q28b⟩
    · try rw [mI_le ⟨by omega, by omega⟩ ⟨by omega, by omega⟩] at c19
      exfalso
      omega

set_option maxHeartbeats 4000000 in
set_option maxRecDepth 100000 in
theorem c_X11_go_n (G : mu_G) {w : mu_W} {o : Nat} (hm : CMo w o) {rs : Nat → mu_RS} {ra : Nat → Nat} {ng : Nat} {gs : Nat → mu_GS} {hg : Nat} {ga : Nat → Nat} (hG : CGs w o rs ra ng gs hg ga) {z : Int} (hz : mi_ok z) (hn : ¬ (0 ≤ z ∧ z < ng)) {y : Int32} : mu_Ct G M_X11_go [.ref o, .int (mI z), .int y] w (fun r w' => r = some (.int (mI (-1))) ∧ w' = w) := by
  obtain ⟨ko, hox, ⟨r0, r1, r2, r3, r4, r6, r8, r10, r11, r12, r13, r14⟩, ⟨k1, k3, k4, kB, k12, k13, k14⟩, kS, kF, kQ, k26, kH⟩ := id hm
  obtain ⟨hn1, hn8, hng, hgs, hgn, hgi, hg1⟩ := id hG
  refine mu_ofWA G M_X11_go [.ref o, .int (mI z), .int y, mu_no] (by decide) rfl (Nat.le_of_ble_eq_true rfl) ?_
  intro X E
  have B : mu_B X G cX11_go RX11 4 (mu_rm M_X11_go) := E.1
  show mu_WA X G 4 _ _ 0 0 0 _ []
  refine mu_al_0 B dX11_go_0 ?_
  refine mu_il_1 B dX11_go_1 ?_
  refine mu_eV1 B dX11_go_2 mX11_280 ⟨⟨by decide, by decide⟩, by decide, by decide⟩ (Nat.le_of_ble_eq_true rfl) (by exact ko) (c_X11_gridAt_n G hm hG hz hn) ?_
  refine mu_ns_3 B dX11_go_5 (by decide) rfl ?_
  refine mu_nl_3 B dX11_go_6 ?_
  refine mu_ifnullN (tgt := 28) B dX11_go_7 (by decide) ?_
  refine mu_iconst (v := mI (-1)) B dX11_go_28 rfl ?_
  refine mu_iret E rfl (by decide) (by decide) dX11_go_29 ?_
  exact ⟨rfl, rfl⟩

set_option maxHeartbeats 4000000 in
set_option maxRecDepth 100000 in
theorem c_X11_go_b (G : mu_G) {w : mu_W} {o : Nat} (hm : CMo w o) {rs : Nat → mu_RS} {ra : Nat → Nat} {ng : Nat} {gs : Nat → mu_GS} {hg : Nat} {ga : Nat → Nat} (hG : CGs w o rs ra ng gs hg ga) {i : Nat} (hi : i < ng) {y : Int} (hy : mi_ok y) (hbad : ¬ (y ≠ 0 ∧ -1000 ≤ y ∧ y ≤ 1000)) : mu_Ct G M_X11_go [.ref o, .int (mI (i : Nat)), .int (mI y)] w (fun r w' => r = some (.int (mI (-1))) ∧ w' = w) := by
  obtain ⟨ko, hox, ⟨r0, r1, r2, r3, r4, r6, r8, r10, r11, r12, r13, r14⟩, ⟨k1, k3, k4, kB, k12, k13, k14⟩, kS, kF, kQ, k26, kH⟩ := id hm
  obtain ⟨hn1, hn8, hng, hgs, hgn, hgi, hg1⟩ := id hG
  obtain ⟨hy1, hy2⟩ := hy
  refine mu_ofWA G M_X11_go [.ref o, .int (mI (i : Nat)), .int (mI y), mu_no] (by decide) rfl (Nat.le_of_ble_eq_true rfl) ?_
  intro X E
  have B : mu_B X G cX11_go RX11 4 (mu_rm M_X11_go) := E.1
  show mu_WA X G 4 _ _ 0 0 0 _ []
  refine mu_al_0 B dX11_go_0 ?_
  refine mu_il_1 B dX11_go_1 ?_
  refine mu_eV1 B dX11_go_2 mX11_280 ⟨⟨by decide, by decide⟩, by decide, by decide⟩ (Nat.le_of_ble_eq_true rfl) (by exact ko) (c_X11_gridAt_y G hm hG hi) ?_
  refine mu_as_3 B dX11_go_5 (by decide) rfl ?_
  refine mu_al_3 B dX11_go_6 ?_
  refine mu_ifnull B dX11_go_7 ?_
  refine mu_il_2 B dX11_go_10 ?_
  refine mu_if_eq (tgt := 28) B dX11_go_11 (by decide) (fun c11 => ?_) (fun c11 => ?_)
  · try rw [mI_eq0 ⟨by omega, by omega⟩] at c11
    refine mu_iconst (v := mI (-1)) B dX11_go_28 rfl ?_
    refine mu_iret E rfl (by decide) (by decide) dX11_go_29 ?_
    exact ⟨rfl, rfl⟩
  · try rw [mI_eq0 ⟨by omega, by omega⟩] at c11
    refine mu_il_2 B dX11_go_14 ?_
    refine mu_sipush (v := mI (-1000)) B dX11_go_15 (by decide) ?_
    refine mu_icmp_lt (tgt := 28) B dX11_go_18 (by decide) (fun c18 => ?_) (fun c18 => ?_)
    · try rw [mI_lt ⟨by omega, by omega⟩ ⟨by omega, by omega⟩] at c18
      refine mu_iconst (v := mI (-1)) B dX11_go_28 rfl ?_
      refine mu_iret E rfl (by decide) (by decide) dX11_go_29 ?_
      exact ⟨rfl, rfl⟩
    · try rw [mI_lt ⟨by omega, by omega⟩ ⟨by omega, by omega⟩] at c18
      refine mu_il_2 B dX11_go_21 ?_
      refine mu_sipush (v := mI 1000) B dX11_go_22 (by decide) ?_
      refine mu_icmp_le (tgt := 30) B dX11_go_25 (by decide) (fun c25 => ?_) (fun c25 => ?_)
      · try rw [mI_le ⟨by omega, by omega⟩ ⟨by omega, by omega⟩] at c25
        exfalso
        omega
      · try rw [mI_le ⟨by omega, by omega⟩ ⟨by omega, by omega⟩] at c25
        refine mu_iconst (v := mI (-1)) B dX11_go_28 rfl ?_
        refine mu_iret E rfl (by decide) (by decide) dX11_go_29 ?_
        exact ⟨rfl, rfl⟩

set_option maxHeartbeats 4000000 in
set_option maxRecDepth 100000 in
theorem c_X11_go_f (G : mu_G) {w : mu_W} {o : Nat} (hm : CMo w o) {rs : Nat → mu_RS} {ra : Nat → Nat} {ng : Nat} {gs : Nat → mu_GS} {hg : Nat} {ga : Nat → Nat} (hG : CGs w o rs ra ng gs hg ga) {i : Nat} (hi : i < ng) {nr : Nat} (hgk : gs_ok nr rs (gs i)) (hS : 2 ≤ rs_S (rs (gs_r (gs i))) ∧ rs_S (rs (gs_r (gs i))) ≤ 4) (hcr : CRu w (ra (gs_r (gs i))) (rs (gs_r (gs i)))) {m : Nat} (hm1 : 1 ≤ m) (hm2 : m ≤ 1000) : mu_Ct G M_X11_go [.ref o, .int (mI (i : Nat)), .int (mI (m : Nat))] w (gfw_post w (ga i) (rs_S (rs (gs_r (gs i)))) (gs_R (gs i)) (gs_C (gs i)) (gs_n (gs i)) (gs_n (gs i) + m) (sp_fw (rs_be (rs (gs_r (gs i)))) (rs_S (rs (gs_r (gs i)))) (gs_R (gs i)) (gs_C (gs i)) (gs_n (gs i)) (gs_c (gs i)) m)) := by
  obtain ⟨ko, hox, ⟨r0, r1, r2, r3, r4, r6, r8, r10, r11, r12, r13, r14⟩, ⟨k1, k3, k4, kB, k12, k13, k14⟩, kS, kF, kQ, k26, kH⟩ := id hm
  obtain ⟨hn1, hn8, hng, hgs, hgn, hgi, hg1⟩ := id hG
  obtain ⟨hcf, hcc, hrr⟩ := id (hg1 i hi)
  have hgo := (hgs i (by omega)).2.2.2
  obtain ⟨gk1, gk2, gk3, gk4, gk5, gk6⟩ := id hgk
  have sd1 := id gk3
  have sd2 := id gk4
  obtain ⟨sd11, sd12, sd13⟩ := sd1
  obtain ⟨sd21, sd22, sd23⟩ := sd2
  have hap : ∀ x, x ≤ 4 → ra (gs_r (gs i)) + x ≠ ga i + 1 := fun x hx9 e9 => by
    by_cases q9 : x = 0
    · rw [q9, Nat.add_zero] at e9; have := hcr.1; rw [e9, hgo.2.2] at this; cases this
    · have e8 : ga i = ra (gs_r (gs i)) + (x - 1) := by omega
      have := hgo.1
      rw [e8] at this
      rcases (show x = 1 ∨ x = 2 ∨ x = 3 ∨ x = 4 by omega) with q8 | q8 | q8 | q8 <;> subst q8
      · rw [Nat.sub_self, Nat.add_zero, hcr.1] at this; cases this
      · rw [show ra (gs_r (gs i)) + (2 - 1) = ra (gs_r (gs i)) + 1 from rfl, hcr.2.2.1] at this; cases this
      · rw [show ra (gs_r (gs i)) + (3 - 1) = ra (gs_r (gs i)) + 2 from rfl, hcr.2.2.2.2.1] at this; cases this
      · rw [show ra (gs_r (gs i)) + (4 - 1) = ra (gs_r (gs i)) + 3 from rfl, hcr.2.2.2.2.2.2.1] at this; cases this
  refine mu_ofWA G M_X11_go [.ref o, .int (mI (i : Nat)), .int (mI (m : Nat)), mu_no] (by decide) rfl (Nat.le_of_ble_eq_true rfl) ?_
  intro X E
  have B : mu_B X G cX11_go RX11 4 (mu_rm M_X11_go) := E.1
  show mu_WA X G 4 _ _ 0 0 0 _ []
  refine mu_al_0 B dX11_go_0 ?_
  refine mu_il_1 B dX11_go_1 ?_
  refine mu_eV1 B dX11_go_2 mX11_280 ⟨⟨by decide, by decide⟩, by decide, by decide⟩ (Nat.le_of_ble_eq_true rfl) (by exact ko) (c_X11_gridAt_y G hm hG hi) ?_
  refine mu_as_3 B dX11_go_5 (by decide) rfl ?_
  refine mu_al_3 B dX11_go_6 ?_
  refine mu_ifnull B dX11_go_7 ?_
  refine mu_il_2 B dX11_go_10 ?_
  refine mu_if_eq (tgt := 28) B dX11_go_11 (by decide) (fun c11 => ?_) (fun c11 => ?_)
  · try rw [mI_eq0 ⟨by omega, by omega⟩] at c11
    exfalso
    omega
  · try rw [mI_eq0 ⟨by omega, by omega⟩] at c11
    refine mu_il_2 B dX11_go_14 ?_
    refine mu_sipush (v := mI (-1000)) B dX11_go_15 (by decide) ?_
    refine mu_icmp_lt (tgt := 28) B dX11_go_18 (by decide) (fun c18 => ?_) (fun c18 => ?_)
    · try rw [mI_lt ⟨by omega, by omega⟩ ⟨by omega, by omega⟩] at c18
      exfalso
      omega
    · try rw [mI_lt ⟨by omega, by omega⟩ ⟨by omega, by omega⟩] at c18
      refine mu_il_2 B dX11_go_21 ?_
      refine mu_sipush (v := mI 1000) B dX11_go_22 (by decide) ?_
      refine mu_icmp_le (tgt := 30) B dX11_go_25 (by decide) (fun c25 => ?_) (fun c25 => ?_)
      · try rw [mI_le ⟨by omega, by omega⟩ ⟨by omega, by omega⟩] at c25
        refine mu_il_2 B dX11_go_30 ?_
        refine mu_if_le (tgt := 40) B dX11_go_31 (by decide) (fun c31 => ?_) (fun c31 => ?_)
        · try rw [mI_le0 ⟨by omega, by omega⟩] at c31
          exfalso
          omega
        · try rw [mI_le0 ⟨by omega, by omega⟩] at c31
          refine mu_al_3 B dX11_go_34 ?_
          refine mu_il_2 B dX11_go_35 ?_
          refine mu_cV1 B dX11_go_36 mX11_295 ⟨⟨by decide, by decide⟩, by decide, by decide⟩ (Nat.le_of_ble_eq_true rfl) (by exact hgo.1) (c_X3_forward G hgo hcf hS gk3 gk4 hcc gk6 hcr hrr rfl gk2 (hap 2 (by decide)) hm2 gk5) (fun r36 w36 q36 => ?_)
          obtain ⟨rfl, q36b⟩ := q36
          show mu_WA X G 4 _ _ _ _ 39 _ [.int _]
          refine mu_iret E rfl (by decide) (by decide) dX11_go_39 ?_
          exact ⟨rfl, q36b⟩
      · try rw [mI_le ⟨by omega, by omega⟩ ⟨by omega, by omega⟩] at c25
        exfalso
        omega

set_option maxHeartbeats 4000000 in
set_option maxRecDepth 100000 in
theorem c_X11_go_k (G : mu_G) {w : mu_W} {o : Nat} (hm : CMo w o) {rs : Nat → mu_RS} {ra : Nat → Nat} {ng : Nat} {gs : Nat → mu_GS} {hg : Nat} {ga : Nat → Nat} (hG : CGs w o rs ra ng gs hg ga) {i : Nat} (hi : i < ng) {nr : Nat} (hgk : gs_ok nr rs (gs i)) (hS : 2 ≤ rs_S (rs (gs_r (gs i))) ∧ rs_S (rs (gs_r (gs i))) ≤ 4) (hcr : CRu w (ra (gs_r (gs i))) (rs (gs_r (gs i)))) {m : Nat} (hm1 : 1 ≤ m) (hm2 : m ≤ 1000) : mu_Ct G M_X11_go [.ref o, .int (mI (i : Nat)), .int (mI (-(m : Int)))] w (fun r w' => (¬ (sp_rev (rs_N (rs (gs_r (gs i)))) (rs_be (rs (gs_r (gs i)))) ∧ m ≤ gs_n (gs i)) → r = some (.int (mI (-2))) ∧ w' = w) ∧ (sp_rev (rs_N (rs (gs_r (gs i)))) (rs_be (rs (gs_r (gs i)))) ∧ m ≤ gs_n (gs i) → gfw_post w (ga i) (rs_S (rs (gs_r (gs i)))) (gs_R (gs i)) (gs_C (gs i)) (gs_n (gs i)) (gs_n (gs i) - m) (sp_bw (sp_inv (rs_be (rs (gs_r (gs i)))) (rs_N (rs (gs_r (gs i))))) (rs_S (rs (gs_r (gs i)))) (gs_R (gs i)) (gs_C (gs i)) (gs_n (gs i)) (gs_c (gs i)) m) r w')) := by
  obtain ⟨ko, hox, ⟨r0, r1, r2, r3, r4, r6, r8, r10, r11, r12, r13, r14⟩, ⟨k1, k3, k4, kB, k12, k13, k14⟩, kS, kF, kQ, k26, kH⟩ := id hm
  obtain ⟨hn1, hn8, hng, hgs, hgn, hgi, hg1⟩ := id hG
  obtain ⟨hcf, hcc, hrr⟩ := id (hg1 i hi)
  have hgo := (hgs i (by omega)).2.2.2
  obtain ⟨gk1, gk2, gk3, gk4, gk5, gk6⟩ := id hgk
  have sd1 := id gk3
  have sd2 := id gk4
  obtain ⟨sd11, sd12, sd13⟩ := sd1
  obtain ⟨sd21, sd22, sd23⟩ := sd2
  have hap : ∀ x, x ≤ 4 → ra (gs_r (gs i)) + x ≠ ga i + 1 := fun x hx9 e9 => by
    by_cases q9 : x = 0
    · rw [q9, Nat.add_zero] at e9; have := hcr.1; rw [e9, hgo.2.2] at this; cases this
    · have e8 : ga i = ra (gs_r (gs i)) + (x - 1) := by omega
      have := hgo.1
      rw [e8] at this
      rcases (show x = 1 ∨ x = 2 ∨ x = 3 ∨ x = 4 by omega) with q8 | q8 | q8 | q8 <;> subst q8
      · rw [Nat.sub_self, Nat.add_zero, hcr.1] at this; cases this
      · rw [show ra (gs_r (gs i)) + (2 - 1) = ra (gs_r (gs i)) + 1 from rfl, hcr.2.2.1] at this; cases this
      · rw [show ra (gs_r (gs i)) + (3 - 1) = ra (gs_r (gs i)) + 2 from rfl, hcr.2.2.2.2.1] at this; cases this
      · rw [show ra (gs_r (gs i)) + (4 - 1) = ra (gs_r (gs i)) + 3 from rfl, hcr.2.2.2.2.2.2.1] at this; cases this
  refine mu_ofWA G M_X11_go [.ref o, .int (mI (i : Nat)), .int (mI (-(m : Int))), mu_no] (by decide) rfl (Nat.le_of_ble_eq_true rfl) ?_
  intro X E
  have B : mu_B X G cX11_go RX11 4 (mu_rm M_X11_go) := E.1
  show mu_WA X G 4 _ _ 0 0 0 _ []
  refine mu_al_0 B dX11_go_0 ?_
  refine mu_il_1 B dX11_go_1 ?_
  refine mu_eV1 B dX11_go_2 mX11_280 ⟨⟨by decide, by decide⟩, by decide, by decide⟩ (Nat.le_of_ble_eq_true rfl) (by exact ko) (c_X11_gridAt_y G hm hG hi) ?_
  refine mu_as_3 B dX11_go_5 (by decide) rfl ?_
  refine mu_al_3 B dX11_go_6 ?_
  refine mu_ifnull B dX11_go_7 ?_
  refine mu_il_2 B dX11_go_10 ?_
  refine mu_if_eq (tgt := 28) B dX11_go_11 (by decide) (fun c11 => ?_) (fun c11 => ?_)
  · try rw [mI_eq0 ⟨by omega, by omega⟩] at c11
    exfalso
    omega
  · try rw [mI_eq0 ⟨by omega, by omega⟩] at c11
    refine mu_il_2 B dX11_go_14 ?_
    refine mu_sipush (v := mI (-1000)) B dX11_go_15 (by decide) ?_
    refine mu_icmp_lt (tgt := 28) B dX11_go_18 (by decide) (fun c18 => ?_) (fun c18 => ?_)
    · try rw [mI_lt ⟨by omega, by omega⟩ ⟨by omega, by omega⟩] at c18
      exfalso
      omega
    · try rw [mI_lt ⟨by omega, by omega⟩ ⟨by omega, by omega⟩] at c18
      refine mu_il_2 B dX11_go_21 ?_
      refine mu_sipush (v := mI 1000) B dX11_go_22 (by decide) ?_
      refine mu_icmp_le (tgt := 30) B dX11_go_25 (by decide) (fun c25 => ?_) (fun c25 => ?_)
      · try rw [mI_le ⟨by omega, by omega⟩ ⟨by omega, by omega⟩] at c25
        refine mu_il_2 B dX11_go_30 ?_
        refine mu_if_le (tgt := 40) B dX11_go_31 (by decide) (fun c31 => ?_) (fun c31 => ?_)
        · try rw [mI_le0 ⟨by omega, by omega⟩] at c31
          refine mu_al_3 B dX11_go_40 ?_
          refine mu_il_2 B dX11_go_41 ?_
          refine mu_ineg B dX11_go_42 ?_
          try rw [mI_neg]
          rw [show -(-(m : Int)) = ((m : Nat) : Int) by omega]
          refine mu_cV1 B dX11_go_43 mX11_298 ⟨⟨by decide, by decide⟩, by decide, by decide⟩ (Nat.le_of_ble_eq_true rfl) (by exact hgo.1) (c_X3_canGoBack G hgo hcf hS gk3 gk4 hcr hrr rfl gk2 gk5 hm2) (fun r43 w43 q43 => ?_)
          obtain ⟨⟨hgy, hgn9⟩, hw43⟩ := q43
          subst hw43
          obtain ⟨v, rfl, hv⟩ : ∃ v, r43 = some (.int v) ∧ ((v = mI 1 ∧ (sp_rev (rs_N (rs (gs_r (gs i)))) (rs_be (rs (gs_r (gs i)))) ∧ m ≤ gs_n (gs i))) ∨ (v = mI 0 ∧ ¬ (sp_rev (rs_N (rs (gs_r (gs i)))) (rs_be (rs (gs_r (gs i)))) ∧ m ≤ gs_n (gs i)))) := by
            by_cases h : sp_rev (rs_N (rs (gs_r (gs i)))) (rs_be (rs (gs_r (gs i)))) ∧ m ≤ gs_n (gs i)
            · exact ⟨_, hgy h, Or.inl ⟨rfl, h⟩⟩
            · exact ⟨_, hgn9 h, Or.inr ⟨rfl, h⟩⟩
          show mu_WA X G 4 _ _ _ _ 46 _ [.int v]
          refine mu_if_eq (tgt := 58) B dX11_go_46 (by decide) (fun c46 => ?_) (fun c46 => ?_)
          · have hnt : ¬ (sp_rev (rs_N (rs (gs_r (gs i)))) (rs_be (rs (gs_r (gs i)))) ∧ m ≤ gs_n (gs i)) := by
              rcases hv with h | h
              · rw [h.1] at c46; exact absurd c46 (by decide)
              · exact h.2
            refine mu_bipush (v := mI (-2)) B dX11_go_58 (by decide) ?_
            refine mu_iret E rfl (by decide) (by decide) dX11_go_60 ?_
            first
              | exact ⟨fun _ => ⟨rfl, rfl⟩, fun h => absurd h hnt⟩
              | exact ⟨fun h => absurd hyt h, fun _ => ⟨rfl, q52b⟩⟩
          · have hyt : sp_rev (rs_N (rs (gs_r (gs i)))) (rs_be (rs (gs_r (gs i)))) ∧ m ≤ gs_n (gs i) := by
              rcases hv with h | h
              · exact h.2
              · rw [h.1] at c46; exact absurd rfl c46
            refine mu_al_3 B dX11_go_49 ?_
            refine mu_il_2 B dX11_go_50 ?_
            refine mu_ineg B dX11_go_51 ?_
            try rw [mI_neg]
            rw [show -(-(m : Int)) = ((m : Nat) : Int) by omega]
            refine mu_cV1 B dX11_go_52 mX11_301 ⟨⟨by decide, by decide⟩, by decide, by decide⟩ (Nat.le_of_ble_eq_true rfl) (by exact hgo.1) (c_X3_back G hgo hcf hS gk3 gk4 hcc gk6 hcr hrr rfl gk2 (hap 3 (by decide)) hyt.1 hyt.2 gk5) (fun r52 w52 q52 => ?_)
            obtain ⟨rfl, q52b⟩ := q52
            show mu_WA X G 4 _ _ _ _ 55 _ [.int _]
            refine mu_goto (tgt := 60) B dX11_go_55 (by decide) ?_
            refine mu_iret E rfl (by decide) (by decide) dX11_go_60 ?_
            first
              | exact ⟨fun _ => ⟨rfl, rfl⟩, fun h => absurd h hnt⟩
              | exact ⟨fun h => absurd hyt h, fun _ => ⟨rfl, q52b⟩⟩
        · try rw [mI_le0 ⟨by omega, by omega⟩] at c31
          exfalso
          omega
      · try rw [mI_le ⟨by omega, by omega⟩ ⟨by omega, by omega⟩] at c25
        exfalso
        omega
