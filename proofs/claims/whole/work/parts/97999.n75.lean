/-! ===== the class: small constructors ===== -/

set_option maxHeartbeats 4000000 in
set_option maxRecDepth 100000 in
theorem c_X3_init (G : mu_G) {w : mu_W} {a : Nat} (hk : mu_kd w a = some (3, 0)) (hnx : mu_nx w = a + 1) : mu_Ct G M_X3_init [.ref a] w (fun r w' => r = none ∧ NF w a 1 w' ∧ CGo w' a) := by
  have h0 := NF.start hnx
  refine mu_ofWA G M_X3_init [.ref a] (by decide) rfl (Nat.le_of_ble_eq_true rfl) ?_
  intro X E
  have B : mu_B X G cX3_init RX3 1 (mu_rm M_X3_init) := E.1
  show mu_WA X G 1 _ _ 0 0 0 _ []
  refine mu_al_0 B dX3_init_0 ?_
  refine mu_obj B dX3_init_1 obX3 obi obc ⟨by decide, by decide⟩ (Nat.le_of_ble_eq_true rfl) ?_
  refine mu_al_0 B dX3_init_4 ?_
  refine mu_sipush (v := mI 256) B dX3_init_5 (by decide) ?_
  refine mu_newm (ka := 0) B dX3_init_8 rfl (by decide) aw_int 256 rfl (by decide) (by decide) (by decide) (by decide) ?_
  refine mu_putRF B E.2.2.2 dX3_init_10 fX3_9 ffX3_0 rfl rfl (h0.kd hk 100 256) ?_
  have h1 := h0.step 100 256 0
  have g0 := h0.new 100 256 0
  generalize mu_sr (mu_al w 100 256) a 0 (some (mu_nx w)) = w_1 at h1 g0 ⊢
  refine mu_vret E rfl (by decide) (by decide) dX3_init_13 ?_
  exact ⟨rfl, h1, (h1.2.1 a (by omega)).1.trans hk, g0.1, g0.2⟩

set_option maxHeartbeats 4000000 in
set_option maxRecDepth 100000 in
theorem c_X10_init (G : mu_G) {w : mu_W} {a : Nat} (hk : mu_kd w a = some (10, 0)) (hnx : mu_nx w = a + 1) : mu_Ct G M_X10_init [.ref a] w (fun r w' => r = none ∧ NF w a 1 w' ∧ mu_kd w' a = some (10, 0) ∧ mu_rv w' a 0 = some (a + 1) ∧ mu_kd w' (a + 1) = some (102, 2000)) := by
  have h0 := NF.start hnx
  refine mu_ofWA G M_X10_init [.ref a] (by decide) rfl (Nat.le_of_ble_eq_true rfl) ?_
  intro X E
  have B : mu_B X G cX10_init RX10 1 (mu_rm M_X10_init) := E.1
  show mu_WA X G 1 _ _ 0 0 0 _ []
  refine mu_al_0 B dX10_init_0 ?_
  refine mu_obj B dX10_init_1 obX10 obi obc ⟨by decide, by decide⟩ (Nat.le_of_ble_eq_true rfl) ?_
  refine mu_al_0 B dX10_init_4 ?_
  refine mu_sipush (v := mI 2000) B dX10_init_5 (by decide) ?_
  refine mu_newm (ka := 2) B dX10_init_8 rfl (by decide) aw_byte 2000 rfl (by decide) (by decide) (by decide) (by decide) ?_
  refine mu_putRF B E.2.2.2 dX10_init_10 fX10_9 ffX10_0 rfl rfl (h0.kd hk 102 2000) ?_
  have h1 := h0.step 102 2000 0
  have g0 := h0.new 102 2000 0
  generalize mu_sr (mu_al w 102 2000) a 0 (some (mu_nx w)) = w_1 at h1 g0 ⊢
  refine mu_vret E rfl (by decide) (by decide) dX10_init_13 ?_
  exact ⟨rfl, h1, (h1.2.1 a (by omega)).1.trans hk, g0.1, g0.2⟩

set_option maxHeartbeats 4000000 in
set_option maxRecDepth 100000 in
theorem c_X7_init (G : mu_G) {w : mu_W} {a : Nat} (hk : mu_kd w a = some (7, 0)) (hnx : mu_nx w = a + 1) : mu_Ct G M_X7_init [.ref a] w (fun r w' => r = none ∧ NF w a 7 w' ∧ CSo w' a) := by
  have h0 := NF.start hnx
  refine mu_ofWA G M_X7_init [.ref a] (by decide) rfl (Nat.le_of_ble_eq_true rfl) ?_
  intro X E
  have B : mu_B X G cX7_init RX7 1 (mu_rm M_X7_init) := E.1
  show mu_WA X G 1 _ _ 0 0 0 _ []
  refine mu_al_0 B dX7_init_0 ?_
  refine mu_obj B dX7_init_1 obX7 obi obc ⟨by decide, by decide⟩ (Nat.le_of_ble_eq_true rfl) ?_
  refine mu_al_0 B dX7_init_4 ?_
  refine mu_bipush (v := mI 64) B dX7_init_5 (by decide) ?_
  refine mu_newm (ka := 0) B dX7_init_7 rfl (by decide) aw_int 64 rfl (by decide) (by decide) (by decide) (by decide) ?_
  refine mu_putRF B E.2.2.2 dX7_init_9 fX7_11 ffX7_0 rfl rfl (h0.kd hk 100 64) ?_
  have h1 := h0.step 100 64 0
  have g0 := h0.new 100 64 0
  generalize mu_sr (mu_al w 100 64) a 0 (some (mu_nx w)) = w_1 at h1 g0 ⊢
  refine mu_al_0 B dX7_init_12 ?_
  refine mu_bipush (v := mI 64) B dX7_init_13 (by decide) ?_
  refine mu_newm (ka := 0) B dX7_init_15 rfl (by decide) aw_int 64 rfl (by decide) (by decide) (by decide) (by decide) ?_
  refine mu_putRF B E.2.2.2 dX7_init_17 fX7_15 ffX7_1 rfl rfl (h1.kd hk 100 64) ?_
  have h2 := h1.step 100 64 1
  have g1 := h1.new 100 64 1
  replace g0 := h1.old 100 64 1 (by decide) (by decide) g0
  generalize mu_sr (mu_al w_1 100 64) a 1 (some (mu_nx w_1)) = w_2 at h2 g0 g1 ⊢
  refine mu_al_0 B dX7_init_20 ?_
  refine mu_bipush (v := mI 64) B dX7_init_21 (by decide) ?_
  refine mu_newm (ka := 0) B dX7_init_23 rfl (by decide) aw_int 64 rfl (by decide) (by decide) (by decide) (by decide) ?_
  refine mu_putRF B E.2.2.2 dX7_init_25 fX7_18 ffX7_2 rfl rfl (h2.kd hk 100 64) ?_
  have h3 := h2.step 100 64 2
  have g2 := h2.new 100 64 2
  replace g0 := h2.old 100 64 2 (by decide) (by decide) g0
  replace g1 := h2.old 100 64 2 (by decide) (by decide) g1
  generalize mu_sr (mu_al w_2 100 64) a 2 (some (mu_nx w_2)) = w_3 at h3 g0 g1 g2 ⊢
  refine mu_al_0 B dX7_init_28 ?_
  refine mu_bipush (v := mI 64) B dX7_init_29 (by decide) ?_
  refine mu_newm (ka := 0) B dX7_init_31 rfl (by decide) aw_int 64 rfl (by decide) (by decide) (by decide) (by decide) ?_
  refine mu_putRF B E.2.2.2 dX7_init_33 fX7_21 ffX7_4 rfl rfl (h3.kd hk 100 64) ?_
  have h4 := h3.step 100 64 4
  have g3 := h3.new 100 64 4
  replace g0 := h3.old 100 64 4 (by decide) (by decide) g0
  replace g1 := h3.old 100 64 4 (by decide) (by decide) g1
  replace g2 := h3.old 100 64 4 (by decide) (by decide) g2
  generalize mu_sr (mu_al w_3 100 64) a 4 (some (mu_nx w_3)) = w_4 at h4 g0 g1 g2 g3 ⊢
  refine mu_al_0 B dX7_init_36 ?_
  refine mu_bipush (v := mI 17) B dX7_init_37 (by decide) ?_
  refine mu_newm (ka := 0) B dX7_init_39 rfl (by decide) aw_int 17 rfl (by decide) (by decide) (by decide) (by decide) ?_
  refine mu_putRF B E.2.2.2 dX7_init_41 fX7_24 ffX7_5 rfl rfl (h4.kd hk 100 17) ?_
  have h5 := h4.step 100 17 5
  have g4 := h4.new 100 17 5
  replace g0 := h4.old 100 17 5 (by decide) (by decide) g0
  replace g1 := h4.old 100 17 5 (by decide) (by decide) g1
  replace g2 := h4.old 100 17 5 (by decide) (by decide) g2
  replace g3 := h4.old 100 17 5 (by decide) (by decide) g3
  generalize mu_sr (mu_al w_4 100 17) a 5 (some (mu_nx w_4)) = w_5 at h5 g0 g1 g2 g3 g4 ⊢
  refine mu_al_0 B dX7_init_44 ?_
  refine mu_sipush (v := mI 4096) B dX7_init_45 (by decide) ?_
  refine mu_newm (ka := 0) B dX7_init_48 rfl (by decide) aw_int 4096 rfl (by decide) (by decide) (by decide) (by decide) ?_
  refine mu_putRF B E.2.2.2 dX7_init_50 fX7_27 ffX7_9 rfl rfl (h5.kd hk 100 4096) ?_
  have h6 := h5.step 100 4096 9
  have g5 := h5.new 100 4096 9
  replace g0 := h5.old 100 4096 9 (by decide) (by decide) g0
  replace g1 := h5.old 100 4096 9 (by decide) (by decide) g1
  replace g2 := h5.old 100 4096 9 (by decide) (by decide) g2
  replace g3 := h5.old 100 4096 9 (by decide) (by decide) g3
  replace g4 := h5.old 100 4096 9 (by decide) (by decide) g4
  generalize mu_sr (mu_al w_5 100 4096) a 9 (some (mu_nx w_5)) = w_6 at h6 g0 g1 g2 g3 g4 g5 ⊢
  refine mu_al_0 B dX7_init_53 ?_
  refine mu_sipush (v := mI 1024) B dX7_init_54 (by decide) ?_
  refine mu_newm (ka := 1) B dX7_init_57 rfl (by decide) aw_long 1024 rfl (by decide) (by decide) (by decide) (by decide) ?_
  refine mu_putRF B E.2.2.2 dX7_init_59 fX7_30 ffX7_10 rfl rfl (h6.kd hk 101 1024) ?_
  have h7 := h6.step 101 1024 10
  have g6 := h6.new 101 1024 10
  replace g0 := h6.old 101 1024 10 (by decide) (by decide) g0
  replace g1 := h6.old 101 1024 10 (by decide) (by decide) g1
  replace g2 := h6.old 101 1024 10 (by decide) (by decide) g2
  replace g3 := h6.old 101 1024 10 (by decide) (by decide) g3
  replace g4 := h6.old 101 1024 10 (by decide) (by decide) g4
  replace g5 := h6.old 101 1024 10 (by decide) (by decide) g5
  generalize mu_sr (mu_al w_6 101 1024) a 10 (some (mu_nx w_6)) = w_7 at h7 g0 g1 g2 g3 g4 g5 g6 ⊢
  refine mu_vret E rfl (by decide) (by decide) dX7_init_62 ?_
  exact ⟨rfl, h7, (h7.2.1 a (by omega)).1.trans hk, g0, g1, g2, g3, g4, g5, g6⟩

set_option maxHeartbeats 4000000 in
set_option maxRecDepth 100000 in
theorem c_X2_init (G : mu_G) {w : mu_W} {a : Nat} : mu_Ct G M_X2_init [.ref a] w (fun r w' => r = none ∧ w' = w) := by
  refine mu_ofWA G M_X2_init [.ref a] (by decide) rfl (Nat.le_of_ble_eq_true rfl) ?_
  intro X E
  have B : mu_B X G cX2_init RX2 1 (mu_rm M_X2_init) := E.1
  show mu_WA X G 1 _ _ 0 0 0 _ []
  refine mu_al_0 B dX2_init_0 ?_
  refine mu_obj B dX2_init_1 obX2 obi obc ⟨by decide, by decide⟩ (Nat.le_of_ble_eq_true rfl) ?_
  refine mu_vret E rfl (by decide) (by decide) dX2_init_4 ?_
  exact ⟨rfl, rfl⟩

set_option maxHeartbeats 4000000 in
set_option maxRecDepth 100000 in
theorem c_X5_init (G : mu_G) {w : mu_W} {a : Nat} : mu_Ct G M_X5_init [.ref a] w (fun r w' => r = none ∧ w' = w) := by
  refine mu_ofWA G M_X5_init [.ref a] (by decide) rfl (Nat.le_of_ble_eq_true rfl) ?_
  intro X E
  have B : mu_B X G cX5_init RX5 1 (mu_rm M_X5_init) := E.1
  show mu_WA X G 1 _ _ 0 0 0 _ []
  refine mu_al_0 B dX5_init_0 ?_
  refine mu_obj B dX5_init_1 obX5 obi obc ⟨by decide, by decide⟩ (Nat.le_of_ble_eq_true rfl) ?_
  refine mu_vret E rfl (by decide) (by decide) dX5_init_4 ?_
  exact ⟨rfl, rfl⟩

set_option maxHeartbeats 4000000 in
set_option maxRecDepth 100000 in
theorem c_X6_init (G : mu_G) {w : mu_W} {a : Nat} : mu_Ct G M_X6_init [.ref a] w (fun r w' => r = none ∧ w' = w) := by
  refine mu_ofWA G M_X6_init [.ref a] (by decide) rfl (Nat.le_of_ble_eq_true rfl) ?_
  intro X E
  have B : mu_B X G cX6_init RX6 1 (mu_rm M_X6_init) := E.1
  show mu_WA X G 1 _ _ 0 0 0 _ []
  refine mu_al_0 B dX6_init_0 ?_
  refine mu_obj B dX6_init_1 obX6 obi obc ⟨by decide, by decide⟩ (Nat.le_of_ble_eq_true rfl) ?_
  refine mu_vret E rfl (by decide) (by decide) dX6_init_4 ?_
  exact ⟨rfl, rfl⟩
