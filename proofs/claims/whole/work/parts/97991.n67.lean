/-! ===== the class: calls on fields ===== -/
set_option maxHeartbeats 4000000 in
set_option maxRecDepth 100000 in
theorem c_X11_at_n (G : mu_G) {w : mu_W} {o : Nat} (hm : CMo w o) {ra : Nat → Nat} {nf : Nat} {fs : Nat → mu_FS} {hf : Nat} {fa : Nat → Nat} (hF : CFs w o ra nf fs hf fa) {z : Int} (hz : mi_ok z) (hn : ¬ (0 ≤ z ∧ z < nf)) {x y : Int32} : mu_Ct G M_X11_at [.ref o, .int (mI z), .int x, .int y] w (fun r w' => r = some (.int (mI (-1))) ∧ w' = w) := by
  obtain ⟨ko, hox, ⟨r0, r1, r2, r3, r4, r6, r8, r10, r11, r12, r13, r14⟩, ⟨k1, k3, k4, kB, k12, k13, k14⟩, kS, kF, kQ, k26, kH⟩ := id hm
  obtain ⟨hn1, hn8, hnf, hfs, hfn, hfi, hf1⟩ := id hF
  refine mu_ofWA G M_X11_at [.ref o, .int (mI z), .int x, .int y, mu_no] (by decide) rfl (Nat.le_of_ble_eq_true rfl) ?_
  intro X E
  have B : mu_B X G cX11_at RX11 5 (mu_rm M_X11_at) := E.1
  show mu_WA X G 5 _ _ 0 0 0 _ []
  refine mu_al_0 B dX11_at_0 ?_
  refine mu_il_1 B dX11_at_1 ?_
  refine mu_eV1 B dX11_at_2 mX11_139 ⟨⟨by decide, by decide⟩, by decide, by decide⟩ (Nat.le_of_ble_eq_true rfl) (by exact ko) (c_X11_fieldAt_n G hm hF hz hn) ?_
  refine mu_ns_4 B dX11_at_5 (by decide) rfl ?_
  refine mu_nl_4 B dX11_at_7 ?_
  refine mu_ifnullN (tgt := 20) B dX11_at_9 (by decide) ?_
  refine mu_iconst (v := mI (-1)) B dX11_at_20 rfl ?_
  refine mu_iret E rfl (by decide) (by decide) dX11_at_21 ?_
  exact ⟨rfl, rfl⟩

set_option maxHeartbeats 4000000 in
set_option maxRecDepth 100000 in
theorem c_X11_at_y (G : mu_G) {w : mu_W} {o : Nat} (hm : CMo w o) {ra : Nat → Nat} {nf : Nat} {fs : Nat → mu_FS} {hf : Nat} {fa : Nat → Nat} (hF : CFs w o ra nf fs hf fa) {i : Nat} (hi : i < nf) {x y : Int} (hx9 : mi_ok x) (hy9 : mi_ok y) : mu_Ct G M_X11_at [.ref o, .int (mI (i : Nat)), .int (mI x), .int (mI y)] w (fun r w' => r = some (.int (if -128 ≤ x ∧ x < 128 ∧ -128 ≤ y ∧ y < 128 then mI (fs_c (fs i) (x + 128).toNat (y + 128).toNat) else mI (-1))) ∧ w' = w) := by
  obtain ⟨ko, hox, ⟨r0, r1, r2, r3, r4, r6, r8, r10, r11, r12, r13, r14⟩, ⟨k1, k3, k4, kB, k12, k13, k14⟩, kS, kF, kQ, k26, kH⟩ := id hm
  obtain ⟨hn1, hn8, hnf, hfs, hfn, hfi, hf1⟩ := id hF
  obtain ⟨hb, ⟨L, R, U, D, M, hx, hcm⟩, hrr, hfr, hfg⟩ := id (hf1 i hi)
  have hfo := (hfs i (by omega)).2.2.2
  have hbd := hx.bd hb.1
  obtain ⟨bd1, bd2, bd3, bd4, bd5, bd6, bd7, bd8, bd9⟩ := id hbd
  obtain ⟨hx1, hx2⟩ := hx9
  obtain ⟨hy1, hy2⟩ := hy9
  refine mu_ofWA G M_X11_at [.ref o, .int (mI (i : Nat)), .int (mI x), .int (mI y), mu_no] (by decide) rfl (Nat.le_of_ble_eq_true rfl) ?_
  intro X E
  have B : mu_B X G cX11_at RX11 5 (mu_rm M_X11_at) := E.1
  show mu_WA X G 5 _ _ 0 0 0 _ []
  refine mu_al_0 B dX11_at_0 ?_
  refine mu_il_1 B dX11_at_1 ?_
  refine mu_eV1 B dX11_at_2 mX11_139 ⟨⟨by decide, by decide⟩, by decide, by decide⟩ (Nat.le_of_ble_eq_true rfl) (by exact ko) (c_X11_fieldAt_y G hm hF hi) ?_
  refine mu_as_4 B dX11_at_5 (by decide) rfl ?_
  refine mu_al_4 B dX11_at_7 ?_
  refine mu_ifnull B dX11_at_9 ?_
  refine mu_il_2 B dX11_at_12 ?_
  refine mu_il_3 B dX11_at_13 ?_
  refine mu_eS2 B dX11_at_14 mX11_143 ⟨⟨by decide, by decide⟩, by decide, by decide⟩ (Nat.le_of_ble_eq_true rfl) (c_X11_isPlace G ⟨hx1, hx2⟩ ⟨hy1, hy2⟩) ?_
  refine mu_if_ne (tgt := 22) B dX11_at_17 (by decide) (fun c17 => ?_) (fun c17 => ?_)
  · have z17 := mu_bt c17
    refine mu_al_4 B dX11_at_22 ?_
    refine mu_il_2 B dX11_at_24 ?_
    refine mu_bipush (v := mI (-128)) B dX11_at_25 (by decide) ?_
    refine mu_isub B dX11_at_27 ?_
    try rw [mI_sub]
    rw [show x - -128 = x + 128 by omega]
    refine mu_il_3 B dX11_at_28 ?_
    refine mu_bipush (v := mI (-128)) B dX11_at_29 (by decide) ?_
    refine mu_isub B dX11_at_31 ?_
    try rw [mI_sub]
    rw [show y - -128 = y + 128 by omega]
    refine mu_eV2 B dX11_at_32 mX11_151 ⟨⟨by decide, by decide⟩, by decide, by decide⟩ (Nat.le_of_ble_eq_true rfl) (by exact hfo.1) (c_X1_look G hfo hb (x := x + 128) (y := y + 128) ⟨by omega, by omega⟩ ⟨by omega, by omega⟩) ?_
    refine mu_iret E rfl (by decide) (by decide) dX11_at_35 ?_
    refine ⟨?_, rfl⟩
    rw [if_pos z17]
    unfold sp_al
    rw [if_pos ⟨by omega, by omega, by omega, by omega⟩]
  · have z17 := mu_bf c17
    refine mu_iconst (v := mI (-1)) B dX11_at_20 rfl ?_
    refine mu_iret E rfl (by decide) (by decide) dX11_at_21 ?_
    exact ⟨by rw [if_neg z17], rfl⟩

set_option maxHeartbeats 4000000 in
set_option maxRecDepth 100000 in
theorem c_X11_put_n (G : mu_G) {w : mu_W} {o : Nat} (hm : CMo w o) {ra : Nat → Nat} {nf : Nat} {fs : Nat → mu_FS} {hf : Nat} {fa : Nat → Nat} (hF : CFs w o ra nf fs hf fa) {z : Int} (hz : mi_ok z) (hn : ¬ (0 ≤ z ∧ z < nf)) {x y v : Int32} : mu_Ct G M_X11_put [.ref o, .int (mI z), .int x, .int y, .int v] w (fun r w' => r = some (.int (mI (-1))) ∧ w' = w) := by
  obtain ⟨ko, hox, ⟨r0, r1, r2, r3, r4, r6, r8, r10, r11, r12, r13, r14⟩, ⟨k1, k3, k4, kB, k12, k13, k14⟩, kS, kF, kQ, k26, kH⟩ := id hm
  obtain ⟨hn1, hn8, hnf, hfs, hfn, hfi, hf1⟩ := id hF
  refine mu_ofWA G M_X11_put [.ref o, .int (mI z), .int x, .int y, .int v, mu_no] (by decide) rfl (Nat.le_of_ble_eq_true rfl) ?_
  intro X E
  have B : mu_B X G cX11_put RX11 6 (mu_rm M_X11_put) := E.1
  show mu_WA X G 6 _ _ 0 0 0 _ []
  refine mu_al_0 B dX11_put_0 ?_
  refine mu_il_1 B dX11_put_1 ?_
  refine mu_eV1 B dX11_put_2 mX11_139 ⟨⟨by decide, by decide⟩, by decide, by decide⟩ (Nat.le_of_ble_eq_true rfl) (by exact ko) (c_X11_fieldAt_n G hm hF hz hn) ?_
  refine mu_ns_5 B dX11_put_5 (by decide) rfl ?_
  refine mu_nl_5 B dX11_put_7 ?_
  refine mu_ifnullN (tgt := 31) B dX11_put_9 (by decide) ?_
  refine mu_iconst (v := mI (-1)) B dX11_put_31 rfl ?_
  refine mu_iret E rfl (by decide) (by decide) dX11_put_32 ?_
  exact ⟨rfl, rfl⟩

set_option maxHeartbeats 4000000 in
set_option maxRecDepth 100000 in
theorem c_X11_put_b (G : mu_G) {w : mu_W} {o : Nat} (hm : CMo w o) {ra : Nat → Nat} {nf : Nat} {fs : Nat → mu_FS} {hf : Nat} {fa : Nat → Nat} (hF : CFs w o ra nf fs hf fa) {i : Nat} (hi : i < nf) {x y v : Int} (hx9 : mi_ok x) (hy9 : mi_ok y) (hv9 : mi_ok v) (hbad : ¬ ((-128 ≤ x ∧ x < 128 ∧ -128 ≤ y ∧ y < 128) ∧ 0 ≤ v ∧ v ≤ 1)) : mu_Ct G M_X11_put [.ref o, .int (mI (i : Nat)), .int (mI x), .int (mI y), .int (mI v)] w (fun r w' => r = some (.int (mI (-1))) ∧ w' = w) := by
  obtain ⟨ko, hox, ⟨r0, r1, r2, r3, r4, r6, r8, r10, r11, r12, r13, r14⟩, ⟨k1, k3, k4, kB, k12, k13, k14⟩, kS, kF, kQ, k26, kH⟩ := id hm
  obtain ⟨hn1, hn8, hnf, hfs, hfn, hfi, hf1⟩ := id hF
  obtain ⟨hx1, hx2⟩ := hx9
  obtain ⟨hy1, hy2⟩ := hy9
  obtain ⟨hv1, hv2⟩ := hv9
  refine mu_ofWA G M_X11_put [.ref o, .int (mI (i : Nat)), .int (mI x), .int (mI y), .int (mI v), mu_no] (by decide) rfl (Nat.le_of_ble_eq_true rfl) ?_
  intro X E
  have B : mu_B X G cX11_put RX11 6 (mu_rm M_X11_put) := E.1
  show mu_WA X G 6 _ _ 0 0 0 _ []
  refine mu_al_0 B dX11_put_0 ?_
  refine mu_il_1 B dX11_put_1 ?_
  refine mu_eV1 B dX11_put_2 mX11_139 ⟨⟨by decide, by decide⟩, by decide, by decide⟩ (Nat.le_of_ble_eq_true rfl) (by exact ko) (c_X11_fieldAt_y G hm hF hi) ?_
  refine mu_as_5 B dX11_put_5 (by decide) rfl ?_
  refine mu_al_5 B dX11_put_7 ?_
  refine mu_ifnull B dX11_put_9 ?_
  refine mu_il_2 B dX11_put_12 ?_
  refine mu_il_3 B dX11_put_13 ?_
  refine mu_eS2 B dX11_put_14 mX11_143 ⟨⟨by decide, by decide⟩, by decide, by decide⟩ (Nat.le_of_ble_eq_true rfl) (c_X11_isPlace G ⟨hx1, hx2⟩ ⟨hy1, hy2⟩) ?_
  refine mu_if_eq (tgt := 31) B dX11_put_17 (by decide) (fun c17 => ?_) (fun c17 => ?_)
  · have z17 := mu_bf c17
    refine mu_iconst (v := mI (-1)) B dX11_put_31 rfl ?_
    refine mu_iret E rfl (by decide) (by decide) dX11_put_32 ?_
    exact ⟨rfl, rfl⟩
  · have z17 := mu_bt c17
    refine mu_il_4 B dX11_put_20 ?_
    refine mu_if_lt (tgt := 31) B dX11_put_22 (by decide) (fun c22 => ?_) (fun c22 => ?_)
    · try rw [mI_lt0 ⟨by omega, by omega⟩] at c22
      refine mu_iconst (v := mI (-1)) B dX11_put_31 rfl ?_
      refine mu_iret E rfl (by decide) (by decide) dX11_put_32 ?_
      exact ⟨rfl, rfl⟩
    · try rw [mI_lt0 ⟨by omega, by omega⟩] at c22
      refine mu_il_4 B dX11_put_25 ?_
      refine mu_iconst (v := mI 1) B dX11_put_27 rfl ?_
      refine mu_icmp_le (tgt := 33) B dX11_put_28 (by decide) (fun c28 => ?_) (fun c28 => ?_)
      · try rw [mI_le ⟨by omega, by omega⟩ ⟨by omega, by omega⟩] at c28
        exfalso
        exact hbad ⟨z17, by omega, by omega⟩
      · try rw [mI_le ⟨by omega, by omega⟩ ⟨by omega, by omega⟩] at c28
        refine mu_iconst (v := mI (-1)) B dX11_put_31 rfl ?_
        refine mu_iret E rfl (by decide) (by decide) dX11_put_32 ?_
        exact ⟨rfl, rfl⟩

set_option maxHeartbeats 4000000 in
set_option maxRecDepth 100000 in
theorem c_X11_put_y (G : mu_G) {w : mu_W} {o : Nat} (hm : CMo w o) {ra : Nat → Nat} {nf : Nat} {fs : Nat → mu_FS} {hf : Nat} {fa : Nat → Nat} (hF : CFs w o ra nf fs hf fa) {i : Nat} (hi : i < nf) {p q v : Nat} (hp : p < 256) (hq : q < 256) (hv : v ≤ 1) : mu_Ct G M_X11_put [.ref o, .int (mI (i : Nat)), .int (mI ((p : Int) - 128)), .int (mI ((q : Int) - 128)), .int (mI (v : Nat))] w (ch_post w (fa i) (fs_c (fs i)) p q v) := by
  obtain ⟨ko, hox, ⟨r0, r1, r2, r3, r4, r6, r8, r10, r11, r12, r13, r14⟩, ⟨k1, k3, k4, kB, k12, k13, k14⟩, kS, kF, kQ, k26, kH⟩ := id hm
  obtain ⟨hn1, hn8, hnf, hfs, hfn, hfi, hf1⟩ := id hF
  obtain ⟨hb, ⟨L, R, U, D, M, hx, hcm⟩, hrr, hfr, hfg⟩ := id (hf1 i hi)
  have hfo := (hfs i (by omega)).2.2.2
  have hbd := hx.bd hb.1
  obtain ⟨bd1, bd2, bd3, bd4, bd5, bd6, bd7, bd8, bd9⟩ := id hbd
  refine mu_ofWA G M_X11_put [.ref o, .int (mI (i : Nat)), .int (mI ((p : Int) - 128)), .int (mI ((q : Int) - 128)), .int (mI (v : Nat)), mu_no] (by decide) rfl (Nat.le_of_ble_eq_true rfl) ?_
  intro X E
  have B : mu_B X G cX11_put RX11 6 (mu_rm M_X11_put) := E.1
  show mu_WA X G 6 _ _ 0 0 0 _ []
  refine mu_al_0 B dX11_put_0 ?_
  refine mu_il_1 B dX11_put_1 ?_
  refine mu_eV1 B dX11_put_2 mX11_139 ⟨⟨by decide, by decide⟩, by decide, by decide⟩ (Nat.le_of_ble_eq_true rfl) (by exact ko) (c_X11_fieldAt_y G hm hF hi) ?_
  refine mu_as_5 B dX11_put_5 (by decide) rfl ?_
  refine mu_al_5 B dX11_put_7 ?_
  refine mu_ifnull B dX11_put_9 ?_
  refine mu_il_2 B dX11_put_12 ?_
  refine mu_il_3 B dX11_put_13 ?_
  refine mu_eS2 B dX11_put_14 mX11_143 ⟨⟨by decide, by decide⟩, by decide, by decide⟩ (Nat.le_of_ble_eq_true rfl) (c_X11_isPlace G (x := (p : Int) - 128) (y := (q : Int) - 128) ⟨by omega, by omega⟩ ⟨by omega, by omega⟩) ?_
  refine mu_if_eq (tgt := 31) B dX11_put_17 (by decide) (fun c17 => ?_) (fun c17 => ?_)
  · have z17 := mu_bf c17
    exfalso
    omega
  · have z17 := mu_bt c17
    refine mu_il_4 B dX11_put_20 ?_
    refine mu_if_lt (tgt := 31) B dX11_put_22 (by decide) (fun c22 => ?_) (fun c22 => ?_)
    · try rw [mI_lt0 ⟨by omega, by omega⟩] at c22
      exfalso
      omega
    · try rw [mI_lt0 ⟨by omega, by omega⟩] at c22
      refine mu_il_4 B dX11_put_25 ?_
      refine mu_iconst (v := mI 1) B dX11_put_27 rfl ?_
      refine mu_icmp_le (tgt := 33) B dX11_put_28 (by decide) (fun c28 => ?_) (fun c28 => ?_)
      · try rw [mI_le ⟨by omega, by omega⟩ ⟨by omega, by omega⟩] at c28
        refine mu_al_5 B dX11_put_33 ?_
        refine mu_il_2 B dX11_put_35 ?_
        refine mu_bipush (v := mI (-128)) B dX11_put_36 (by decide) ?_
        refine mu_isub B dX11_put_38 ?_
        try rw [mI_sub]
        rw [show (p : Int) - 128 - -128 = ((p : Nat) : Int) by omega]
        refine mu_il_3 B dX11_put_39 ?_
        refine mu_bipush (v := mI (-128)) B dX11_put_40 (by decide) ?_
        refine mu_isub B dX11_put_42 ?_
        try rw [mI_sub]
        rw [show (q : Int) - 128 - -128 = ((q : Nat) : Int) by omega]
        refine mu_il_4 B dX11_put_43 ?_
        refine mu_cV3 B dX11_put_45 mX11_147 ⟨⟨by decide, by decide⟩, by decide, by decide⟩ (Nat.le_of_ble_eq_true rfl) (by exact hfo.1) (c_X1_change G hfo hb hcm hx hp hq hv) (fun r45 w45 q45 => ?_)
        obtain ⟨rfl, q45b⟩ := q45
        show mu_WA X G 6 _ _ _ _ 48 _ [.int (mI (fs_c (fs i) p q : Nat))]
        refine mu_iret E rfl (by decide) (by decide) dX11_put_48 ?_
        exact ⟨rfl, q45b⟩
      · try rw [mI_le ⟨by omega, by omega⟩ ⟨by omega, by omega⟩] at c28
        exfalso
        omega

set_option maxHeartbeats 4000000 in
set_option maxRecDepth 100000 in
theorem c_X11_empty_n (G : mu_G) {w : mu_W} {o : Nat} (hm : CMo w o) {ra : Nat → Nat} {nf : Nat} {fs : Nat → mu_FS} {hf : Nat} {fa : Nat → Nat} (hF : CFs w o ra nf fs hf fa) {z : Int} (hz : mi_ok z) (hn : ¬ (0 ≤ z ∧ z < nf)) : mu_Ct G M_X11_empty [.ref o, .int (mI z)] w (fun r w' => r = some (.int (mI (-1))) ∧ w' = w) := by
  obtain ⟨ko, hox, ⟨r0, r1, r2, r3, r4, r6, r8, r10, r11, r12, r13, r14⟩, ⟨k1, k3, k4, kB, k12, k13, k14⟩, kS, kF, kQ, k26, kH⟩ := id hm
  obtain ⟨hn1, hn8, hnf, hfs, hfn, hfi, hf1⟩ := id hF
  refine mu_ofWA G M_X11_empty [.ref o, .int (mI z), mu_no, mu_no] (by decide) rfl (Nat.le_of_ble_eq_true rfl) ?_
  intro X E
  have B : mu_B X G cX11_empty RX11 4 (mu_rm M_X11_empty) := E.1
  show mu_WA X G 4 _ _ 0 0 0 _ []
  refine mu_al_0 B dX11_empty_0 ?_
  refine mu_il_1 B dX11_empty_1 ?_
  refine mu_eV1 B dX11_empty_2 mX11_139 ⟨⟨by decide, by decide⟩, by decide, by decide⟩ (Nat.le_of_ble_eq_true rfl) (by exact ko) (c_X11_fieldAt_n G hm hF hz hn) ?_
  refine mu_ns_2 B dX11_empty_5 (by decide) rfl ?_
  refine mu_nl_2 B dX11_empty_6 ?_
  refine mu_ifnonnullN B dX11_empty_7 ?_
  refine mu_iconst (v := mI (-1)) B dX11_empty_10 rfl ?_
  refine mu_iret E rfl (by decide) (by decide) dX11_empty_11 ?_
  exact ⟨rfl, rfl⟩

set_option maxHeartbeats 4000000 in
set_option maxRecDepth 100000 in
theorem c_X11_empty_y (G : mu_G) {w : mu_W} {o : Nat} (hm : CMo w o) {ra : Nat → Nat} {nf : Nat} {fs : Nat → mu_FS} {hf : Nat} {fa : Nat → Nat} (hF : CFs w o ra nf fs hf fa) {i : Nat} (hi : i < nf) : mu_Ct G M_X11_empty [.ref o, .int (mI (i : Nat))] w (fun r w' => r = some (.int (mu_iv w (fa i) 5)) ∧ cle_post w (fa i) none w') := by
  obtain ⟨ko, hox, ⟨r0, r1, r2, r3, r4, r6, r8, r10, r11, r12, r13, r14⟩, ⟨k1, k3, k4, kB, k12, k13, k14⟩, kS, kF, kQ, k26, kH⟩ := id hm
  obtain ⟨hn1, hn8, hnf, hfs, hfn, hfi, hf1⟩ := id hF
  obtain ⟨hb, ⟨L, R, U, D, M, hx, hcm⟩, hrr, hfr, hfg⟩ := id (hf1 i hi)
  have hfo := (hfs i (by omega)).2.2.2
  have hbd := hx.bd hb.1
  obtain ⟨bd1, bd2, bd3, bd4, bd5, bd6, bd7, bd8, bd9⟩ := id hbd
  refine mu_ofWA G M_X11_empty [.ref o, .int (mI (i : Nat)), mu_no, mu_no] (by decide) rfl (Nat.le_of_ble_eq_true rfl) ?_
  intro X E
  have B : mu_B X G cX11_empty RX11 4 (mu_rm M_X11_empty) := E.1
  show mu_WA X G 4 _ _ 0 0 0 _ []
  refine mu_al_0 B dX11_empty_0 ?_
  refine mu_il_1 B dX11_empty_1 ?_
  refine mu_eV1 B dX11_empty_2 mX11_139 ⟨⟨by decide, by decide⟩, by decide, by decide⟩ (Nat.le_of_ble_eq_true rfl) (by exact ko) (c_X11_fieldAt_y G hm hF hi) ?_
  refine mu_as_2 B dX11_empty_5 (by decide) rfl ?_
  refine mu_al_2 B dX11_empty_6 ?_
  refine mu_ifnonnull (tgt := 12) B dX11_empty_7 (by decide) ?_
  refine mu_al_2 B dX11_empty_12 ?_
  refine mu_getIN B dX11_empty_13 fX11_185 rfl (by exact hfo.1) ?_
  refine mu_is_3 B dX11_empty_16 (by decide) rfl ?_
  refine mu_al_2 B dX11_empty_17 ?_
  refine mu_cV0 B dX11_empty_18 mX11_230 ⟨⟨by decide, by decide⟩, by decide, by decide⟩ (Nat.le_of_ble_eq_true rfl) (by exact hfo.1) (c_X1_clear G hfo) (fun r18 w18 q18 => ?_)
  obtain ⟨rfl, q18b⟩ := q18
  refine mu_il_3 B dX11_empty_21 ?_
  refine mu_iret E rfl (by decide) (by decide) dX11_empty_22 ?_
  exact ⟨rfl, rfl, q18b⟩

set_option maxHeartbeats 4000000 in
set_option maxRecDepth 100000 in
theorem c_X11_textByte_n (G : mu_G) {w : mu_W} {o : Nat} (hm : CMo w o) {ra : Nat → Nat} {nf : Nat} {fs : Nat → mu_FS} {hf : Nat} {fa : Nat → Nat} (hF : CFs w o ra nf fs hf fa) {z : Int} (hz : mi_ok z) (hn : ¬ (0 ≤ z ∧ z < nf)) {y : Int32} : mu_Ct G M_X11_textByte [.ref o, .int (mI z), .int y] w (fun r w' => r = some (.int (mI (-1))) ∧ w' = w) := by
  obtain ⟨ko, hox, ⟨r0, r1, r2, r3, r4, r6, r8, r10, r11, r12, r13, r14⟩, ⟨k1, k3, k4, kB, k12, k13, k14⟩, kS, kF, kQ, k26, kH⟩ := id hm
  obtain ⟨hn1, hn8, hnf, hfs, hfn, hfi, hf1⟩ := id hF
  refine mu_ofWA G M_X11_textByte [.ref o, .int (mI z), .int y, mu_no] (by decide) rfl (Nat.le_of_ble_eq_true rfl) ?_
  intro X E
  have B : mu_B X G cX11_textByte RX11 4 (mu_rm M_X11_textByte) := E.1
  show mu_WA X G 4 _ _ 0 0 0 _ []
  refine mu_al_0 B dX11_textByte_0 ?_
  refine mu_il_1 B dX11_textByte_1 ?_
  refine mu_eV1 B dX11_textByte_2 mX11_139 ⟨⟨by decide, by decide⟩, by decide, by decide⟩ (Nat.le_of_ble_eq_true rfl) (by exact ko) (c_X11_fieldAt_n G hm hF hz hn) ?_
  refine mu_ns_3 B dX11_textByte_5 (by decide) rfl ?_
  refine mu_nl_3 B dX11_textByte_6 ?_
  refine mu_ifnonnullN B dX11_textByte_7 ?_
  refine mu_iconst (v := mI (-1)) B dX11_textByte_10 rfl ?_
  refine mu_goto (tgt := 23) B dX11_textByte_11 (by decide) ?_
  refine mu_iret E rfl (by decide) (by decide) dX11_textByte_23 ?_
  exact ⟨rfl, rfl⟩

set_option maxHeartbeats 4000000 in
set_option maxRecDepth 100000 in
theorem c_X11_textByte_y (G : mu_G) {w : mu_W} {o : Nat} (hm : CMo w o) {ra : Nat → Nat} {nf : Nat} {fs : Nat → mu_FS} {hf : Nat} {fa : Nat → Nat} (hF : CFs w o ra nf fs hf fa) {i : Nat} (hi : i < nf) {y : Int} (hy : mi_ok y) : mu_Ct G M_X11_textByte [.ref o, .int (mI (i : Nat)), .int (mI y)] w (fun r w' => ∃ (L R U D : Int) (M l u d : Nat), CMx (fs_c (fs i)) L R U D M ∧ L = (l : Int) ∧ U = (u : Int) ∧ D = (d : Int) ∧ byt_post w (o + 26) (ftw y 0 (mI 0) (mB (txR (fs_c (fs i)) l (d + 1 - u) u (-1)))) r w') := by
  obtain ⟨ko, hox, ⟨r0, r1, r2, r3, r4, r6, r8, r10, r11, r12, r13, r14⟩, ⟨k1, k3, k4, kB, k12, k13, k14⟩, kS, kF, kQ, k26, kH⟩ := id hm
  obtain ⟨hn1, hn8, hnf, hfs, hfn, hfi, hf1⟩ := id hF
  obtain ⟨hb, ⟨L, R, U, D, M, hx, hcm⟩, hrr, hfr, hfg⟩ := id (hf1 i hi)
  have hfo := (hfs i (by omega)).2.2.2
  have hbd := hx.bd hb.1
  obtain ⟨bd1, bd2, bd3, bd4, bd5, bd6, bd7, bd8, bd9⟩ := id hbd
  obtain ⟨l, hl⟩ : ∃ l : Nat, L = (l : Int) := ⟨L.toNat, by omega⟩
  obtain ⟨u, hu⟩ : ∃ u : Nat, U = (u : Int) := ⟨U.toNat, by omega⟩
  obtain ⟨d, hd⟩ : ∃ d : Nat, D = (d : Int) := ⟨D.toNat, by omega⟩
  refine mu_ofWA G M_X11_textByte [.ref o, .int (mI (i : Nat)), .int (mI y), mu_no] (by decide) rfl (Nat.le_of_ble_eq_true rfl) ?_
  intro X E
  have B : mu_B X G cX11_textByte RX11 4 (mu_rm M_X11_textByte) := E.1
  show mu_WA X G 4 _ _ 0 0 0 _ []
  refine mu_al_0 B dX11_textByte_0 ?_
  refine mu_il_1 B dX11_textByte_1 ?_
  refine mu_eV1 B dX11_textByte_2 mX11_139 ⟨⟨by decide, by decide⟩, by decide, by decide⟩ (Nat.le_of_ble_eq_true rfl) (by exact ko) (c_X11_fieldAt_y G hm hF hi) ?_
  refine mu_as_3 B dX11_textByte_5 (by decide) rfl ?_
  refine mu_al_3 B dX11_textByte_6 ?_
  refine mu_ifnonnull (tgt := 14) B dX11_textByte_7 (by decide) ?_
  refine mu_al_0 B dX11_textByte_14 ?_
  refine mu_getR B dX11_textByte_15 fX11_77 rfl (by exact ko) (by exact r13) ?_
  refine mu_al_3 B dX11_textByte_18 ?_
  refine mu_il_2 B dX11_textByte_19 ?_
  refine mu_cV2 B dX11_textByte_20 mX11_167 ⟨⟨by decide, by decide⟩, by decide, by decide⟩ (Nat.le_of_ble_eq_true rfl) (by exact k26) (c_X2_byteOf G hfo hb hcm hx k26 hy hl hu hd) (fun r20 w20 q20 => ?_)
  obtain ⟨rfl, q20b⟩ := q20
  show mu_WA X G 4 _ _ _ _ 23 _ [.int _]
  refine mu_iret E rfl (by decide) (by decide) dX11_textByte_23 ?_
  exact ⟨L, R, U, D, M, l, u, d, hx, hl, hu, hd, rfl, q20b⟩
