/-! ===== the class: calls that look ===== -/
theorem mu_ns_2 {X : mu_X} {G : mu_G} {cc : ByteArray} {own : String} {nL : Nat} {R : Room} {Qf : State → Prop} {w : mu_W} {kc ks pc : Nat} {st : List Value} (B : mu_B X G cc own nL R) {v0 v1 : Value} {u0 : Value} {r : List Value} (hdg : decode cc pc = .ok (.astore_n 2, 1)) (hn : 2 < nL) (hc : v1.category = 1) (k : mu_WA X G nL Qf w kc ks (pc + 1) (v0 :: v1 :: .null :: r) st) : mu_WA X G nL Qf w kc ks pc (v0 :: v1 :: u0 :: r) (.null :: st) := fun H locs ls hH hS hl => lv_astore_nN B.1 B.2.1 hdg rfl hl hn rfl (fun ls' hl' => k H locs ls' hH hS (mu_put1 hl' (fun u _ h1 => by cases h1; exact hc)))
theorem mu_ns_3 {X : mu_X} {G : mu_G} {cc : ByteArray} {own : String} {nL : Nat} {R : Room} {Qf : State → Prop} {w : mu_W} {kc ks pc : Nat} {st : List Value} (B : mu_B X G cc own nL R) {v0 v1 v2 : Value} {u0 : Value} {r : List Value} (hdg : decode cc pc = .ok (.astore_n 3, 1)) (hn : 3 < nL) (hc : v2.category = 1) (k : mu_WA X G nL Qf w kc ks (pc + 1) (v0 :: v1 :: v2 :: .null :: r) st) : mu_WA X G nL Qf w kc ks pc (v0 :: v1 :: v2 :: u0 :: r) (.null :: st) := fun H locs ls hH hS hl => lv_astore_nN B.1 B.2.1 hdg rfl hl hn rfl (fun ls' hl' => k H locs ls' hH hS (mu_put1 hl' (fun u _ h1 => by cases h1; exact hc)))
theorem mu_ns_4 {X : mu_X} {G : mu_G} {cc : ByteArray} {own : String} {nL : Nat} {R : Room} {Qf : State → Prop} {w : mu_W} {kc ks pc : Nat} {st : List Value} (B : mu_B X G cc own nL R) {v0 v1 v2 v3 : Value} {u0 : Value} {r : List Value} (hdg : decode cc pc = .ok (.astore 4, 2)) (hn : 4 < nL) (hc : v3.category = 1) (k : mu_WA X G nL Qf w kc ks (pc + 2) (v0 :: v1 :: v2 :: v3 :: .null :: r) st) : mu_WA X G nL Qf w kc ks pc (v0 :: v1 :: v2 :: v3 :: u0 :: r) (.null :: st) := fun H locs ls hH hS hl => lv_astoreN B.1 B.2.1 hdg hl hn rfl (fun ls' hl' => k H locs ls' hH hS (mu_put1 hl' (fun u _ h1 => by cases h1; exact hc)))
theorem mu_ns_5 {X : mu_X} {G : mu_G} {cc : ByteArray} {own : String} {nL : Nat} {R : Room} {Qf : State → Prop} {w : mu_W} {kc ks pc : Nat} {st : List Value} (B : mu_B X G cc own nL R) {v0 v1 v2 v3 v4 : Value} {u0 : Value} {r : List Value} (hdg : decode cc pc = .ok (.astore 5, 2)) (hn : 5 < nL) (hc : v4.category = 1) (k : mu_WA X G nL Qf w kc ks (pc + 2) (v0 :: v1 :: v2 :: v3 :: v4 :: .null :: r) st) : mu_WA X G nL Qf w kc ks pc (v0 :: v1 :: v2 :: v3 :: v4 :: u0 :: r) (.null :: st) := fun H locs ls hH hS hl => lv_astoreN B.1 B.2.1 hdg hl hn rfl (fun ls' hl' => k H locs ls' hH hS (mu_put1 hl' (fun u _ h1 => by cases h1; exact hc)))
set_option maxHeartbeats 4000000 in
set_option maxRecDepth 100000 in
theorem c_X11_ruleByte_n (G : mu_G) {w : mu_W} {o : Nat} (hm : CMo w o) {nr : Nat} {rs : Nat → mu_RS} {ra : Nat → Nat} (hr : CRs w o nr rs ra) {z : Int} (hz : mi_ok z) (hn : ¬ (0 ≤ z ∧ z < nr)) {y : Int32} : mu_Ct G M_X11_ruleByte [.ref o, .int (mI z), .int y] w (fun r w' => r = some (.int (mI (-1))) ∧ w' = w) := by
  obtain ⟨ko, hox, ⟨r0, r1, r2, r3, r4, r6, r8, r10, r11, r12, r13, r14⟩, ⟨k1, k3, k4, kB, k12, k13, k14⟩, kS, kF, kQ, k26, kH⟩ := id hm
  obtain ⟨hn16, hnr, hrs⟩ := id hr
  refine mu_ofWA G M_X11_ruleByte [.ref o, .int (mI z), .int y, mu_no] (by decide) rfl (Nat.le_of_ble_eq_true rfl) ?_
  intro X E
  have B : mu_B X G cX11_ruleByte RX11 4 (mu_rm M_X11_ruleByte) := E.1
  show mu_WA X G 4 _ _ 0 0 0 _ []
  refine mu_al_0 B dX11_ruleByte_0 ?_
  refine mu_il_1 B dX11_ruleByte_1 ?_
  refine mu_eV1 B dX11_ruleByte_2 mX11_117 ⟨⟨by decide, by decide⟩, by decide, by decide⟩ (Nat.le_of_ble_eq_true rfl) (by exact ko) (c_X11_ruleAt_n G hm hr hz hn) ?_
  refine mu_ns_3 B dX11_ruleByte_5 (by decide) rfl ?_
  refine mu_nl_3 B dX11_ruleByte_6 ?_
  refine mu_ifnonnullN B dX11_ruleByte_7 ?_
  refine mu_iconst (v := mI (-1)) B dX11_ruleByte_10 rfl ?_
  refine mu_goto (tgt := 19) B dX11_ruleByte_11 (by decide) ?_
  refine mu_iret E rfl (by decide) (by decide) dX11_ruleByte_19 ?_
  exact ⟨rfl, rfl⟩

set_option maxHeartbeats 4000000 in
set_option maxRecDepth 100000 in
theorem c_X11_ruleByte_y (G : mu_G) {w : mu_W} {o : Nat} (hm : CMo w o) {nr : Nat} {rs : Nat → mu_RS} {ra : Nat → Nat} (hr : CRs w o nr rs ra) {i : Nat} (hi : i < nr) {y : Int} (hy : mi_ok y) : mu_Ct G M_X11_ruleByte [.ref o, .int (mI (i : Nat)), .int (mI y)] w (fun r w' => r = some (.int (if 0 ≤ y ∧ y < rs_len (rs i) then mI (rs_tx (rs i) y.toNat) else mI 0)) ∧ w' = w) := by
  obtain ⟨ko, hox, ⟨r0, r1, r2, r3, r4, r6, r8, r10, r11, r12, r13, r14⟩, ⟨k1, k3, k4, kB, k12, k13, k14⟩, kS, kF, kQ, k26, kH⟩ := id hm
  obtain ⟨hn16, hnr, hrs⟩ := id hr
  refine mu_ofWA G M_X11_ruleByte [.ref o, .int (mI (i : Nat)), .int (mI y), mu_no] (by decide) rfl (Nat.le_of_ble_eq_true rfl) ?_
  intro X E
  have B : mu_B X G cX11_ruleByte RX11 4 (mu_rm M_X11_ruleByte) := E.1
  show mu_WA X G 4 _ _ 0 0 0 _ []
  refine mu_al_0 B dX11_ruleByte_0 ?_
  refine mu_il_1 B dX11_ruleByte_1 ?_
  refine mu_eV1 B dX11_ruleByte_2 mX11_117 ⟨⟨by decide, by decide⟩, by decide, by decide⟩ (Nat.le_of_ble_eq_true rfl) (by exact ko) (c_X11_ruleAt_y G hm hr hi) ?_
  refine mu_as_3 B dX11_ruleByte_5 (by decide) rfl ?_
  refine mu_al_3 B dX11_ruleByte_6 ?_
  refine mu_ifnonnull (tgt := 14) B dX11_ruleByte_7 (by decide) ?_
  refine mu_al_3 B dX11_ruleByte_14 ?_
  refine mu_il_2 B dX11_ruleByte_15 ?_
  refine mu_eV1 B dX11_ruleByte_16 mX11_121 ⟨⟨by decide, by decide⟩, by decide, by decide⟩ (Nat.le_of_ble_eq_true rfl) (by exact (hrs i hi).2.2.2.1) (c_X4_byteAt G (hrs i hi).2.2.2 hy) ?_
  refine mu_iret E rfl (by decide) (by decide) dX11_ruleByte_19 ?_
  exact ⟨rfl, rfl⟩

set_option maxHeartbeats 4000000 in
set_option maxRecDepth 100000 in
theorem c_X11_reversible_n (G : mu_G) {w : mu_W} {o : Nat} (hm : CMo w o) {nr : Nat} {rs : Nat → mu_RS} {ra : Nat → Nat} (hr : CRs w o nr rs ra) {z : Int} (hz : mi_ok z) (hn : ¬ (0 ≤ z ∧ z < nr)) : mu_Ct G M_X11_reversible [.ref o, .int (mI z)] w (fun r w' => r = some (.int (mI (-1))) ∧ w' = w) := by
  obtain ⟨ko, hox, ⟨r0, r1, r2, r3, r4, r6, r8, r10, r11, r12, r13, r14⟩, ⟨k1, k3, k4, kB, k12, k13, k14⟩, kS, kF, kQ, k26, kH⟩ := id hm
  obtain ⟨hn16, hnr, hrs⟩ := id hr
  refine mu_ofWA G M_X11_reversible [.ref o, .int (mI z), mu_no] (by decide) rfl (Nat.le_of_ble_eq_true rfl) ?_
  intro X E
  have B : mu_B X G cX11_reversible RX11 3 (mu_rm M_X11_reversible) := E.1
  show mu_WA X G 3 _ _ 0 0 0 _ []
  refine mu_al_0 B dX11_reversible_0 ?_
  refine mu_il_1 B dX11_reversible_1 ?_
  refine mu_eV1 B dX11_reversible_2 mX11_117 ⟨⟨by decide, by decide⟩, by decide, by decide⟩ (Nat.le_of_ble_eq_true rfl) (by exact ko) (c_X11_ruleAt_n G hm hr hz hn) ?_
  refine mu_ns_2 B dX11_reversible_5 (by decide) rfl ?_
  refine mu_nl_2 B dX11_reversible_6 ?_
  refine mu_ifnonnullN B dX11_reversible_7 ?_
  refine mu_iconst (v := mI (-1)) B dX11_reversible_10 rfl ?_
  refine mu_iret E rfl (by decide) (by decide) dX11_reversible_11 ?_
  exact ⟨rfl, rfl⟩

set_option maxHeartbeats 4000000 in
set_option maxRecDepth 100000 in
theorem c_X11_reversible_y (G : mu_G) {w : mu_W} {o : Nat} (hm : CMo w o) {nr : Nat} {rs : Nat → mu_RS} {ra : Nat → Nat} (hr : CRs w o nr rs ra) {i : Nat} (hi : i < nr) : mu_Ct G M_X11_reversible [.ref o, .int (mI (i : Nat))] w (fun r w' => r = some (.int (if ¬ rs_nb (rs i) = 0 then mI (-2) else rv_v (rs i))) ∧ w' = w) := by
  obtain ⟨ko, hox, ⟨r0, r1, r2, r3, r4, r6, r8, r10, r11, r12, r13, r14⟩, ⟨k1, k3, k4, kB, k12, k13, k14⟩, kS, kF, kQ, k26, kH⟩ := id hm
  obtain ⟨hn16, hnr, hrs⟩ := id hr
  refine mu_ofWA G M_X11_reversible [.ref o, .int (mI (i : Nat)), mu_no] (by decide) rfl (Nat.le_of_ble_eq_true rfl) ?_
  intro X E
  have B : mu_B X G cX11_reversible RX11 3 (mu_rm M_X11_reversible) := E.1
  show mu_WA X G 3 _ _ 0 0 0 _ []
  refine mu_al_0 B dX11_reversible_0 ?_
  refine mu_il_1 B dX11_reversible_1 ?_
  refine mu_eV1 B dX11_reversible_2 mX11_117 ⟨⟨by decide, by decide⟩, by decide, by decide⟩ (Nat.le_of_ble_eq_true rfl) (by exact ko) (c_X11_ruleAt_y G hm hr hi) ?_
  refine mu_as_2 B dX11_reversible_5 (by decide) rfl ?_
  refine mu_al_2 B dX11_reversible_6 ?_
  refine mu_ifnonnull (tgt := 12) B dX11_reversible_7 (by decide) ?_
  refine mu_al_2 B dX11_reversible_12 ?_
  refine mu_eV0 B dX11_reversible_13 mX11_273 ⟨⟨by decide, by decide⟩, by decide, by decide⟩ (Nat.le_of_ble_eq_true rfl) (by exact (hrs i hi).2.2.2.1) (c_X4_hasBlocks G (hrs i hi).2.2.2) ?_
  refine mu_if_ne (tgt := 22) B dX11_reversible_16 (by decide) (fun c16 => ?_) (fun c16 => ?_)
  · have z16 := mu_bt c16
    refine mu_al_2 B dX11_reversible_22 ?_
    refine mu_eV0 B dX11_reversible_23 mX11_307 ⟨⟨by decide, by decide⟩, by decide, by decide⟩ (Nat.le_of_ble_eq_true rfl) (by exact (hrs i hi).2.2.2.1) (c_X4_isReversible G (hrs i hi).2.2.2) ?_
    refine mu_if_eq (tgt := 33) B dX11_reversible_26 (by decide) (fun c26 => ?_) (fun c26 => ?_)
    · refine mu_iconst (v := mI 0) B dX11_reversible_33 rfl ?_
      refine mu_iret E rfl (by decide) (by decide) dX11_reversible_34 ?_
      first
        | exact ⟨by rw [if_neg (fun h => h z16), rv_1 (rv_t c26)], rfl⟩
        | exact ⟨by rw [if_neg (fun h => h z16), rv_0 (rv_f c26)], rfl⟩
    · refine mu_iconst (v := mI 1) B dX11_reversible_29 rfl ?_
      refine mu_goto (tgt := 34) B dX11_reversible_30 (by decide) ?_
      refine mu_iret E rfl (by decide) (by decide) dX11_reversible_34 ?_
      first
        | exact ⟨by rw [if_neg (fun h => h z16), rv_1 (rv_t c26)], rfl⟩
        | exact ⟨by rw [if_neg (fun h => h z16), rv_0 (rv_f c26)], rfl⟩
  · have z16 := mu_bf c16
    refine mu_bipush (v := mI (-2)) B dX11_reversible_19 (by decide) ?_
    refine mu_iret E rfl (by decide) (by decide) dX11_reversible_21 ?_
    exact ⟨by rw [if_pos z16], rfl⟩

set_option maxHeartbeats 4000000 in
set_option maxRecDepth 100000 in
theorem c_X11_weights_n (G : mu_G) {w : mu_W} {o : Nat} (hm : CMo w o) {nr : Nat} {rs : Nat → mu_RS} {ra : Nat → Nat} (hr : CRs w o nr rs ra) {z : Int} (hz : mi_ok z) (hn : ¬ (0 ≤ z ∧ z < nr)) : mu_Ct G M_X11_weights [.ref o, .int (mI z)] w (fun r w' => r = some (.int (mI (-1))) ∧ w' = w) := by
  obtain ⟨ko, hox, ⟨r0, r1, r2, r3, r4, r6, r8, r10, r11, r12, r13, r14⟩, ⟨k1, k3, k4, kB, k12, k13, k14⟩, kS, kF, kQ, k26, kH⟩ := id hm
  obtain ⟨hn16, hnr, hrs⟩ := id hr
  refine mu_ofWA G M_X11_weights [.ref o, .int (mI z), mu_no] (by decide) rfl (Nat.le_of_ble_eq_true rfl) ?_
  intro X E
  have B : mu_B X G cX11_weights RX11 3 (mu_rm M_X11_weights) := E.1
  show mu_WA X G 3 _ _ 0 0 0 _ []
  refine mu_al_0 B dX11_weights_0 ?_
  refine mu_il_1 B dX11_weights_1 ?_
  refine mu_eV1 B dX11_weights_2 mX11_117 ⟨⟨by decide, by decide⟩, by decide, by decide⟩ (Nat.le_of_ble_eq_true rfl) (by exact ko) (c_X11_ruleAt_n G hm hr hz hn) ?_
  refine mu_ns_2 B dX11_weights_5 (by decide) rfl ?_
  refine mu_nl_2 B dX11_weights_6 ?_
  refine mu_ifnonnullN B dX11_weights_7 ?_
  refine mu_iconst (v := mI (-1)) B dX11_weights_10 rfl ?_
  refine mu_iret E rfl (by decide) (by decide) dX11_weights_11 ?_
  exact ⟨rfl, rfl⟩

set_option maxHeartbeats 4000000 in
set_option maxRecDepth 100000 in
theorem c_X11_weights_y (G : mu_G) {w : mu_W} {o : Nat} (hm : CMo w o) {nr : Nat} {rs : Nat → mu_RS} {ra : Nat → Nat} (hr : CRs w o nr rs ra) {i : Nat} (hi : i < nr) : mu_Ct G M_X11_weights [.ref o, .int (mI (i : Nat))] w (fun r w' => ((¬ rs_nb (rs i) = 0 → r = some (.int (mI (-2)))) ∧ (rs_nb (rs i) = 0 → ∃ D, WTn (rs i) D ∧ r = some (.int (mI (D : Nat))))) ∧ w' = w) := by
  obtain ⟨ko, hox, ⟨r0, r1, r2, r3, r4, r6, r8, r10, r11, r12, r13, r14⟩, ⟨k1, k3, k4, kB, k12, k13, k14⟩, kS, kF, kQ, k26, kH⟩ := id hm
  obtain ⟨hn16, hnr, hrs⟩ := id hr
  obtain ⟨D, v10, hD, hWn, hWv⟩ := (hrs i hi).2.2.2.2.2.2.2.2.2.2.2.2.2.2.2.2
  refine mu_ofWA G M_X11_weights [.ref o, .int (mI (i : Nat)), mu_no] (by decide) rfl (Nat.le_of_ble_eq_true rfl) ?_
  intro X E
  have B : mu_B X G cX11_weights RX11 3 (mu_rm M_X11_weights) := E.1
  show mu_WA X G 3 _ _ 0 0 0 _ []
  refine mu_al_0 B dX11_weights_0 ?_
  refine mu_il_1 B dX11_weights_1 ?_
  refine mu_eV1 B dX11_weights_2 mX11_117 ⟨⟨by decide, by decide⟩, by decide, by decide⟩ (Nat.le_of_ble_eq_true rfl) (by exact ko) (c_X11_ruleAt_y G hm hr hi) ?_
  refine mu_as_2 B dX11_weights_5 (by decide) rfl ?_
  refine mu_al_2 B dX11_weights_6 ?_
  refine mu_ifnonnull (tgt := 12) B dX11_weights_7 (by decide) ?_
  refine mu_al_2 B dX11_weights_12 ?_
  refine mu_eV0 B dX11_weights_13 mX11_273 ⟨⟨by decide, by decide⟩, by decide, by decide⟩ (Nat.le_of_ble_eq_true rfl) (by exact (hrs i hi).2.2.2.1) (c_X4_hasBlocks G (hrs i hi).2.2.2) ?_
  refine mu_if_eq (tgt := 26) B dX11_weights_16 (by decide) (fun c16 => ?_) (fun c16 => ?_)
  · have z16 := mu_bf c16
    refine mu_bipush (v := mI (-2)) B dX11_weights_26 (by decide) ?_
    refine mu_iret E rfl (by decide) (by decide) dX11_weights_28 ?_
    first
      | exact ⟨⟨fun h => absurd z16 h, fun h => ⟨D, hWn h, rfl⟩⟩, rfl⟩
      | exact ⟨⟨fun h => rfl, fun h => absurd h z16⟩, rfl⟩
  · have z16 := mu_bt c16
    refine mu_al_2 B dX11_weights_19 ?_
    refine mu_getIN B dX11_weights_20 fX11_316 rfl (by exact (hrs i hi).2.2.2.1) ?_
    rw [v10]
    refine mu_goto (tgt := 28) B dX11_weights_23 (by decide) ?_
    refine mu_iret E rfl (by decide) (by decide) dX11_weights_28 ?_
    first
      | exact ⟨⟨fun h => absurd z16 h, fun h => ⟨D, hWn h, rfl⟩⟩, rfl⟩
      | exact ⟨⟨fun h => rfl, fun h => absurd h z16⟩, rfl⟩

set_option maxHeartbeats 4000000 in
set_option maxRecDepth 100000 in
theorem c_X11_weight_n (G : mu_G) {w : mu_W} {o : Nat} (hm : CMo w o) {nr : Nat} {rs : Nat → mu_RS} {ra : Nat → Nat} (hr : CRs w o nr rs ra) {z : Int} (hz : mi_ok z) (hn : ¬ (0 ≤ z ∧ z < nr)) {y v : Int32} : mu_Ct G M_X11_weight [.ref o, .int (mI z), .int y, .int v] w (fun r w' => r = some (.int (mI 0)) ∧ w' = w) := by
  obtain ⟨ko, hox, ⟨r0, r1, r2, r3, r4, r6, r8, r10, r11, r12, r13, r14⟩, ⟨k1, k3, k4, kB, k12, k13, k14⟩, kS, kF, kQ, k26, kH⟩ := id hm
  obtain ⟨hn16, hnr, hrs⟩ := id hr
  refine mu_ofWA G M_X11_weight [.ref o, .int (mI z), .int y, .int v, mu_no] (by decide) rfl (Nat.le_of_ble_eq_true rfl) ?_
  intro X E
  have B : mu_B X G cX11_weight RX11 5 (mu_rm M_X11_weight) := E.1
  show mu_WA X G 5 _ _ 0 0 0 _ []
  refine mu_al_0 B dX11_weight_0 ?_
  refine mu_il_1 B dX11_weight_1 ?_
  refine mu_eV1 B dX11_weight_2 mX11_117 ⟨⟨by decide, by decide⟩, by decide, by decide⟩ (Nat.le_of_ble_eq_true rfl) (by exact ko) (c_X11_ruleAt_n G hm hr hz hn) ?_
  refine mu_ns_4 B dX11_weight_5 (by decide) rfl ?_
  refine mu_nl_4 B dX11_weight_7 ?_
  refine mu_ifnonnullN B dX11_weight_9 ?_
  refine mu_iconst (v := mI 0) B dX11_weight_12 rfl ?_
  refine mu_goto (tgt := 23) B dX11_weight_13 (by decide) ?_
  refine mu_iret E rfl (by decide) (by decide) dX11_weight_23 ?_
  exact ⟨rfl, rfl⟩

set_option maxHeartbeats 4000000 in
set_option maxRecDepth 100000 in
theorem c_X11_weight_y (G : mu_G) {w : mu_W} {o : Nat} (hm : CMo w o) {nr : Nat} {rs : Nat → mu_RS} {ra : Nat → Nat} (hr : CRs w o nr rs ra) {i : Nat} (hi : i < nr) {y v : Int} (hy : mi_ok y) (hv : mi_ok v) : mu_Ct G M_X11_weight [.ref o, .int (mI (i : Nat)), .int (mI y), .int (mI v)] w (fun r w' => (∃ x, r = some (.int x) ∧ wo_v (rs i) y v x) ∧ w' = w) := by
  obtain ⟨ko, hox, ⟨r0, r1, r2, r3, r4, r6, r8, r10, r11, r12, r13, r14⟩, ⟨k1, k3, k4, kB, k12, k13, k14⟩, kS, kF, kQ, k26, kH⟩ := id hm
  obtain ⟨hn16, hnr, hrs⟩ := id hr
  refine mu_ofWA G M_X11_weight [.ref o, .int (mI (i : Nat)), .int (mI y), .int (mI v), mu_no] (by decide) rfl (Nat.le_of_ble_eq_true rfl) ?_
  intro X E
  have B : mu_B X G cX11_weight RX11 5 (mu_rm M_X11_weight) := E.1
  show mu_WA X G 5 _ _ 0 0 0 _ []
  refine mu_al_0 B dX11_weight_0 ?_
  refine mu_il_1 B dX11_weight_1 ?_
  refine mu_eV1 B dX11_weight_2 mX11_117 ⟨⟨by decide, by decide⟩, by decide, by decide⟩ (Nat.le_of_ble_eq_true rfl) (by exact ko) (c_X11_ruleAt_y G hm hr hi) ?_
  refine mu_as_4 B dX11_weight_5 (by decide) rfl ?_
  refine mu_al_4 B dX11_weight_7 ?_
  refine mu_ifnonnull (tgt := 16) B dX11_weight_9 (by decide) ?_
  refine mu_al_4 B dX11_weight_16 ?_
  refine mu_il_2 B dX11_weight_18 ?_
  refine mu_il_3 B dX11_weight_19 ?_
  refine mu_cV2 B dX11_weight_20 mX11_319 ⟨⟨by decide, by decide⟩, by decide, by decide⟩ (Nat.le_of_ble_eq_true rfl) (by exact (hrs i hi).2.2.2.1) (c_X4_weightOf G (hrs i hi).2.2.2 hy hv) (fun r20 w20 q20 => ?_)
  obtain ⟨⟨x, rfl, hx⟩, rfl⟩ := q20
  show mu_WA X G 5 _ _ _ _ 23 _ [.int x]
  refine mu_iret E rfl (by decide) (by decide) dX11_weight_23 ?_
  exact ⟨⟨x, rfl, hx⟩, rfl⟩

set_option maxHeartbeats 4000000 in
set_option maxRecDepth 100000 in
theorem c_X11_shift (G : mu_G) {w : mu_W} {o : Nat} (hm : CMo w o) {z : Int} (hz : mi_ok z) : mu_Ct G M_X11_shift [.ref o, .int (mI z)] w (fun r w' => r = some (.int (if z = 0 then mu_iv w o 16 else if z = 1 then mu_iv w o 17 else mI (-1))) ∧ w' = w) := by
  obtain ⟨ko, hox, ⟨r0, r1, r2, r3, r4, r6, r8, r10, r11, r12, r13, r14⟩, ⟨k1, k3, k4, kB, k12, k13, k14⟩, kS, kF, kQ, k26, kH⟩ := id hm
  obtain ⟨hz1, hz2⟩ := hz
  refine mu_ofWA G M_X11_shift [.ref o, .int (mI z)] (by decide) rfl (Nat.le_of_ble_eq_true rfl) ?_
  intro X E
  have B : mu_B X G cX11_shift RX11 2 (mu_rm M_X11_shift) := E.1
  show mu_WA X G 2 _ _ 0 0 0 _ []
  refine mu_il_1 B dX11_shift_0 ?_
  refine mu_if_ne (tgt := 9) B dX11_shift_1 (by decide) (fun c1 => ?_) (fun c1 => ?_)
  · try rw [mI_eq0 ⟨by omega, by omega⟩] at c1
    refine mu_il_1 B dX11_shift_9 ?_
    refine mu_iconst (v := mI 1) B dX11_shift_10 rfl ?_
    refine mu_icmp_ne (tgt := 21) B dX11_shift_11 (by decide) (fun c11 => ?_) (fun c11 => ?_)
    · try rw [mI_eq ⟨by omega, by omega⟩ ⟨by omega, by omega⟩] at c11
      refine mu_iconst (v := mI (-1)) B dX11_shift_21 rfl ?_
      refine mu_iret E rfl (by decide) (by decide) dX11_shift_22 ?_
      first
        | exact ⟨by rw [if_neg (by omega), if_pos (by omega)], rfl⟩
        | exact ⟨by rw [if_neg (by omega), if_neg (by omega)], rfl⟩
    · try rw [mI_eq ⟨by omega, by omega⟩ ⟨by omega, by omega⟩] at c11
      refine mu_al_0 B dX11_shift_14 ?_
      refine mu_getI B dX11_shift_15 fX11_223 rfl (by exact ko) ?_
      refine mu_goto (tgt := 22) B dX11_shift_18 (by decide) ?_
      refine mu_iret E rfl (by decide) (by decide) dX11_shift_22 ?_
      first
        | exact ⟨by rw [if_neg (by omega), if_pos (by omega)], rfl⟩
        | exact ⟨by rw [if_neg (by omega), if_neg (by omega)], rfl⟩
  · try rw [mI_eq0 ⟨by omega, by omega⟩] at c1
    refine mu_al_0 B dX11_shift_4 ?_
    refine mu_getI B dX11_shift_5 fX11_220 rfl (by exact ko) ?_
    refine mu_iret E rfl (by decide) (by decide) dX11_shift_8 ?_
    exact ⟨by rw [if_pos (by omega)], rfl⟩

set_option maxHeartbeats 4000000 in
set_option maxRecDepth 100000 in
theorem c_X11_isEvenSide (G : mu_G) {w : mu_W} {z : Int} (hz : mi_ok z) : mu_Ct G M_X11_isEvenSide [.int (mI z)] w (fun r w' => r = some (.int (if 2 ≤ z ∧ z ≤ 16 ∧ z % 2 = 0 then mI 1 else mI 0)) ∧ w' = w) := by
  obtain ⟨hz1, hz2⟩ := hz
  refine mu_ofWA G M_X11_isEvenSide [.int (mI z)] (by decide) rfl (Nat.le_of_ble_eq_true rfl) ?_
  intro X E
  have B : mu_B X G cX11_isEvenSide RX11 1 (mu_rm M_X11_isEvenSide) := E.1
  show mu_WA X G 1 _ _ 0 0 0 _ []
  refine mu_il_0 B dX11_isEvenSide_0 ?_
  refine mu_iconst (v := mI 2) B dX11_isEvenSide_1 rfl ?_
  refine mu_icmp_lt (tgt := 21) B dX11_isEvenSide_2 (by decide) (fun c2 => ?_) (fun c2 => ?_)
  · try rw [mI_lt ⟨by omega, by omega⟩ ⟨by omega, by omega⟩] at c2
    refine mu_iconst (v := mI 0) B dX11_isEvenSide_21 rfl ?_
    refine mu_zret E rfl (by decide) (by decide) dX11_isEvenSide_22 (by decide) ?_
    first
      | exact ⟨by rw [if_pos (by omega)], rfl⟩
      | exact ⟨by rw [if_neg (by omega)], rfl⟩
  · try rw [mI_lt ⟨by omega, by omega⟩ ⟨by omega, by omega⟩] at c2
    refine mu_il_0 B dX11_isEvenSide_5 ?_
    refine mu_bipush (v := mI 16) B dX11_isEvenSide_6 (by decide) ?_
    refine mu_icmp_gt (tgt := 21) B dX11_isEvenSide_8 (by decide) (fun c8 => ?_) (fun c8 => ?_)
    · try rw [mI_lt ⟨by omega, by omega⟩ ⟨by omega, by omega⟩] at c8
      refine mu_iconst (v := mI 0) B dX11_isEvenSide_21 rfl ?_
      refine mu_zret E rfl (by decide) (by decide) dX11_isEvenSide_22 (by decide) ?_
      first
        | exact ⟨by rw [if_pos (by omega)], rfl⟩
        | exact ⟨by rw [if_neg (by omega)], rfl⟩
    · try rw [mI_lt ⟨by omega, by omega⟩ ⟨by omega, by omega⟩] at c8
      refine mu_il_0 B dX11_isEvenSide_11 ?_
      refine mu_iconst (v := mI 2) B dX11_isEvenSide_12 rfl ?_
      refine mu_irem B dX11_isEvenSide_13 ?_ ?_
      · exact mu_ne (by omega) (by omega)
      rw [mI_rem (by omega) (by omega) (by omega) (by omega)]
      refine mu_if_ne (tgt := 21) B dX11_isEvenSide_14 (by decide) (fun c14 => ?_) (fun c14 => ?_)
      · try rw [mI_eq0 ⟨by omega, by omega⟩] at c14
        refine mu_iconst (v := mI 0) B dX11_isEvenSide_21 rfl ?_
        refine mu_zret E rfl (by decide) (by decide) dX11_isEvenSide_22 (by decide) ?_
        first
          | exact ⟨by rw [if_pos (by omega)], rfl⟩
          | exact ⟨by rw [if_neg (by omega)], rfl⟩
      · try rw [mI_eq0 ⟨by omega, by omega⟩] at c14
        refine mu_iconst (v := mI 1) B dX11_isEvenSide_17 rfl ?_
        refine mu_goto (tgt := 22) B dX11_isEvenSide_18 (by decide) ?_
        refine mu_zret E rfl (by decide) (by decide) dX11_isEvenSide_22 (by decide) ?_
        first
          | exact ⟨by rw [if_pos (by omega)], rfl⟩
          | exact ⟨by rw [if_neg (by omega)], rfl⟩

set_option maxHeartbeats 4000000 in
set_option maxRecDepth 100000 in
theorem c_X11_placeOf (G : mu_G) {w : mu_W} {a : Nat} (hk : mu_kd w a = some (1, 0)) {M : Nat} (hM : mu_iv w a 5 = mI M) (hMb : M ≤ 1000000) {x : Int} : mu_Ct G M_X11_placeOf [.ref a, .int (mI x)] w (fun r w' => r = some (.int (if M = 0 then mI 0 else mI (x + -128))) ∧ w' = w) := by
  refine mu_ofWA G M_X11_placeOf [.ref a, .int (mI x)] (by decide) rfl (Nat.le_of_ble_eq_true rfl) ?_
  intro X E
  have B : mu_B X G cX11_placeOf RX11 2 (mu_rm M_X11_placeOf) := E.1
  show mu_WA X G 2 _ _ 0 0 0 _ []
  refine mu_al_0 B dX11_placeOf_0 ?_
  refine mu_getIN B dX11_placeOf_1 fX11_185 rfl (by exact hk) ?_
  rw [hM]
  refine mu_if_ne (tgt := 11) B dX11_placeOf_4 (by decide) (fun c4 => ?_) (fun c4 => ?_)
  · try rw [mI_eq0 ⟨by omega, by omega⟩] at c4
    refine mu_il_1 B dX11_placeOf_11 ?_
    refine mu_bipush (v := mI (-128)) B dX11_placeOf_12 (by decide) ?_
    refine mu_iadd B dX11_placeOf_14 ?_
    try rw [mI_add]
    refine mu_iret E rfl (by decide) (by decide) dX11_placeOf_15 ?_
    first
      | exact ⟨by rw [if_pos (by omega)], rfl⟩
      | exact ⟨by rw [if_neg (by omega)], rfl⟩
  · try rw [mI_eq0 ⟨by omega, by omega⟩] at c4
    refine mu_iconst (v := mI 0) B dX11_placeOf_7 rfl ?_
    refine mu_goto (tgt := 15) B dX11_placeOf_8 (by decide) ?_
    refine mu_iret E rfl (by decide) (by decide) dX11_placeOf_15 ?_
    first
      | exact ⟨by rw [if_pos (by omega)], rfl⟩
      | exact ⟨by rw [if_neg (by omega)], rfl⟩

set_option maxHeartbeats 4000000 in
set_option maxRecDepth 100000 in
theorem c_X11_whyNoSearch (G : mu_G) {w : mu_W} {a : Nat} {r0 : mu_RS} (hr : CRu w a r0) : mu_Ct G M_X11_whyNoSearch [.ref a] w (fun r w' => r = some (.int (if rs_nb r0 ≠ 0 ∧ rs_bo r0 % 2 = 0 then mI (-3) else mI (-2))) ∧ w' = w) := by
  refine mu_ofWA G M_X11_whyNoSearch [.ref a] (by decide) rfl (Nat.le_of_ble_eq_true rfl) ?_
  intro X E
  have B : mu_B X G cX11_whyNoSearch RX11 1 (mu_rm M_X11_whyNoSearch) := E.1
  show mu_WA X G 1 _ _ 0 0 0 _ []
  refine mu_al_0 B dX11_whyNoSearch_0 ?_
  refine mu_eV0 B dX11_whyNoSearch_1 mX11_131 ⟨⟨by decide, by decide⟩, by decide, by decide⟩ (Nat.le_of_ble_eq_true rfl) (by exact hr.1) (c_X4_keepsVoid G hr) ?_
  refine mu_if_eq (tgt := 12) B dX11_whyNoSearch_4 (by decide) (fun c4 => ?_) (fun c4 => ?_)
  · have z4 := mu_bf c4
    refine mu_bipush (v := mI (-2)) B dX11_whyNoSearch_12 (by decide) ?_
    refine mu_iret E rfl (by decide) (by decide) dX11_whyNoSearch_14 ?_
    first
      | exact ⟨by rw [if_pos z4], rfl⟩
      | exact ⟨by rw [if_neg z4], rfl⟩
  · have z4 := mu_bt c4
    refine mu_bipush (v := mI (-3)) B dX11_whyNoSearch_7 (by decide) ?_
    refine mu_goto (tgt := 14) B dX11_whyNoSearch_9 (by decide) ?_
    refine mu_iret E rfl (by decide) (by decide) dX11_whyNoSearch_14 ?_
    first
      | exact ⟨by rw [if_pos z4], rfl⟩
      | exact ⟨by rw [if_neg z4], rfl⟩

set_option maxHeartbeats 4000000 in
set_option maxRecDepth 100000 in
theorem c_X11_maySearch (G : mu_G) {w : mu_W} {o : Nat} (hm : CMo w o) {a : Nat} {r0 : mu_RS} (hr : CRu w a r0) {sr : Nat} (hs : mu_iv w o 15 = mI sr) (hsb : sr ≤ 30) : mu_Ct G M_X11_maySearch [.ref o, .ref a] w (fun r w' => r = some (.int (if (rs_nb r0 ≠ 0 ∧ rs_bo r0 % 2 = 0) ∧ sr < 30 then mI 1 else mI 0)) ∧ w' = w) := by
  obtain ⟨ko, hox, ⟨r0, r1, r2, r3, r4, r6, r8, r10, r11, r12, r13, r14⟩, ⟨k1, k3, k4, kB, k12, k13, k14⟩, kS, kF, kQ, k26, kH⟩ := id hm
  refine mu_ofWA G M_X11_maySearch [.ref o, .ref a] (by decide) rfl (Nat.le_of_ble_eq_true rfl) ?_
  intro X E
  have B : mu_B X G cX11_maySearch RX11 2 (mu_rm M_X11_maySearch) := E.1
  show mu_WA X G 2 _ _ 0 0 0 _ []
  refine mu_al_1 B dX11_maySearch_0 ?_
  refine mu_eV0 B dX11_maySearch_1 mX11_131 ⟨⟨by decide, by decide⟩, by decide, by decide⟩ (Nat.le_of_ble_eq_true rfl) (by exact hr.1) (c_X4_keepsVoid G hr) ?_
  refine mu_if_eq (tgt := 20) B dX11_maySearch_4 (by decide) (fun c4 => ?_) (fun c4 => ?_)
  · have z4 := mu_bf c4
    refine mu_iconst (v := mI 0) B dX11_maySearch_20 rfl ?_
    refine mu_zret E rfl (by decide) (by decide) dX11_maySearch_21 (by decide) ?_
    first
      | exact ⟨by rw [if_neg (fun h => z4 h.1)], rfl⟩
      | exact ⟨by rw [if_neg (fun h => by have := h.2; omega)], rfl⟩
      | exact ⟨by rw [if_pos (And.intro z4 (by omega))], rfl⟩
  · have z4 := mu_bt c4
    refine mu_al_0 B dX11_maySearch_7 ?_
    refine mu_getI B dX11_maySearch_8 fX11_245 rfl (by exact ko) ?_
    rw [hs]
    refine mu_bipush (v := mI 30) B dX11_maySearch_11 (by decide) ?_
    refine mu_icmp_ge (tgt := 20) B dX11_maySearch_13 (by decide) (fun c13 => ?_) (fun c13 => ?_)
    · try rw [mI_le ⟨by omega, by omega⟩ ⟨by omega, by omega⟩] at c13
      refine mu_iconst (v := mI 0) B dX11_maySearch_20 rfl ?_
      refine mu_zret E rfl (by decide) (by decide) dX11_maySearch_21 (by decide) ?_
      first
        | exact ⟨by rw [if_neg (fun h => z4 h.1)], rfl⟩
        | exact ⟨by rw [if_neg (fun h => by have := h.2; omega)], rfl⟩
        | exact ⟨by rw [if_pos (And.intro z4 (by omega))], rfl⟩
    · try rw [mI_le ⟨by omega, by omega⟩ ⟨by omega, by omega⟩] at c13
      refine mu_iconst (v := mI 1) B dX11_maySearch_16 rfl ?_
      refine mu_goto (tgt := 21) B dX11_maySearch_17 (by decide) ?_
      refine mu_zret E rfl (by decide) (by decide) dX11_maySearch_21 (by decide) ?_
      first
        | exact ⟨by rw [if_neg (fun h => z4 h.1)], rfl⟩
        | exact ⟨by rw [if_neg (fun h => by have := h.2; omega)], rfl⟩
        | exact ⟨by rw [if_pos (And.intro z4 (by omega))], rfl⟩
