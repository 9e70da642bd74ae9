/-! ===== the class: steps, jump, period, congruent, about ===== -/
theorem CRu.uq {w : mu_W} {a : Nat} {r : mu_RS} (h : CRu w a r) (hnb : rs_nb r ≠ 0) (hbo : rs_bo r % 2 = 0) : RUq w a r := by
  obtain ⟨ka, r0_, ktx, r5, kbe, r6, kor, r9, kba, ⟨hok, v1, v2, v3, v4, hcs⟩, _⟩ := h
  rcases hok.2.2 with ⟨y1, _⟩ | ⟨y1, y2, y3⟩
  · exact absurd y1 hnb
  · have h9 : 2 ^ (rs_nb r + 1) ≤ 512 := by rcases y1 with e | e | e <;> rw [e] <;> decide
    exact ⟨⟨ka, v1, v2, v3⟩, y1, hbo, by omega, by omega⟩
theorem CFs1.fld {w : mu_W} {a rr : Nat} {f : mu_FS} (h : CFs1 w a rr f) (ho : CFo w a) : FLD w a (fs_c f) := ⟨ho, h.1, h.2.1⟩
def av_post (w : mu_W) (o a : Nat) (ru : mu_RS) (c : Nat → Nat → Nat) (n : Nat) (r : Option Value) (w' : mu_W) : Prop := (¬ sp_done c n → r = some (.int (mI (-2))) ∧ w' = w) ∧ (sp_done c n → r = some (.int (mu_iv w a 4 + mI n)) ∧ mu_Fr (avS a (o + 15)) w w' ∧ CSt w' (o + 15) ∧ FLD w' a (sp_its (rs_nb ru) (rs_bo ru) (rs_st ru) n c) ∧ mu_iv w' a 4 = mu_iv w a 4 + mI n)
theorem av_int {w : mu_W} {o a : Nat} {ru : mu_RS} {c : Nat → Nat → Nat} {n : Nat} {r : Option Value} {w' : mu_W} (h : av_post w o a ru c n r w') : ∃ v, r = some (.int v) := by
  by_cases q : sp_done c n
  · exact ⟨_, (h.2 q).1⟩
  · exact ⟨_, (h.1 q).1⟩

set_option maxHeartbeats 4000000 in
set_option maxRecDepth 100000 in
theorem c_X11_steps_n (G : mu_G) {w : mu_W} {o : Nat} (hm : CMo w o) {ra : Nat → Nat} {nf : Nat} {fs : Nat → mu_FS} {hf : Nat} {fa : Nat → Nat} (hF : CFs w o ra nf fs hf fa) {z : Int} (hz : mi_ok z) (hn : ¬ (0 ≤ z ∧ z < nf)) {y : Int32} : mu_Ct G M_X11_steps [.ref o, .int (mI z), .int y] w (fun r w' => r = some (.int (mI (-1))) ∧ w' = w) := by
  obtain ⟨ko, hox, ⟨r0, r1, r2, r3, r4, r6, r8, r10, r11, r12, r13, r14⟩, ⟨k1, k3, k4, kB, k12, k13, k14⟩, kS, kF, kQ, k26, kH⟩ := id hm
  obtain ⟨hn1, hn8, hnf, hfs, hfn, hfi, hf1⟩ := id hF
  refine mu_ofWA G M_X11_steps [.ref o, .int (mI z), .int y, mu_no] (by decide) rfl (Nat.le_of_ble_eq_true rfl) ?_
  intro X E
  have B : mu_B X G cX11_steps RX11 4 (mu_rm M_X11_steps) := E.1
  show mu_WA X G 4 _ _ 0 0 0 _ []
  refine mu_al_0 B dX11_steps_0 ?_
  refine mu_il_1 B dX11_steps_1 ?_
  refine mu_eV1 B dX11_steps_2 mX11_139 ⟨⟨by decide, by decide⟩, by decide, by decide⟩ (Nat.le_of_ble_eq_true rfl) (by exact ko) (c_X11_fieldAt_n G hm hF hz hn) ?_
  refine mu_ns_3 B dX11_steps_5 (by decide) rfl ?_
  refine mu_nl_3 B dX11_steps_6 ?_
  refine mu_ifnullN (tgt := 20) B dX11_steps_7 (by decide) ?_
  refine mu_iconst (v := mI (-1)) B dX11_steps_20 rfl ?_
  refine mu_iret E rfl (by decide) (by decide) dX11_steps_21 ?_
  exact ⟨rfl, rfl⟩

set_option maxHeartbeats 4000000 in
set_option maxRecDepth 100000 in
theorem c_X11_steps_b (G : mu_G) {w : mu_W} {o : Nat} (hm : CMo w o) {ra : Nat → Nat} {nf : Nat} {fs : Nat → mu_FS} {hf : Nat} {fa : Nat → Nat} (hF : CFs w o ra nf fs hf fa) {i : Nat} (hi : i < nf) {y : Int} (hy : mi_ok y) (hbad : ¬ (0 ≤ y ∧ y ≤ 64)) : mu_Ct G M_X11_steps [.ref o, .int (mI (i : Nat)), .int (mI y)] w (fun r w' => r = some (.int (mI (-1))) ∧ w' = w) := by
  obtain ⟨ko, hox, ⟨r0, r1, r2, r3, r4, r6, r8, r10, r11, r12, r13, r14⟩, ⟨k1, k3, k4, kB, k12, k13, k14⟩, kS, kF, kQ, k26, kH⟩ := id hm
  obtain ⟨hn1, hn8, hnf, hfs, hfn, hfi, hf1⟩ := id hF
  obtain ⟨hy1, hy2⟩ := hy
  refine mu_ofWA G M_X11_steps [.ref o, .int (mI (i : Nat)), .int (mI y), mu_no] (by decide) rfl (Nat.le_of_ble_eq_true rfl) ?_
  intro X E
  have B : mu_B X G cX11_steps RX11 4 (mu_rm M_X11_steps) := E.1
  show mu_WA X G 4 _ _ 0 0 0 _ []
  refine mu_al_0 B dX11_steps_0 ?_
  refine mu_il_1 B dX11_steps_1 ?_
  refine mu_eV1 B dX11_steps_2 mX11_139 ⟨⟨by decide, by decide⟩, by decide, by decide⟩ (Nat.le_of_ble_eq_true rfl) (by exact ko) (c_X11_fieldAt_y G hm hF hi) ?_
  refine mu_as_3 B dX11_steps_5 (by decide) rfl ?_
  refine mu_al_3 B dX11_steps_6 ?_
  refine mu_ifnull B dX11_steps_7 ?_
  refine mu_il_2 B dX11_steps_10 ?_
  refine mu_if_lt (tgt := 20) B dX11_steps_11 (by decide) (fun c11 => ?_) (fun c11 => ?_)
  · try rw [mI_lt0 ⟨by omega, by omega⟩] at c11
    refine mu_iconst (v := mI (-1)) B dX11_steps_20 rfl ?_
    refine mu_iret E rfl (by decide) (by decide) dX11_steps_21 ?_
    exact ⟨rfl, rfl⟩
  · try rw [mI_lt0 ⟨by omega, by omega⟩] at c11
    refine mu_il_2 B dX11_steps_14 ?_
    refine mu_bipush (v := mI 64) B dX11_steps_15 (by decide) ?_
    refine mu_icmp_le (tgt := 22) B dX11_steps_17 (by decide) (fun c17 => ?_) (fun c17 => ?_)
    · try rw [mI_le ⟨by omega, by omega⟩ ⟨by omega, by omega⟩] at c17
      exfalso
      omega
    · try rw [mI_le ⟨by omega, by omega⟩ ⟨by omega, by omega⟩] at c17
      refine mu_iconst (v := mI (-1)) B dX11_steps_20 rfl ?_
      refine mu_iret E rfl (by decide) (by decide) dX11_steps_21 ?_
      exact ⟨rfl, rfl⟩

set_option maxHeartbeats 4000000 in
set_option maxRecDepth 100000 in
theorem c_X11_steps_y (G : mu_G) {w : mu_W} {o : Nat} (hm : CMo w o) {ra : Nat → Nat} {nf : Nat} {fs : Nat → mu_FS} {hf : Nat} {fa : Nat → Nat} (hF : CFs w o ra nf fs hf fa) {i : Nat} (hi : i < nf) {rs : Nat → mu_RS} (hq : RUq w (ra (fs_r (fs i))) (rs (fs_r (fs i)))) (hro : o + 35 ≤ ra (fs_r (fs i))) {n : Nat} (hn9 : n ≤ 64) : mu_Ct G M_X11_steps [.ref o, .int (mI (i : Nat)), .int (mI (n : Nat))] w (av_post w o (fa i) (rs (fs_r (fs i))) (fs_c (fs i)) n) := by
  obtain ⟨ko, hox, ⟨r0, r1, r2, r3, r4, r6, r8, r10, r11, r12, r13, r14⟩, ⟨k1, k3, k4, kB, k12, k13, k14⟩, kS, kF, kQ, k26, kH⟩ := id hm
  obtain ⟨hn1, hn8, hnf, hfs, hfn, hfi, hf1⟩ := id hF
  have hlim : n ≤ 64 := by omega
  refine mu_ofWA G M_X11_steps [.ref o, .int (mI (i : Nat)), .int (mI (n : Nat)), mu_no] (by decide) rfl (Nat.le_of_ble_eq_true rfl) ?_
  intro X E
  have B : mu_B X G cX11_steps RX11 4 (mu_rm M_X11_steps) := E.1
  show mu_WA X G 4 _ _ 0 0 0 _ []
  refine mu_al_0 B dX11_steps_0 ?_
  refine mu_il_1 B dX11_steps_1 ?_
  refine mu_eV1 B dX11_steps_2 mX11_139 ⟨⟨by decide, by decide⟩, by decide, by decide⟩ (Nat.le_of_ble_eq_true rfl) (by exact ko) (c_X11_fieldAt_y G hm hF hi) ?_
  refine mu_as_3 B dX11_steps_5 (by decide) rfl ?_
  refine mu_al_3 B dX11_steps_6 ?_
  refine mu_ifnull B dX11_steps_7 ?_
  refine mu_il_2 B dX11_steps_10 ?_
  refine mu_if_lt (tgt := 20) B dX11_steps_11 (by decide) (fun c11 => ?_) (fun c11 => ?_)
  · try rw [mI_lt0 ⟨by omega, by omega⟩] at c11
    exfalso
    omega
  · try rw [mI_lt0 ⟨by omega, by omega⟩] at c11
    refine mu_il_2 B dX11_steps_14 ?_
    refine mu_bipush (v := mI 64) B dX11_steps_15 (by decide) ?_
    refine mu_icmp_le (tgt := 22) B dX11_steps_17 (by decide) (fun c17 => ?_) (fun c17 => ?_)
    · try rw [mI_le ⟨by omega, by omega⟩ ⟨by omega, by omega⟩] at c17
      refine mu_al_0 B dX11_steps_22 ?_
      refine mu_al_3 B dX11_steps_23 ?_
      refine mu_il_2 B dX11_steps_24 ?_
      refine mu_cV2 B dX11_steps_25 mX11_171 ⟨⟨by decide, by decide⟩, by decide, by decide⟩ (Nat.le_of_ble_eq_true rfl) (by exact ko) (c_X11_advance G hm (hfs i (by omega)).2.1 ((hf1 i hi).fld (hfs i (by omega)).2.2.2) (hf1 i hi).2.2.1 hq hro (n := n) hlim) (fun r25 w25 q25 => ?_)
      have q9 : av_post w o (fa i) (rs (fs_r (fs i))) (fs_c (fs i)) n r25 w25 := q25
      obtain ⟨v9, rfl⟩ := av_int q9
      show mu_WA X G 4 _ _ _ _ 28 _ [.int v9]
      refine mu_iret E rfl (by decide) (by decide) dX11_steps_28 ?_
      exact q9
    · try rw [mI_le ⟨by omega, by omega⟩ ⟨by omega, by omega⟩] at c17
      exfalso
      omega

set_option maxHeartbeats 4000000 in
set_option maxRecDepth 100000 in
theorem c_X11_jump_n (G : mu_G) {w : mu_W} {o : Nat} (hm : CMo w o) {ra : Nat → Nat} {nf : Nat} {fs : Nat → mu_FS} {hf : Nat} {fa : Nat → Nat} (hF : CFs w o ra nf fs hf fa) {z : Int} (hz : mi_ok z) (hn : ¬ (0 ≤ z ∧ z < nf)) {y : Int32} : mu_Ct G M_X11_jump [.ref o, .int (mI z), .int y] w (fun r w' => r = some (.int (mI (-1))) ∧ w' = w) := by
  obtain ⟨ko, hox, ⟨r0, r1, r2, r3, r4, r6, r8, r10, r11, r12, r13, r14⟩, ⟨k1, k3, k4, kB, k12, k13, k14⟩, kS, kF, kQ, k26, kH⟩ := id hm
  obtain ⟨hn1, hn8, hnf, hfs, hfn, hfi, hf1⟩ := id hF
  refine mu_ofWA G M_X11_jump [.ref o, .int (mI z), .int y, mu_no] (by decide) rfl (Nat.le_of_ble_eq_true rfl) ?_
  intro X E
  have B : mu_B X G cX11_jump RX11 4 (mu_rm M_X11_jump) := E.1
  show mu_WA X G 4 _ _ 0 0 0 _ []
  refine mu_al_0 B dX11_jump_0 ?_
  refine mu_il_1 B dX11_jump_1 ?_
  refine mu_eV1 B dX11_jump_2 mX11_139 ⟨⟨by decide, by decide⟩, by decide, by decide⟩ (Nat.le_of_ble_eq_true rfl) (by exact ko) (c_X11_fieldAt_n G hm hF hz hn) ?_
  refine mu_ns_3 B dX11_jump_5 (by decide) rfl ?_
  refine mu_nl_3 B dX11_jump_6 ?_
  refine mu_ifnullN (tgt := 20) B dX11_jump_7 (by decide) ?_
  refine mu_iconst (v := mI (-1)) B dX11_jump_20 rfl ?_
  refine mu_iret E rfl (by decide) (by decide) dX11_jump_21 ?_
  exact ⟨rfl, rfl⟩

set_option maxHeartbeats 4000000 in
set_option maxRecDepth 100000 in
theorem c_X11_jump_b (G : mu_G) {w : mu_W} {o : Nat} (hm : CMo w o) {ra : Nat → Nat} {nf : Nat} {fs : Nat → mu_FS} {hf : Nat} {fa : Nat → Nat} (hF : CFs w o ra nf fs hf fa) {i : Nat} (hi : i < nf) {y : Int} (hy : mi_ok y) (hbad : ¬ (0 ≤ y ∧ y ≤ 6)) : mu_Ct G M_X11_jump [.ref o, .int (mI (i : Nat)), .int (mI y)] w (fun r w' => r = some (.int (mI (-1))) ∧ w' = w) := by
  obtain ⟨ko, hox, ⟨r0, r1, r2, r3, r4, r6, r8, r10, r11, r12, r13, r14⟩, ⟨k1, k3, k4, kB, k12, k13, k14⟩, kS, kF, kQ, k26, kH⟩ := id hm
  obtain ⟨hn1, hn8, hnf, hfs, hfn, hfi, hf1⟩ := id hF
  obtain ⟨hy1, hy2⟩ := hy
  refine mu_ofWA G M_X11_jump [.ref o, .int (mI (i : Nat)), .int (mI y), mu_no] (by decide) rfl (Nat.le_of_ble_eq_true rfl) ?_
  intro X E
  have B : mu_B X G cX11_jump RX11 4 (mu_rm M_X11_jump) := E.1
  show mu_WA X G 4 _ _ 0 0 0 _ []
  refine mu_al_0 B dX11_jump_0 ?_
  refine mu_il_1 B dX11_jump_1 ?_
  refine mu_eV1 B dX11_jump_2 mX11_139 ⟨⟨by decide, by decide⟩, by decide, by decide⟩ (Nat.le_of_ble_eq_true rfl) (by exact ko) (c_X11_fieldAt_y G hm hF hi) ?_
  refine mu_as_3 B dX11_jump_5 (by decide) rfl ?_
  refine mu_al_3 B dX11_jump_6 ?_
  refine mu_ifnull B dX11_jump_7 ?_
  refine mu_il_2 B dX11_jump_10 ?_
  refine mu_if_lt (tgt := 20) B dX11_jump_11 (by decide) (fun c11 => ?_) (fun c11 => ?_)
  · try rw [mI_lt0 ⟨by omega, by omega⟩] at c11
    refine mu_iconst (v := mI (-1)) B dX11_jump_20 rfl ?_
    refine mu_iret E rfl (by decide) (by decide) dX11_jump_21 ?_
    exact ⟨rfl, rfl⟩
  · try rw [mI_lt0 ⟨by omega, by omega⟩] at c11
    refine mu_il_2 B dX11_jump_14 ?_
    refine mu_bipush (v := mI 6) B dX11_jump_15 (by decide) ?_
    refine mu_icmp_le (tgt := 22) B dX11_jump_17 (by decide) (fun c17 => ?_) (fun c17 => ?_)
    · try rw [mI_le ⟨by omega, by omega⟩ ⟨by omega, by omega⟩] at c17
      exfalso
      omega
    · try rw [mI_le ⟨by omega, by omega⟩ ⟨by omega, by omega⟩] at c17
      refine mu_iconst (v := mI (-1)) B dX11_jump_20 rfl ?_
      refine mu_iret E rfl (by decide) (by decide) dX11_jump_21 ?_
      exact ⟨rfl, rfl⟩

set_option maxHeartbeats 4000000 in
set_option maxRecDepth 100000 in
theorem c_X11_jump_y (G : mu_G) {w : mu_W} {o : Nat} (hm : CMo w o) {ra : Nat → Nat} {nf : Nat} {fs : Nat → mu_FS} {hf : Nat} {fa : Nat → Nat} (hF : CFs w o ra nf fs hf fa) {i : Nat} (hi : i < nf) {rs : Nat → mu_RS} (hq : RUq w (ra (fs_r (fs i))) (rs (fs_r (fs i)))) (hro : o + 35 ≤ ra (fs_r (fs i))) {n : Nat} (hn9 : n ≤ 6) : mu_Ct G M_X11_jump [.ref o, .int (mI (i : Nat)), .int (mI (n : Nat))] w (av_post w o (fa i) (rs (fs_r (fs i))) (fs_c (fs i)) (2 ^ n)) := by
  obtain ⟨ko, hox, ⟨r0, r1, r2, r3, r4, r6, r8, r10, r11, r12, r13, r14⟩, ⟨k1, k3, k4, kB, k12, k13, k14⟩, kS, kF, kQ, k26, kH⟩ := id hm
  obtain ⟨hn1, hn8, hnf, hfs, hfn, hfi, hf1⟩ := id hF
  have hlim : 2 ^ n ≤ 64 := Nat.pow_le_pow_right (n := 2) (by decide) hn9
  refine mu_ofWA G M_X11_jump [.ref o, .int (mI (i : Nat)), .int (mI (n : Nat)), mu_no] (by decide) rfl (Nat.le_of_ble_eq_true rfl) ?_
  intro X E
  have B : mu_B X G cX11_jump RX11 4 (mu_rm M_X11_jump) := E.1
  show mu_WA X G 4 _ _ 0 0 0 _ []
  refine mu_al_0 B dX11_jump_0 ?_
  refine mu_il_1 B dX11_jump_1 ?_
  refine mu_eV1 B dX11_jump_2 mX11_139 ⟨⟨by decide, by decide⟩, by decide, by decide⟩ (Nat.le_of_ble_eq_true rfl) (by exact ko) (c_X11_fieldAt_y G hm hF hi) ?_
  refine mu_as_3 B dX11_jump_5 (by decide) rfl ?_
  refine mu_al_3 B dX11_jump_6 ?_
  refine mu_ifnull B dX11_jump_7 ?_
  refine mu_il_2 B dX11_jump_10 ?_
  refine mu_if_lt (tgt := 20) B dX11_jump_11 (by decide) (fun c11 => ?_) (fun c11 => ?_)
  · try rw [mI_lt0 ⟨by omega, by omega⟩] at c11
    exfalso
    omega
  · try rw [mI_lt0 ⟨by omega, by omega⟩] at c11
    refine mu_il_2 B dX11_jump_14 ?_
    refine mu_bipush (v := mI 6) B dX11_jump_15 (by decide) ?_
    refine mu_icmp_le (tgt := 22) B dX11_jump_17 (by decide) (fun c17 => ?_) (fun c17 => ?_)
    · try rw [mI_le ⟨by omega, by omega⟩ ⟨by omega, by omega⟩] at c17
      refine mu_al_0 B dX11_jump_22 ?_
      refine mu_al_3 B dX11_jump_23 ?_
      refine mu_iconst (v := mI 1) B dX11_jump_24 rfl ?_
      refine mu_il_2 B dX11_jump_25 ?_
      refine mu_ishl B dX11_jump_26 ?_
      rw [mI_shl _ _ (by omega), show (1 : Int) * 2 ^ n = ((2 ^ n : Nat) : Int) by simp]
      refine mu_cV2 B dX11_jump_27 mX11_171 ⟨⟨by decide, by decide⟩, by decide, by decide⟩ (Nat.le_of_ble_eq_true rfl) (by exact ko) (c_X11_advance G hm (hfs i (by omega)).2.1 ((hf1 i hi).fld (hfs i (by omega)).2.2.2) (hf1 i hi).2.2.1 hq hro (n := (2 ^ n)) hlim) (fun r27 w27 q27 => ?_)
      have q9 : av_post w o (fa i) (rs (fs_r (fs i))) (fs_c (fs i)) (2 ^ n) r27 w27 := q27
      obtain ⟨v9, rfl⟩ := av_int q9
      show mu_WA X G 4 _ _ _ _ 30 _ [.int v9]
      refine mu_iret E rfl (by decide) (by decide) dX11_jump_30 ?_
      exact q9
    · try rw [mI_le ⟨by omega, by omega⟩ ⟨by omega, by omega⟩] at c17
      exfalso
      omega

set_option maxHeartbeats 4000000 in
set_option maxRecDepth 100000 in
theorem c_X11_about_n (G : mu_G) {w : mu_W} {o : Nat} (hm : CMo w o) {ra : Nat → Nat} {nf : Nat} {fs : Nat → mu_FS} {hf : Nat} {fa : Nat → Nat} (hF : CFs w o ra nf fs hf fa) {z : Int} (hz : mi_ok z) (hn : ¬ (0 ≤ z ∧ z < nf)) {y : Int32} : mu_Ct G M_X11_about [.ref o, .int (mI z), .int y] w (fun r w' => r = some (.int (mI (-1))) ∧ w' = w) := by
  obtain ⟨ko, hox, ⟨r0, r1, r2, r3, r4, r6, r8, r10, r11, r12, r13, r14⟩, ⟨k1, k3, k4, kB, k12, k13, k14⟩, kS, kF, kQ, k26, kH⟩ := id hm
  obtain ⟨hn1, hn8, hnf, hfs, hfn, hfi, hf1⟩ := id hF
  refine mu_ofWA G M_X11_about [.ref o, .int (mI z), .int y, mu_no] (by decide) rfl (Nat.le_of_ble_eq_true rfl) ?_
  intro X E
  have B : mu_B X G cX11_about RX11 4 (mu_rm M_X11_about) := E.1
  show mu_WA X G 4 _ _ 0 0 0 _ []
  refine mu_al_0 B dX11_about_0 ?_
  refine mu_il_1 B dX11_about_1 ?_
  refine mu_eV1 B dX11_about_2 mX11_139 ⟨⟨by decide, by decide⟩, by decide, by decide⟩ (Nat.le_of_ble_eq_true rfl) (by exact ko) (c_X11_fieldAt_n G hm hF hz hn) ?_
  refine mu_ns_3 B dX11_about_5 (by decide) rfl ?_
  refine mu_nl_3 B dX11_about_6 ?_
  refine mu_ifnonnullN B dX11_about_7 ?_
  refine mu_iconst (v := mI (-1)) B dX11_about_10 rfl ?_
  refine mu_iret E rfl (by decide) (by decide) dX11_about_11 ?_
  exact ⟨rfl, rfl⟩

set_option maxHeartbeats 4000000 in
set_option maxRecDepth 100000 in
theorem c_X11_about_y (G : mu_G) {w : mu_W} {o : Nat} (hm : CMo w o) {ra : Nat → Nat} {nf : Nat} {fs : Nat → mu_FS} {hf : Nat} {fa : Nat → Nat} (hF : CFs w o ra nf fs hf fa) {i : Nat} (hi : i < nf) {y : Int} (hy : mi_ok y) : mu_Ct G M_X11_about [.ref o, .int (mI (i : Nat)), .int (mI y)] w (fun r w' => mu_Fi (dqS (o + 22)) w w' ∧ ∃ (L R U D : Int) (M : Nat), CMx (fs_c (fs i)) L R U D M ∧ (y = 0 → r = some (.int (mI M))) ∧ (y = 1 → r = some (.int (if M = 0 then mI 0 else mI (L + -128)))) ∧ (y = 2 → r = some (.int (if M = 0 then mI 0 else mI (U + -128)))) ∧ (y = 3 → r = some (.int (if M = 0 then mI 0 else mI (R + -128)))) ∧ (y = 4 → r = some (.int (if M = 0 then mI 0 else mI (D + -128)))) ∧ (y = 5 → r = some (.int (fs_g (fs i)))) ∧ (y = 6 → r = some (.int (mI (fs_r (fs i))))) ∧ (y = 7 → ∃ S, DTOT (fs_c (fs i)) 8 S ∧ r = some (.int (mI (S : Nat)))) ∧ (¬ (0 ≤ y ∧ y ≤ 7) → r = some (.int (mI (-1))))) := by
  obtain ⟨ko, hox, ⟨r0, r1, r2, r3, r4, r6, r8, r10, r11, r12, r13, r14⟩, ⟨k1, k3, k4, kB, k12, k13, k14⟩, kS, kF, kQ, k26, kH⟩ := id hm
  obtain ⟨hn1, hn8, hnf, hfs, hfn, hfi, hf1⟩ := id hF
  obtain ⟨hb, ⟨L, R, U, D, M, hx, hcm⟩, hrr, hfr, hfg⟩ := id (hf1 i hi)
  have hfo := (hfs i (by omega)).2.2.2
  have hbd := hx.bd hb.1
  obtain ⟨bd1, bd2, bd3, bd4, bd5, bd6, bd7, bd8, bd9⟩ := id hbd
  obtain ⟨hy1, hy2⟩ := hy
  refine mu_ofWA G M_X11_about [.ref o, .int (mI (i : Nat)), .int (mI y), mu_no] (by decide) rfl (Nat.le_of_ble_eq_true rfl) ?_
  intro X E
  have B : mu_B X G cX11_about RX11 4 (mu_rm M_X11_about) := E.1
  show mu_WA X G 4 _ _ 0 0 0 _ []
  refine mu_al_0 B dX11_about_0 ?_
  refine mu_il_1 B dX11_about_1 ?_
  refine mu_eV1 B dX11_about_2 mX11_139 ⟨⟨by decide, by decide⟩, by decide, by decide⟩ (Nat.le_of_ble_eq_true rfl) (by exact ko) (c_X11_fieldAt_y G hm hF hi) ?_
  refine mu_as_3 B dX11_about_5 (by decide) rfl ?_
  refine mu_al_3 B dX11_about_6 ?_
  refine mu_ifnonnull (tgt := 12) B dX11_about_7 (by decide) ?_
  refine mu_il_2 B dX11_about_12 ?_
  by_cases t13_0 : y = 0
  · rw [t13_0]
    refine mu_tabIn (tgt := 60) (off := 47) B dX11_about_13 (by decide) (by decide) (by decide) (by decide) ?_
    refine mu_al_3 B dX11_about_60 ?_
    refine mu_getIN B dX11_about_61 fX11_185 rfl (by exact hfo.1) ?_
    rw [hcm.1]
    refine mu_iret E rfl (by decide) (by decide) dX11_about_64 ?_
    refine ⟨mu_Fi.refl _, L, R, U, D, M, hx, fun _ => rfl, fun hh => by omega, fun hh => by omega, fun hh => by omega, fun hh => by omega, fun hh => by omega, fun hh => by omega, fun hh => by omega, fun hh => by omega⟩
  by_cases t13_1 : y = 1
  · rw [t13_1]
    refine mu_tabIn (tgt := 65) (off := 52) B dX11_about_13 (by decide) (by decide) (by decide) (by decide) ?_
    refine mu_al_3 B dX11_about_65 ?_
    refine mu_al_3 B dX11_about_66 ?_
    refine mu_getIN B dX11_about_67 fX11_188 rfl (by exact hfo.1) ?_
    rw [hcm.2.1]
    refine mu_eS2 B dX11_about_70 mX11_191 ⟨⟨by decide, by decide⟩, by decide, by decide⟩ (Nat.le_of_ble_eq_true rfl) (c_X11_placeOf G hfo.1 hcm.1 (by omega) (x := L)) ?_
    refine mu_iret E rfl (by decide) (by decide) dX11_about_73 ?_
    refine ⟨mu_Fi.refl _, L, R, U, D, M, hx, fun hh => by omega, fun _ => rfl, fun hh => by omega, fun hh => by omega, fun hh => by omega, fun hh => by omega, fun hh => by omega, fun hh => by omega, fun hh => by omega⟩
  by_cases t13_2 : y = 2
  · rw [t13_2]
    refine mu_tabIn (tgt := 74) (off := 61) B dX11_about_13 (by decide) (by decide) (by decide) (by decide) ?_
    refine mu_al_3 B dX11_about_74 ?_
    refine mu_al_3 B dX11_about_75 ?_
    refine mu_getIN B dX11_about_76 fX11_194 rfl (by exact hfo.1) ?_
    rw [hcm.2.2.1]
    refine mu_eS2 B dX11_about_79 mX11_191 ⟨⟨by decide, by decide⟩, by decide, by decide⟩ (Nat.le_of_ble_eq_true rfl) (c_X11_placeOf G hfo.1 hcm.1 (by omega) (x := U)) ?_
    refine mu_iret E rfl (by decide) (by decide) dX11_about_82 ?_
    refine ⟨mu_Fi.refl _, L, R, U, D, M, hx, fun hh => by omega, fun hh => by omega, fun _ => rfl, fun hh => by omega, fun hh => by omega, fun hh => by omega, fun hh => by omega, fun hh => by omega, fun hh => by omega⟩
  by_cases t13_3 : y = 3
  · rw [t13_3]
    refine mu_tabIn (tgt := 83) (off := 70) B dX11_about_13 (by decide) (by decide) (by decide) (by decide) ?_
    refine mu_al_3 B dX11_about_83 ?_
    refine mu_al_3 B dX11_about_84 ?_
    refine mu_getIN B dX11_about_85 fX11_197 rfl (by exact hfo.1) ?_
    rw [hcm.2.2.2.1]
    refine mu_eS2 B dX11_about_88 mX11_191 ⟨⟨by decide, by decide⟩, by decide, by decide⟩ (Nat.le_of_ble_eq_true rfl) (c_X11_placeOf G hfo.1 hcm.1 (by omega) (x := R)) ?_
    refine mu_iret E rfl (by decide) (by decide) dX11_about_91 ?_
    refine ⟨mu_Fi.refl _, L, R, U, D, M, hx, fun hh => by omega, fun hh => by omega, fun hh => by omega, fun _ => rfl, fun hh => by omega, fun hh => by omega, fun hh => by omega, fun hh => by omega, fun hh => by omega⟩
  by_cases t13_4 : y = 4
  · rw [t13_4]
    refine mu_tabIn (tgt := 92) (off := 79) B dX11_about_13 (by decide) (by decide) (by decide) (by decide) ?_
    refine mu_al_3 B dX11_about_92 ?_
    refine mu_al_3 B dX11_about_93 ?_
    refine mu_getIN B dX11_about_94 fX11_200 rfl (by exact hfo.1) ?_
    rw [hcm.2.2.2.2]
    refine mu_eS2 B dX11_about_97 mX11_191 ⟨⟨by decide, by decide⟩, by decide, by decide⟩ (Nat.le_of_ble_eq_true rfl) (c_X11_placeOf G hfo.1 hcm.1 (by omega) (x := D)) ?_
    refine mu_iret E rfl (by decide) (by decide) dX11_about_100 ?_
    refine ⟨mu_Fi.refl _, L, R, U, D, M, hx, fun hh => by omega, fun hh => by omega, fun hh => by omega, fun hh => by omega, fun _ => rfl, fun hh => by omega, fun hh => by omega, fun hh => by omega, fun hh => by omega⟩
  by_cases t13_5 : y = 5
  · rw [t13_5]
    refine mu_tabIn (tgt := 101) (off := 88) B dX11_about_13 (by decide) (by decide) (by decide) (by decide) ?_
    refine mu_al_3 B dX11_about_101 ?_
    refine mu_getIN B dX11_about_102 fX11_203 rfl (by exact hfo.1) ?_
    rw [hfg]
    refine mu_iret E rfl (by decide) (by decide) dX11_about_105 ?_
    refine ⟨mu_Fi.refl _, L, R, U, D, M, hx, fun hh => by omega, fun hh => by omega, fun hh => by omega, fun hh => by omega, fun hh => by omega, fun _ => rfl, fun hh => by omega, fun hh => by omega, fun hh => by omega⟩
  by_cases t13_6 : y = 6
  · rw [t13_6]
    refine mu_tabIn (tgt := 106) (off := 93) B dX11_about_13 (by decide) (by decide) (by decide) (by decide) ?_
    refine mu_al_3 B dX11_about_106 ?_
    refine mu_getIN B dX11_about_107 fX11_206 rfl (by exact hfo.1) ?_
    rw [hfr]
    refine mu_iret E rfl (by decide) (by decide) dX11_about_110 ?_
    refine ⟨mu_Fi.refl _, L, R, U, D, M, hx, fun hh => by omega, fun hh => by omega, fun hh => by omega, fun hh => by omega, fun hh => by omega, fun hh => by omega, fun _ => rfl, fun hh => by omega, fun hh => by omega⟩
  by_cases t13_7 : y = 7
  · rw [t13_7]
    refine mu_tabIn (tgt := 111) (off := 98) B dX11_about_13 (by decide) (by decide) (by decide) (by decide) ?_
    refine mu_al_0 B dX11_about_111 ?_
    refine mu_getR B dX11_about_112 fX11_70 rfl (by exact ko) (by exact r12) ?_
    refine mu_al_3 B dX11_about_115 ?_
    refine mu_cV1 B dX11_about_116 mX11_209 ⟨⟨by decide, by decide⟩, by decide, by decide⟩ (Nat.le_of_ble_eq_true rfl) (by exact kQ.1) (c_X8_different G kQ hfo hb hcm hx) (fun r116 w116 q116 => ?_)
    obtain ⟨hF9, S9, hS9, rfl⟩ := q116
    show mu_WA X G 4 _ _ _ _ 119 _ [.int (mI (S9 : Nat))]
    refine mu_iret E rfl (by decide) (by decide) dX11_about_119 ?_
    refine ⟨hF9, L, R, U, D, M, hx, fun hh => by omega, fun hh => by omega, fun hh => by omega, fun hh => by omega, fun hh => by omega, fun hh => by omega, fun hh => by omega, fun _ => ⟨S9, hS9, rfl⟩, fun hh => by omega⟩
  refine mu_tabOut (tgt := 120) B dX11_about_13 (by rw [mI_toInt ⟨by omega, by omega⟩]; omega) (by decide) ?_
  refine mu_iconst (v := mI (-1)) B dX11_about_120 rfl ?_
  refine mu_iret E rfl (by decide) (by decide) dX11_about_121 ?_
  refine ⟨mu_Fi.refl _, L, R, U, D, M, hx, fun hh => by omega, fun hh => by omega, fun hh => by omega, fun hh => by omega, fun hh => by omega, fun hh => by omega, fun hh => by omega, fun hh => by omega, fun _ => rfl⟩

set_option maxHeartbeats 4000000 in
set_option maxRecDepth 100000 in
theorem c_X11_congruent_nn (G : mu_G) {w : mu_W} {o : Nat} (hm : CMo w o) {ra : Nat → Nat} {nf : Nat} {fs : Nat → mu_FS} {hf : Nat} {fa : Nat → Nat} (hF : CFs w o ra nf fs hf fa) {z : Int} (hz : mi_ok z) (hn : ¬ (0 ≤ z ∧ z < nf)) {y : Int} (hy : mi_ok y) (hn2 : ¬ (0 ≤ y ∧ y < nf)) : mu_Ct G M_X11_congruent [.ref o, .int (mI z), .int (mI y)] w (fun r w' => r = some (.int (mI (-1))) ∧ w' = w) := by
  obtain ⟨ko, hox, ⟨r0, r1, r2, r3, r4, r6, r8, r10, r11, r12, r13, r14⟩, ⟨k1, k3, k4, kB, k12, k13, k14⟩, kS, kF, kQ, k26, kH⟩ := id hm
  obtain ⟨hn1, hn8, hnf, hfs, hfn, hfi, hf1⟩ := id hF
  refine mu_ofWA G M_X11_congruent [.ref o, .int (mI z), .int (mI y), mu_no, mu_no, mu_no] (by decide) rfl (Nat.le_of_ble_eq_true rfl) ?_
  intro X E
  have B : mu_B X G cX11_congruent RX11 6 (mu_rm M_X11_congruent) := E.1
  show mu_WA X G 6 _ _ 0 0 0 _ []
  refine mu_al_0 B dX11_congruent_0 ?_
  refine mu_il_1 B dX11_congruent_1 ?_
  refine mu_eV1 B dX11_congruent_2 mX11_139 ⟨⟨by decide, by decide⟩, by decide, by decide⟩ (Nat.le_of_ble_eq_true rfl) (by exact ko) (c_X11_fieldAt_n G hm hF hz hn) ?_
  refine mu_ns_3 B dX11_congruent_5 (by decide) rfl ?_
  refine mu_al_0 B dX11_congruent_6 ?_
  refine mu_il_2 B dX11_congruent_7 ?_
  refine mu_eV1 B dX11_congruent_8 mX11_139 ⟨⟨by decide, by decide⟩, by decide, by decide⟩ (Nat.le_of_ble_eq_true rfl) (by exact ko) (c_X11_fieldAt_n G hm hF hy hn2) ?_
  refine mu_ns_4 B dX11_congruent_11 (by decide) rfl ?_
  refine mu_nl_3 B dX11_congruent_13 ?_
  refine mu_ifnullN (tgt := 22) B dX11_congruent_14 (by decide) ?_
  refine mu_iconst (v := mI (-1)) B dX11_congruent_22 rfl ?_
  refine mu_iret E rfl (by decide) (by decide) dX11_congruent_23 ?_
  exact ⟨rfl, rfl⟩

set_option maxHeartbeats 4000000 in
set_option maxRecDepth 100000 in
theorem c_X11_congruent_ny (G : mu_G) {w : mu_W} {o : Nat} (hm : CMo w o) {ra : Nat → Nat} {nf : Nat} {fs : Nat → mu_FS} {hf : Nat} {fa : Nat → Nat} (hF : CFs w o ra nf fs hf fa) {z : Int} (hz : mi_ok z) (hn : ¬ (0 ≤ z ∧ z < nf)) {j : Nat} (hj : j < nf) : mu_Ct G M_X11_congruent [.ref o, .int (mI z), .int (mI (j : Nat))] w (fun r w' => r = some (.int (mI (-1))) ∧ w' = w) := by
  obtain ⟨ko, hox, ⟨r0, r1, r2, r3, r4, r6, r8, r10, r11, r12, r13, r14⟩, ⟨k1, k3, k4, kB, k12, k13, k14⟩, kS, kF, kQ, k26, kH⟩ := id hm
  obtain ⟨hn1, hn8, hnf, hfs, hfn, hfi, hf1⟩ := id hF
  refine mu_ofWA G M_X11_congruent [.ref o, .int (mI z), .int (mI (j : Nat)), mu_no, mu_no, mu_no] (by decide) rfl (Nat.le_of_ble_eq_true rfl) ?_
  intro X E
  have B : mu_B X G cX11_congruent RX11 6 (mu_rm M_X11_congruent) := E.1
  show mu_WA X G 6 _ _ 0 0 0 _ []
  refine mu_al_0 B dX11_congruent_0 ?_
  refine mu_il_1 B dX11_congruent_1 ?_
  refine mu_eV1 B dX11_congruent_2 mX11_139 ⟨⟨by decide, by decide⟩, by decide, by decide⟩ (Nat.le_of_ble_eq_true rfl) (by exact ko) (c_X11_fieldAt_n G hm hF hz hn) ?_
  refine mu_ns_3 B dX11_congruent_5 (by decide) rfl ?_
  refine mu_al_0 B dX11_congruent_6 ?_
  refine mu_il_2 B dX11_congruent_7 ?_
  refine mu_eV1 B dX11_congruent_8 mX11_139 ⟨⟨by decide, by decide⟩, by decide, by decide⟩ (Nat.le_of_ble_eq_true rfl) (by exact ko) (c_X11_fieldAt_y G hm hF hj) ?_
  refine mu_as_4 B dX11_congruent_11 (by decide) rfl ?_
  refine mu_nl_3 B dX11_congruent_13 ?_
  refine mu_ifnullN (tgt := 22) B dX11_congruent_14 (by decide) ?_
  refine mu_iconst (v := mI (-1)) B dX11_congruent_22 rfl ?_
  refine mu_iret E rfl (by decide) (by decide) dX11_congruent_23 ?_
  exact ⟨rfl, rfl⟩

set_option maxHeartbeats 4000000 in
set_option maxRecDepth 100000 in
theorem c_X11_congruent_yn (G : mu_G) {w : mu_W} {o : Nat} (hm : CMo w o) {ra : Nat → Nat} {nf : Nat} {fs : Nat → mu_FS} {hf : Nat} {fa : Nat → Nat} (hF : CFs w o ra nf fs hf fa) {i : Nat} (hi : i < nf) {y : Int} (hy : mi_ok y) (hn2 : ¬ (0 ≤ y ∧ y < nf)) : mu_Ct G M_X11_congruent [.ref o, .int (mI (i : Nat)), .int (mI y)] w (fun r w' => r = some (.int (mI (-1))) ∧ w' = w) := by
  obtain ⟨ko, hox, ⟨r0, r1, r2, r3, r4, r6, r8, r10, r11, r12, r13, r14⟩, ⟨k1, k3, k4, kB, k12, k13, k14⟩, kS, kF, kQ, k26, kH⟩ := id hm
  obtain ⟨hn1, hn8, hnf, hfs, hfn, hfi, hf1⟩ := id hF
  refine mu_ofWA G M_X11_congruent [.ref o, .int (mI (i : Nat)), .int (mI y), mu_no, mu_no, mu_no] (by decide) rfl (Nat.le_of_ble_eq_true rfl) ?_
  intro X E
  have B : mu_B X G cX11_congruent RX11 6 (mu_rm M_X11_congruent) := E.1
  show mu_WA X G 6 _ _ 0 0 0 _ []
  refine mu_al_0 B dX11_congruent_0 ?_
  refine mu_il_1 B dX11_congruent_1 ?_
  refine mu_eV1 B dX11_congruent_2 mX11_139 ⟨⟨by decide, by decide⟩, by decide, by decide⟩ (Nat.le_of_ble_eq_true rfl) (by exact ko) (c_X11_fieldAt_y G hm hF hi) ?_
  refine mu_as_3 B dX11_congruent_5 (by decide) rfl ?_
  refine mu_al_0 B dX11_congruent_6 ?_
  refine mu_il_2 B dX11_congruent_7 ?_
  refine mu_eV1 B dX11_congruent_8 mX11_139 ⟨⟨by decide, by decide⟩, by decide, by decide⟩ (Nat.le_of_ble_eq_true rfl) (by exact ko) (c_X11_fieldAt_n G hm hF hy hn2) ?_
  refine mu_ns_4 B dX11_congruent_11 (by decide) rfl ?_
  refine mu_al_3 B dX11_congruent_13 ?_
  refine mu_ifnull B dX11_congruent_14 ?_
  refine mu_nl_4 B dX11_congruent_17 ?_
  refine mu_ifnonnullN B dX11_congruent_19 ?_
  refine mu_iconst (v := mI (-1)) B dX11_congruent_22 rfl ?_
  refine mu_iret E rfl (by decide) (by decide) dX11_congruent_23 ?_
  exact ⟨rfl, rfl⟩

set_option maxHeartbeats 4000000 in
set_option maxRecDepth 100000 in
theorem c_X11_congruent_yy (G : mu_G) {w : mu_W} {o : Nat} (hm : CMo w o) {ra : Nat → Nat} {nf : Nat} {fs : Nat → mu_FS} {hf : Nat} {fa : Nat → Nat} (hF : CFs w o ra nf fs hf fa) {i : Nat} (hi : i < nf) {j : Nat} (hj : j < nf) {L R U D : Int} {M : Nat} (hx : CMx (fs_c (fs i)) L R U D M) (hcm : CFm w (fa i) L R U D M) {L2 R2 U2 D2 : Int} {M2 : Nat} (hx2 : CMx (fs_c (fs j)) L2 R2 U2 D2 M2) (hcm2 : CFm w (fa j) L2 R2 U2 D2 M2) : mu_Ct G M_X11_congruent [.ref o, .int (mI (i : Nat)), .int (mI (j : Nat))] w (fun r w' => ((M ≠ M2 → r = some (.int (mI 0))) ∧ (M = M2 → (∃ t, t < 8 ∧ sp_tm (fs_c (fs i)) (fs_c (fs j)) L R U D L2 R2 U2 D2 (tw t) ∧ r = some (.int (mI 1))) ∨ ((∀ t, t < 8 → ¬ sp_tm (fs_c (fs i)) (fs_c (fs j)) L R U D L2 R2 U2 D2 (tw t)) ∧ r = some (.int (mI 0))))) ∧ w' = w) := by
  obtain ⟨ko, hox, ⟨r0, r1, r2, r3, r4, r6, r8, r10, r11, r12, r13, r14⟩, ⟨k1, k3, k4, kB, k12, k13, k14⟩, kS, kF, kQ, k26, kH⟩ := id hm
  obtain ⟨hn1, hn8, hnf, hfs, hfn, hfi, hf1⟩ := id hF
  have hfo := (hfs i (by omega)).2.2.2
  have hfo2 := (hfs j (by omega)).2.2.2
  have hb := (hf1 i hi).1
  have hb2 := (hf1 j hj).1
  obtain ⟨_, _, _, _, _, _, _, _, bdM⟩ := hx.bd hb.1
  obtain ⟨_, _, _, _, _, _, _, _, bdM2⟩ := hx2.bd hb2.1
  refine mu_ofWA G M_X11_congruent [.ref o, .int (mI (i : Nat)), .int (mI (j : Nat)), mu_no, mu_no, mu_no] (by decide) rfl (Nat.le_of_ble_eq_true rfl) ?_
  intro X E
  have B : mu_B X G cX11_congruent RX11 6 (mu_rm M_X11_congruent) := E.1
  show mu_WA X G 6 _ _ 0 0 0 _ []
  refine mu_al_0 B dX11_congruent_0 ?_
  refine mu_il_1 B dX11_congruent_1 ?_
  refine mu_eV1 B dX11_congruent_2 mX11_139 ⟨⟨by decide, by decide⟩, by decide, by decide⟩ (Nat.le_of_ble_eq_true rfl) (by exact ko) (c_X11_fieldAt_y G hm hF hi) ?_
  refine mu_as_3 B dX11_congruent_5 (by decide) rfl ?_
  refine mu_al_0 B dX11_congruent_6 ?_
  refine mu_il_2 B dX11_congruent_7 ?_
  refine mu_eV1 B dX11_congruent_8 mX11_139 ⟨⟨by decide, by decide⟩, by decide, by decide⟩ (Nat.le_of_ble_eq_true rfl) (by exact ko) (c_X11_fieldAt_y G hm hF hj) ?_
  refine mu_as_4 B dX11_congruent_11 (by decide) rfl ?_
  refine mu_al_3 B dX11_congruent_13 ?_
  refine mu_ifnull B dX11_congruent_14 ?_
  refine mu_al_4 B dX11_congruent_17 ?_
  refine mu_ifnonnull (tgt := 24) B dX11_congruent_19 (by decide) ?_
  refine mu_al_3 B dX11_congruent_24 ?_
  refine mu_getIN B dX11_congruent_25 fX11_185 rfl (by exact hfo.1) ?_
  rw [hcm.1]
  refine mu_al_4 B dX11_congruent_28 ?_
  refine mu_getIN B dX11_congruent_30 fX11_185 rfl (by exact hfo2.1) ?_
  rw [hcm2.1]
  refine mu_icmp_eq (tgt := 38) B dX11_congruent_33 (by decide) (fun c33 => ?_) (fun c33 => ?_)
  · try rw [mI_eq ⟨by omega, by omega⟩ ⟨by omega, by omega⟩] at c33
    refine mu_iconst (v := mI 0) B dX11_congruent_38 rfl ?_
    refine mu_is_5 B dX11_congruent_39 (by decide) rfl ?_
    have hMM : M = M2 := by omega
    
    have LG : ∀ t (uu : Unit), t ≤ (8 : Nat) → (∀ t9, t9 < t → ¬ sp_tm (fs_c (fs i)) (fs_c (fs j)) L R U D L2 R2 U2 D2 (tw t9)) → mu_WA X G 6 (mu_Q X G M_X11_congruent (fun r w' => ((M ≠ M2 → r = some (.int (mI 0))) ∧ (M = M2 → (∃ t, t < 8 ∧ sp_tm (fs_c (fs i)) (fs_c (fs j)) L R U D L2 R2 U2 D2 (tw t) ∧ r = some (.int (mI 1))) ∨ ((∀ t, t < 8 → ¬ sp_tm (fs_c (fs i)) (fs_c (fs j)) L R U D L2 R2 U2 D2 (tw t)) ∧ r = some (.int (mI 0))))) ∧ w' = w)) w 0 0 41 [.ref o, .int (mI (i : Nat)), .int (mI (j : Nat)), .ref (fa i), .ref (fa j), .int (mI t)] [] := by
      refine mu_ind ((8 : Nat)) (fun t (uu : Unit) => mu_WA X G 6 (mu_Q X G M_X11_congruent (fun r w' => ((M ≠ M2 → r = some (.int (mI 0))) ∧ (M = M2 → (∃ t, t < 8 ∧ sp_tm (fs_c (fs i)) (fs_c (fs j)) L R U D L2 R2 U2 D2 (tw t) ∧ r = some (.int (mI 1))) ∨ ((∀ t, t < 8 → ¬ sp_tm (fs_c (fs i)) (fs_c (fs j)) L R U D L2 R2 U2 D2 (tw t)) ∧ r = some (.int (mI 0))))) ∧ w' = w)) w 0 0 41 [.ref o, .int (mI (i : Nat)), .int (mI (j : Nat)), .ref (fa i), .ref (fa j), .int (mI t)] []) (fun t (uu : Unit) => ∀ t9, t9 < t → ¬ sp_tm (fs_c (fs i)) (fs_c (fs j)) L R U D L2 R2 U2 D2 (tw t9)) ?_
      intro t uu ht hno ih
      refine mu_il_5 B dX11_congruent_41 ?_
      refine mu_bipush (v := mI 8) B dX11_congruent_43 (by decide) ?_
      refine mu_icmp_ge (tgt := 67) B dX11_congruent_45 (by decide) (fun c45 => ?_) (fun c45 => ?_)
      · try rw [mI_le ⟨by omega, by omega⟩ ⟨by omega, by omega⟩] at c45
        try rw [mI_le ⟨by omega, by omega⟩ ⟨by omega, by omega⟩] at c45
        obtain rfl : 8 = t := by omega
        refine mu_iconst (v := mI 0) B dX11_congruent_67 rfl ?_
        refine mu_iret E rfl (by decide) (by decide) dX11_congruent_68 ?_
        exact ⟨⟨fun h => absurd hMM h, fun _ => Or.inr ⟨hno, rfl⟩⟩, rfl⟩
      · try rw [mI_le ⟨by omega, by omega⟩ ⟨by omega, by omega⟩] at c45
        refine mu_al_3 B dX11_congruent_48 ?_
        refine mu_al_4 B dX11_congruent_49 ?_
        refine mu_il_5 B dX11_congruent_51 ?_
        refine mu_cV2 B dX11_congruent_53 mX11_226 ⟨⟨by decide, by decide⟩, by decide, by decide⟩ (Nat.le_of_ble_eq_true rfl) (by exact hfo.1) (c_X1_isTurned G hfo hb hcm hx hfo2 hb2 hcm2 hx2 (t := t) (by omega)) (fun r53 w53 q53 => ?_)
        obtain ⟨hq53, hw53⟩ := q53
        subst hw53
        obtain ⟨v, rfl, hv⟩ : ∃ v, r53 = some (.int v) ∧ ((v = mI 1 ∧ sp_tm (fs_c (fs i)) (fs_c (fs j)) L R U D L2 R2 U2 D2 (tw t)) ∨ (v = mI 0 ∧ ¬ sp_tm (fs_c (fs i)) (fs_c (fs j)) L R U D L2 R2 U2 D2 (tw t))) := by
          rcases hq53 with h | h
          · exact ⟨_, h.1, Or.inl ⟨rfl, h.2⟩⟩
          · exact ⟨_, h.1, Or.inr ⟨rfl, h.2⟩⟩
        show mu_WA X G 6 _ _ _ _ 56 _ [.int v]
        refine mu_if_eq (tgt := 61) B dX11_congruent_56 (by decide) (fun c56 => ?_) (fun c56 => ?_)
        · have hnt : ¬ sp_tm (fs_c (fs i)) (fs_c (fs j)) L R U D L2 R2 U2 D2 (tw t) := by
            rcases hv with h | h
            · rw [h.1] at c56; exact absurd c56 (by decide)
            · exact h.2
          refine mu_inc_5 (c := mI 1) B dX11_congruent_61 rfl (by decide) rfl ?_
          try rw [mI_add]
          refine mu_goto (tgt := 41) B dX11_congruent_64 (by decide) ?_
          refine mu_to (ih () (by omega) (fun t9 h9 => ?_)) rfl (by rw [show ((t + 1 : Nat) : Int) = (t : Int) + 1 by omega])
          by_cases e9 : t9 = t
          · rw [e9]; exact hnt
          · exact hno t9 (by omega)
        · have hyt : sp_tm (fs_c (fs i)) (fs_c (fs j)) L R U D L2 R2 U2 D2 (tw t) := by
            rcases hv with h | h
            · exact h.2
            · rw [h.1] at c56; exact absurd rfl c56
          refine mu_iconst (v := mI 1) B dX11_congruent_59 rfl ?_
          refine mu_iret E rfl (by decide) (by decide) dX11_congruent_60 ?_
          exact ⟨⟨fun h => absurd hMM h, fun _ => Or.inl ⟨t, by omega, hyt, rfl⟩⟩, rfl⟩
    exact LG 0 () (Nat.zero_le _) (fun t9 h9 => absurd h9 (Nat.not_lt_zero t9))
  · try rw [mI_eq ⟨by omega, by omega⟩ ⟨by omega, by omega⟩] at c33
    refine mu_iconst (v := mI 0) B dX11_congruent_36 rfl ?_
    refine mu_iret E rfl (by decide) (by decide) dX11_congruent_37 ?_
    exact ⟨⟨fun _ => rfl, fun h => by omega⟩, rfl⟩
