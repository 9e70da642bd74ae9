/-! ===== the class: rule, field, grid ===== -/
theorem CT.sm {w w' : mu_W} {t n : Nat} {tp : Nat → Nat} (h : CT w t n tp) (h0 : smc w w' t) (h1 : smc w w' (t + 1)) : CT w' t n tp := ⟨h0.1.trans h.1, (h0.2.2.2 0).trans h.2.1, h1.1.trans h.2.2.1, h.2.2.2.1, (h0.2.1 1).trans h.2.2.2.2.1, fun j hj => (h1.2.1 j).trans (h.2.2.2.2.2 j hj)⟩
def mk_post (w : mu_W) (o nr : Nat) (ru : mu_RS) (r : Option Value) (w' : mu_W) : Prop := r = some (.int (mI (nr : Nat))) ∧ mu_Gx (mrS o nr) w w' ∧ mu_nx w' = mu_nx w + 5 ∧ CRu w' (mu_nx w) ru ∧ mu_rv w' (o + 12) nr = some (mu_nx w) ∧ mu_iv w' o 5 = mI ((nr + 1 : Nat) : Int)

set_option maxHeartbeats 4000000 in
set_option maxRecDepth 100000 in
theorem c_X11_rule_f (G : mu_G) {w : mu_W} {o : Nat} (hm : CMo w o) {nr : Nat} {rs : Nat → mu_RS} {ra : Nat → Nat} (hr : CRs w o nr rs ra) {n : Nat} {tp : Nat → Nat} (ht : CT w (o + 1) n tp) (hfull : 16 ≤ nr) : mu_Ct G M_X11_rule [.ref o] w (fun r w' => r = some (.int (mI (-3))) ∧ CT w' (o + 1) 0 tp ∧ mu_Fi (ap_S (o + 1)) w w') := by
  obtain ⟨ko, hox, ⟨r0, r1, r2, r3, r4, r6, r8, r10, r11, r12, r13, r14⟩, ⟨k1, k3, k4, kB, k12, k13, k14⟩, kS, kF, kQ, k26, kH⟩ := id hm
  refine mu_ofWA G M_X11_rule [.ref o, mu_no] (by decide) rfl (Nat.le_of_ble_eq_true rfl) ?_
  intro X E
  have B : mu_B X G cX11_rule RX11 2 (mu_rm M_X11_rule) := E.1
  show mu_WA X G 2 _ _ 0 0 0 _ []
  refine mu_al_0 B dX11_rule_0 ?_
  refine mu_eV0 B dX11_rule_1 mX11_99 ⟨⟨by decide, by decide⟩, by decide, by decide⟩ (Nat.le_of_ble_eq_true rfl) (by exact ko) (c_X11_makeRule_f G hm hr hfull) ?_
  refine mu_is_1 B dX11_rule_4 (by decide) rfl ?_
  refine mu_al_0 B dX11_rule_5 ?_
  refine mu_getR B dX11_rule_6 fX11_10 rfl (by exact ko) (by exact r0) ?_
  refine mu_iconst (v := mI 0) B dX11_rule_9 rfl ?_
  refine mu_cV1 B dX11_rule_10 mX11_96 ⟨⟨by decide, by decide⟩, by decide, by decide⟩ (Nat.le_of_ble_eq_true rfl) (by exact k1) (c_X10_keep G ht (z := 0) ⟨by decide, by decide⟩) (fun r10 w10 q10 => ?_)
  obtain ⟨rfl, rfl⟩ := q10
  refine mu_il_1 B dX11_rule_13 ?_
  refine mu_iret E rfl (by decide) (by decide) dX11_rule_14 ?_
  exact ⟨rfl, ht.keep0.1, ht.keep0.2⟩

set_option maxHeartbeats 4000000 in
set_option maxRecDepth 100000 in
theorem c_X11_rule_b (G : mu_G) {w : mu_W} {o : Nat} (hm : CMo w o) {nr : Nat} {rs : Nat → mu_RS} {ra : Nat → Nat} (hr : CRs w o nr rs ra) {n : Nat} {tp : Nat → Nat} (ht : CT w (o + 1) n tp) (hfull : nr < 16) (hg : ¬ (sp_rule n tp).1 = true) (hpb : (sp_rule n tp).2.1 ≤ 2000) : mu_Ct G M_X11_rule [.ref o] w (fun r w' => r = some (.int (mI (-10 - ((sp_rule n tp).2.1 : Int)))) ∧ ∃ w1, mu_Fi (rq_S (o + 3)) w w1 ∧ CT w' (o + 1) 0 tp ∧ mu_Fi (ap_S (o + 1)) w1 w') := by
  obtain ⟨ko, hox, ⟨r0, r1, r2, r3, r4, r6, r8, r10, r11, r12, r13, r14⟩, ⟨k1, k3, k4, kB, k12, k13, k14⟩, kS, kF, kQ, k26, kH⟩ := id hm
  refine mu_ofWA G M_X11_rule [.ref o, mu_no] (by decide) rfl (Nat.le_of_ble_eq_true rfl) ?_
  intro X E
  have B : mu_B X G cX11_rule RX11 2 (mu_rm M_X11_rule) := E.1
  show mu_WA X G 2 _ _ 0 0 0 _ []
  refine mu_al_0 B dX11_rule_0 ?_
  refine mu_cV0 B dX11_rule_1 mX11_99 ⟨⟨by decide, by decide⟩, by decide, by decide⟩ (Nat.le_of_ble_eq_true rfl) (by exact ko) (c_X11_makeRule_b G hm hr ht hfull hg hpb) (fun r1 w1 q1 => ?_)
  obtain ⟨rfl, hF1⟩ := q1
  have ht1 := ht.fi hF1 (fun hh => by have := hh.1; omega) (fun j hh => by have := hh.1; omega)
  show mu_WA X G 2 _ _ _ _ 4 _ [.int _]
  refine mu_is_1 B dX11_rule_4 (by decide) rfl ?_
  refine mu_al_0 B dX11_rule_5 ?_
  refine mu_getR B dX11_rule_6 fX11_10 rfl (hF1.kd ko) (hF1.rv r0) ?_
  refine mu_iconst (v := mI 0) B dX11_rule_9 rfl ?_
  refine mu_cV1 B dX11_rule_10 mX11_96 ⟨⟨by decide, by decide⟩, by decide, by decide⟩ (Nat.le_of_ble_eq_true rfl) (hF1.kd k1) (c_X10_keep G ht1 (z := 0) ⟨by decide, by decide⟩) (fun r10 w10 q10 => ?_)
  obtain ⟨rfl, rfl⟩ := q10
  refine mu_il_1 B dX11_rule_13 ?_
  refine mu_iret E rfl (by decide) (by decide) dX11_rule_14 ?_
  exact ⟨rfl, w1, hF1, ht1.keep0.1, ht1.keep0.2⟩

set_option maxHeartbeats 4000000 in
set_option maxRecDepth 100000 in
theorem c_X11_rule_y (G : mu_G) {w : mu_W} {o : Nat} (hm : CMo w o) {nr : Nat} {rs : Nat → mu_RS} {ra : Nat → Nat} (hr : CRs w o nr rs ra) {n : Nat} {tp : Nat → Nat} (ht : CT w (o + 1) n tp) {ru : mu_RS} (hfull : nr < 16) (hg : (sp_rule n tp).1 = true) (hru : (sp_rule n tp).2.2 = ru) : mu_Ct G M_X11_rule [.ref o] w (fun r w' => ∃ w1, mk_post w o nr ru r w1 ∧ CT w' (o + 1) 0 tp ∧ mu_Fi (ap_S (o + 1)) w1 w') := by
  obtain ⟨ko, hox, ⟨r0, r1, r2, r3, r4, r6, r8, r10, r11, r12, r13, r14⟩, ⟨k1, k3, k4, kB, k12, k13, k14⟩, kS, kF, kQ, k26, kH⟩ := id hm
  refine mu_ofWA G M_X11_rule [.ref o, mu_no] (by decide) rfl (Nat.le_of_ble_eq_true rfl) ?_
  intro X E
  have B : mu_B X G cX11_rule RX11 2 (mu_rm M_X11_rule) := E.1
  show mu_WA X G 2 _ _ 0 0 0 _ []
  refine mu_al_0 B dX11_rule_0 ?_
  refine mu_cV0 B dX11_rule_1 mX11_99 ⟨⟨by decide, by decide⟩, by decide, by decide⟩ (Nat.le_of_ble_eq_true rfl) (by exact ko) (c_X11_makeRule_y G hm hr ht hfull hg hru) (fun r1 w1 q1 => ?_)
  have q9 : mk_post w o nr ru r1 w1 := q1
  obtain ⟨rfl, hG1, q1b⟩ := q1
  have hs0 := hG1.smc (q := o) 
  have ht1 := ht.sm (hG1.smc (by omega) (fun j hh => by rcases hh with hh | hh | hh | hh <;> first | omega | (have := hh.1; omega))) (hG1.smc (by omega) (fun j hh => by rcases hh with hh | hh | hh | hh <;> first | omega | (have := hh.1; omega)))
  have ko1 : mu_kd w1 o = some (11, 0) := (hG1.2 o (by omega)).1.trans ko
  have r01 : mu_rv w1 o 0 = some (o + 1) := ((hG1.2 o (by omega)).2 0 (fun hh => by rcases hh with hh | hh | hh | hh <;> first | omega | (have := hh.1; omega))).2.2.trans r0
  have k11 : mu_kd w1 (o + 1) = some (10, 0) := (hG1.2 (o + 1) (by omega)).1.trans k1
  show mu_WA X G 2 _ _ _ _ 4 _ [.int _]
  refine mu_is_1 B dX11_rule_4 (by decide) rfl ?_
  refine mu_al_0 B dX11_rule_5 ?_
  refine mu_getR B dX11_rule_6 fX11_10 rfl (by exact ko1) (by exact r01) ?_
  refine mu_iconst (v := mI 0) B dX11_rule_9 rfl ?_
  refine mu_cV1 B dX11_rule_10 mX11_96 ⟨⟨by decide, by decide⟩, by decide, by decide⟩ (Nat.le_of_ble_eq_true rfl) (by exact k11) (c_X10_keep G ht1 (z := 0) ⟨by decide, by decide⟩) (fun r10 w10 q10 => ?_)
  obtain ⟨rfl, rfl⟩ := q10
  refine mu_il_1 B dX11_rule_13 ?_
  refine mu_iret E rfl (by decide) (by decide) dX11_rule_14 ?_
  exact ⟨w1, q9, ht1.keep0.1, ht1.keep0.2⟩

set_option maxHeartbeats 4000000 in
set_option maxRecDepth 100000 in
theorem c_X11_field_n (G : mu_G) {w : mu_W} {o : Nat} (hm : CMo w o) {nr : Nat} {rs : Nat → mu_RS} {ra : Nat → Nat} (hr : CRs w o nr rs ra) {z : Int} (hz : mi_ok z) (hn : ¬ (0 ≤ z ∧ z < nr)) : mu_Ct G M_X11_field [.ref o, .int (mI z)] w (fun r w' => r = some (.int (mI (-1))) ∧ w' = w) := by
  obtain ⟨ko, hox, ⟨r0, r1, r2, r3, r4, r6, r8, r10, r11, r12, r13, r14⟩, ⟨k1, k3, k4, kB, k12, k13, k14⟩, kS, kF, kQ, k26, kH⟩ := id hm
  obtain ⟨hn16, hnr, hrs⟩ := id hr
  refine mu_ofWA G M_X11_field [.ref o, .int (mI z), mu_no, mu_no] (by decide) rfl (Nat.le_of_ble_eq_true rfl) ?_
  intro X E
  have B : mu_B X G cX11_field RX11 4 (mu_rm M_X11_field) := E.1
  show mu_WA X G 4 _ _ 0 0 0 _ []
  refine mu_al_0 B dX11_field_0 ?_
  refine mu_il_1 B dX11_field_1 ?_
  refine mu_eV1 B dX11_field_2 mX11_117 ⟨⟨by decide, by decide⟩, by decide, by decide⟩ (Nat.le_of_ble_eq_true rfl) (by exact ko) (c_X11_ruleAt_n G hm hr hz hn) ?_
  refine mu_ns_2 B dX11_field_5 (by decide) rfl ?_
  refine mu_nl_2 B dX11_field_6 ?_
  refine mu_ifnonnullN B dX11_field_7 ?_
  refine mu_iconst (v := mI (-1)) B dX11_field_10 rfl ?_
  refine mu_iret E rfl (by decide) (by decide) dX11_field_11 ?_
  exact ⟨rfl, rfl⟩

set_option maxHeartbeats 4000000 in
set_option maxRecDepth 100000 in
theorem c_X11_field_v (G : mu_G) {w : mu_W} {o : Nat} (hm : CMo w o) {nr : Nat} {rs : Nat → mu_RS} {ra : Nat → Nat} (hr : CRs w o nr rs ra) {i : Nat} (hi : i < nr) (hno : ¬ (rs_nb (rs i) ≠ 0 ∧ rs_bo (rs i) % 2 = 0)) : mu_Ct G M_X11_field [.ref o, .int (mI (i : Nat))] w (fun r w' => r = some (.int (mI (-2))) ∧ w' = w) := by
  obtain ⟨ko, hox, ⟨r0, r1, r2, r3, r4, r6, r8, r10, r11, r12, r13, r14⟩, ⟨k1, k3, k4, kB, k12, k13, k14⟩, kS, kF, kQ, k26, kH⟩ := id hm
  obtain ⟨hn16, hnr, hrs⟩ := id hr
  refine mu_ofWA G M_X11_field [.ref o, .int (mI (i : Nat)), mu_no, mu_no] (by decide) rfl (Nat.le_of_ble_eq_true rfl) ?_
  intro X E
  have B : mu_B X G cX11_field RX11 4 (mu_rm M_X11_field) := E.1
  show mu_WA X G 4 _ _ 0 0 0 _ []
  refine mu_al_0 B dX11_field_0 ?_
  refine mu_il_1 B dX11_field_1 ?_
  refine mu_eV1 B dX11_field_2 mX11_117 ⟨⟨by decide, by decide⟩, by decide, by decide⟩ (Nat.le_of_ble_eq_true rfl) (by exact ko) (c_X11_ruleAt_y G hm hr hi) ?_
  refine mu_as_2 B dX11_field_5 (by decide) rfl ?_
  refine mu_al_2 B dX11_field_6 ?_
  refine mu_ifnonnull (tgt := 12) B dX11_field_7 (by decide) ?_
  refine mu_al_2 B dX11_field_12 ?_
  refine mu_eV0 B dX11_field_13 mX11_131 ⟨⟨by decide, by decide⟩, by decide, by decide⟩ (Nat.le_of_ble_eq_true rfl) (by exact (hrs i hi).2.2.2.1) (c_X4_keepsVoid G (hrs i hi).2.2.2) ?_
  refine mu_if_ne (tgt := 22) B dX11_field_16 (by decide) (fun c16 => ?_) (fun c16 => ?_)
  · have z16 := mu_bt c16
    exact absurd z16 hno
  · have z16 := mu_bf c16
    refine mu_bipush (v := mI (-2)) B dX11_field_19 (by decide) ?_
    refine mu_iret E rfl (by decide) (by decide) dX11_field_21 ?_
    exact ⟨rfl, rfl⟩

set_option maxHeartbeats 4000000 in
set_option maxRecDepth 100000 in
theorem c_X11_field_f (G : mu_G) {w : mu_W} {o : Nat} (hm : CMo w o) {nr : Nat} {rs : Nat → mu_RS} {ra : Nat → Nat} (hr : CRs w o nr rs ra) {i : Nat} (hi : i < nr) (hq1 : rs_nb (rs i) ≠ 0) (hq2 : rs_bo (rs i) % 2 = 0) {nf : Nat} {fs : Nat → mu_FS} {hf : Nat} {fa : Nat → Nat} (hF : CFs w o ra nf fs hf fa) (hfull : 8 ≤ nf) : mu_Ct G M_X11_field [.ref o, .int (mI (i : Nat))] w (fun r w' => r = some (.int (mI (-3))) ∧ w' = w) := by
  obtain ⟨ko, hox, ⟨r0, r1, r2, r3, r4, r6, r8, r10, r11, r12, r13, r14⟩, ⟨k1, k3, k4, kB, k12, k13, k14⟩, kS, kF, kQ, k26, kH⟩ := id hm
  obtain ⟨hn16, hnr, hrs⟩ := id hr
  obtain ⟨hn1, hn8, hnf, hfs, hfn, hfi, hf1⟩ := id hF
  refine mu_ofWA G M_X11_field [.ref o, .int (mI (i : Nat)), mu_no, mu_no] (by decide) rfl (Nat.le_of_ble_eq_true rfl) ?_
  intro X E
  have B : mu_B X G cX11_field RX11 4 (mu_rm M_X11_field) := E.1
  show mu_WA X G 4 _ _ 0 0 0 _ []
  refine mu_al_0 B dX11_field_0 ?_
  refine mu_il_1 B dX11_field_1 ?_
  refine mu_eV1 B dX11_field_2 mX11_117 ⟨⟨by decide, by decide⟩, by decide, by decide⟩ (Nat.le_of_ble_eq_true rfl) (by exact ko) (c_X11_ruleAt_y G hm hr hi) ?_
  refine mu_as_2 B dX11_field_5 (by decide) rfl ?_
  refine mu_al_2 B dX11_field_6 ?_
  refine mu_ifnonnull (tgt := 12) B dX11_field_7 (by decide) ?_
  refine mu_al_2 B dX11_field_12 ?_
  refine mu_eV0 B dX11_field_13 mX11_131 ⟨⟨by decide, by decide⟩, by decide, by decide⟩ (Nat.le_of_ble_eq_true rfl) (by exact (hrs i hi).2.2.2.1) (c_X4_keepsVoid G (hrs i hi).2.2.2) ?_
  refine mu_if_ne (tgt := 22) B dX11_field_16 (by decide) (fun c16 => ?_) (fun c16 => ?_)
  · have z16 := mu_bt c16
    refine mu_al_0 B dX11_field_22 ?_
    refine mu_getI B dX11_field_23 fX11_125 rfl (by exact ko) ?_
    rw [hnf]
    refine mu_bipush (v := mI 8) B dX11_field_26 (by decide) ?_
    refine mu_icmp_lt (tgt := 34) B dX11_field_28 (by decide) (fun c28 => ?_) (fun c28 => ?_)
    · try rw [mI_lt ⟨by omega, by omega⟩ ⟨by omega, by omega⟩] at c28
      exfalso
      omega
    · try rw [mI_lt ⟨by omega, by omega⟩ ⟨by omega, by omega⟩] at c28
      refine mu_bipush (v := mI (-3)) B dX11_field_31 (by decide) ?_
      refine mu_iret E rfl (by decide) (by decide) dX11_field_33 ?_
      exact ⟨rfl, rfl⟩
  · have z16 := mu_bf c16
    exact absurd ⟨hq1, hq2⟩ z16

set_option maxHeartbeats 4000000 in
set_option maxRecDepth 100000 in
theorem c_X11_field_y0 (G : mu_G) {w : mu_W} {o : Nat} (hm : CMo w o) {nr : Nat} {rs : Nat → mu_RS} {ra : Nat → Nat} (hr : CRs w o nr rs ra) {i : Nat} (hi : i < nr) (hq1 : rs_nb (rs i) ≠ 0) (hq2 : rs_bo (rs i) % 2 = 0) {nf : Nat} {fs : Nat → mu_FS} {hf : Nat} {fa : Nat → Nat} (hF : CFs w o ra nf fs hf fa) (hfull : nf < 8) (hex : nf < hf) : mu_Ct G M_X11_field [.ref o, .int (mI (i : Nat))] w (fun r w' => r = some (.int (mI (nf : Nat))) ∧ ∃ w1, cle_post (mu_si (mu_sr w (fa nf) 2 (some (ra i))) (fa nf) 3 (mI (i : Nat))) (fa nf) none w1 ∧ w' = mu_si w1 o 7 (mI ((nf : Int) + 1))) := by
  obtain ⟨ko, hox, ⟨r0, r1, r2, r3, r4, r6, r8, r10, r11, r12, r13, r14⟩, ⟨k1, k3, k4, kB, k12, k13, k14⟩, kS, kF, kQ, k26, kH⟩ := id hm
  obtain ⟨hn16, hnr, hrs⟩ := id hr
  obtain ⟨hn1, hn8, hnf, hfs, hfn, hfi, hf1⟩ := id hF
  refine mu_ofWA G M_X11_field [.ref o, .int (mI (i : Nat)), mu_no, mu_no] (by decide) rfl (Nat.le_of_ble_eq_true rfl) ?_
  intro X E
  have B : mu_B X G cX11_field RX11 4 (mu_rm M_X11_field) := E.1
  show mu_WA X G 4 _ _ 0 0 0 _ []
  refine mu_al_0 B dX11_field_0 ?_
  refine mu_il_1 B dX11_field_1 ?_
  refine mu_eV1 B dX11_field_2 mX11_117 ⟨⟨by decide, by decide⟩, by decide, by decide⟩ (Nat.le_of_ble_eq_true rfl) (by exact ko) (c_X11_ruleAt_y G hm hr hi) ?_
  refine mu_as_2 B dX11_field_5 (by decide) rfl ?_
  refine mu_al_2 B dX11_field_6 ?_
  refine mu_ifnonnull (tgt := 12) B dX11_field_7 (by decide) ?_
  refine mu_al_2 B dX11_field_12 ?_
  refine mu_eV0 B dX11_field_13 mX11_131 ⟨⟨by decide, by decide⟩, by decide, by decide⟩ (Nat.le_of_ble_eq_true rfl) (by exact (hrs i hi).2.2.2.1) (c_X4_keepsVoid G (hrs i hi).2.2.2) ?_
  refine mu_if_ne (tgt := 22) B dX11_field_16 (by decide) (fun c16 => ?_) (fun c16 => ?_)
  · have z16 := mu_bt c16
    refine mu_al_0 B dX11_field_22 ?_
    refine mu_getI B dX11_field_23 fX11_125 rfl (by exact ko) ?_
    rw [hnf]
    refine mu_bipush (v := mI 8) B dX11_field_26 (by decide) ?_
    refine mu_icmp_lt (tgt := 34) B dX11_field_28 (by decide) (fun c28 => ?_) (fun c28 => ?_)
    · try rw [mI_lt ⟨by omega, by omega⟩ ⟨by omega, by omega⟩] at c28
      refine mu_al_0 B dX11_field_34 ?_
      refine mu_getR B dX11_field_35 fX11_45 rfl (by exact ko) (by exact r6) ?_
      refine mu_al_0 B dX11_field_38 ?_
      refine mu_getI B dX11_field_39 fX11_125 rfl (by exact ko) ?_
      rw [hnf]
      refine mu_aald B dX11_field_42 (by exact k13) (by simp) (mI_inN (by omega) (by decide)) (by rw [mI_clampN (by omega)]; exact (hfs nf hex).1) ?_
      refine mu_as_3 B dX11_field_43 (by decide) rfl ?_
      refine mu_al_3 B dX11_field_44 ?_
      refine mu_ifnonnull (tgt := 66) B dX11_field_45 (by decide) ?_
      refine mu_al_3 B dX11_field_66 ?_
      refine mu_al_2 B dX11_field_67 ?_
      refine mu_il_1 B dX11_field_68 ?_
      refine mu_cV2 B dX11_field_69 mX11_135 ⟨⟨by decide, by decide⟩, by decide, by decide⟩ (Nat.le_of_ble_eq_true rfl) (by exact (hfs nf hex).2.2.2.1) (c_X1_begin G (hfs nf hex).2.2.2) (fun r69 w69 q69 => ?_)
      obtain ⟨rfl, q69b⟩ := q69
      have hF9 := q69b.1
      refine mu_al_0 B dX11_field_72 ?_
      refine mu_dup B dX11_field_73 rfl ?_
      refine mu_getI B dX11_field_74 fX11_125 rfl (hF9.kd (by exact ko)) ?_
      rw [hF9.iv (fun hh => by have := (hfs nf hex).2.1; rcases hh with hh | hh | hh <;> omega) (show mu_iv (mu_si (mu_sr w (fa nf) 2 (some (ra i))) (fa nf) 3 (mI (i : Nat))) o 7 = mI nf by rw [mu_iv_oth _ _ (by have := (hfs nf hex).2.1; omega), mu_iv_sr]; exact hnf)]
      refine mu_iconst (v := mI 1) B dX11_field_77 rfl ?_
      refine mu_iadd B dX11_field_78 ?_
      try rw [mI_add]
      refine mu_putI B dX11_field_79 fX11_125 fwX11_7 rfl (hF9.kd (by exact ko)) ?_
      refine mu_al_0 B dX11_field_82 ?_
      refine mu_getI B dX11_field_83 fX11_125 rfl (hF9.kd (by exact ko)) ?_
      rw [mu_iv_same]
      refine mu_iconst (v := mI 1) B dX11_field_86 rfl ?_
      refine mu_isub B dX11_field_87 ?_
      try rw [mI_sub]
      rw [show (nf : Int) + 1 - 1 = ((nf : Nat) : Int) by omega]
      refine mu_iret E rfl (by decide) (by decide) dX11_field_88 ?_
      exact ⟨rfl, w69, ⟨rfl, q69b⟩, rfl⟩
    · try rw [mI_lt ⟨by omega, by omega⟩ ⟨by omega, by omega⟩] at c28
      exfalso
      omega
  · have z16 := mu_bf c16
    exact absurd ⟨hq1, hq2⟩ z16
