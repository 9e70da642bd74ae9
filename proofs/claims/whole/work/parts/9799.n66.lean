/-! ===== the class: clash, found, count, remove, the tape's calls ===== -/
theorem CT.ext {w : mu_W} {t n : Nat} {tp tp' : Nat → Nat} (h : CT w t n tp) (he : ∀ j, j < n → tp j = tp' j) : CT w t n tp' := ⟨h.1, h.2.1, h.2.2.1, ⟨h.2.2.2.1.1, fun j hj => by rw [← he j hj]; exact h.2.2.2.1.2 j hj⟩, h.2.2.2.2.1, fun j hj => by rw [← he j hj]; exact h.2.2.2.2.2 j hj⟩
theorem ct_tape (n : Nat) (tp : Nat → Nat) (a b c d e : Int32) : ∀ j, j < n + 4 + 4 + 4 + 4 + 4 → ct_ap (n + 4 + 4 + 4 + 4) (ct_ap (n + 4 + 4 + 4) (ct_ap (n + 4 + 4) (ct_ap (n + 4) (ct_ap n tp a 4) b 4) c 4) d 4) e 4 j = sp_tape n tp a b c d e j := fun j hj => by
  unfold ct_ap sp_tape sp_fd
  by_cases q0 : j < n
  · simp only [if_pos q0, if_pos (show j < n + 4 by omega), if_pos (show j < n + 4 + 4 by omega), if_pos (show j < n + 4 + 4 + 4 by omega), if_pos (show j < n + 4 + 4 + 4 + 4 by omega)]
  · by_cases q1 : j < n + 4
    · simp only [if_neg q0, if_pos q1, if_pos (show j < n + 4 + 4 by omega), if_pos (show j < n + 4 + 4 + 4 by omega), if_pos (show j < n + 4 + 4 + 4 + 4 by omega), if_pos (show j - n < 4 by omega)]; congr 1; omega
    · by_cases q2 : j < n + 4 + 4
      · simp only [if_neg q0, if_neg q1, if_pos q2, if_pos (show j < n + 4 + 4 + 4 by omega), if_pos (show j < n + 4 + 4 + 4 + 4 by omega), if_neg (show ¬ j - n < 4 by omega), if_pos (show j - n < 8 by omega)]; congr 1; omega
      · by_cases q3 : j < n + 4 + 4 + 4
        · simp only [if_neg q0, if_neg q2, if_pos q3, if_pos (show j < n + 4 + 4 + 4 + 4 by omega), if_neg (show ¬ j - n < 4 by omega), if_neg (show ¬ j - n < 8 by omega), if_pos (show j - n < 12 by omega)]; congr 1; omega
        · by_cases q4 : j < n + 4 + 4 + 4 + 4
          · simp only [if_neg q0, if_neg q3, if_pos q4, if_neg (show ¬ j - n < 4 by omega), if_neg (show ¬ j - n < 8 by omega), if_neg (show ¬ j - n < 12 by omega), if_pos (show j - n < 16 by omega)]; congr 1; omega
          · simp only [if_neg q0, if_neg q4, if_neg (show ¬ j - n < 4 by omega), if_neg (show ¬ j - n < 8 by omega), if_neg (show ¬ j - n < 12 by omega), if_neg (show ¬ j - n < 16 by omega)]; congr 1; omega

set_option maxHeartbeats 4000000 in
set_option maxRecDepth 100000 in
theorem c_X11_clash_n (G : mu_G) {w : mu_W} {o : Nat} (hm : CMo w o) {nr : Nat} {rs : Nat → mu_RS} {ra : Nat → Nat} (hr : CRs w o nr rs ra) {z : Int} (hz : mi_ok z) (hn : ¬ (0 ≤ z ∧ z < nr)) {y : Int32} : mu_Ct G M_X11_clash [.ref o, .int (mI z), .int y] w (fun r w' => r = some (.int (mI (-1))) ∧ w' = w) := by
  obtain ⟨ko, hox, ⟨r0, r1, r2, r3, r4, r6, r8, r10, r11, r12, r13, r14⟩, ⟨k1, k3, k4, kB, k12, k13, k14⟩, kS, kF, kQ, k26, kH⟩ := id hm
  obtain ⟨hn16, hnr, hrs⟩ := id hr
  refine mu_ofWA G M_X11_clash [.ref o, .int (mI z), .int y, mu_no] (by decide) rfl (Nat.le_of_ble_eq_true rfl) ?_
  intro X E
  have B : mu_B X G cX11_clash RX11 4 (mu_rm M_X11_clash) := E.1
  show mu_WA X G 4 _ _ 0 0 0 _ []
  refine mu_al_0 B dX11_clash_0 ?_
  refine mu_il_1 B dX11_clash_1 ?_
  refine mu_eV1 B dX11_clash_2 mX11_117 ⟨⟨by decide, by decide⟩, by decide, by decide⟩ (Nat.le_of_ble_eq_true rfl) (by exact ko) (c_X11_ruleAt_n G hm hr hz hn) ?_
  refine mu_ns_3 B dX11_clash_5 (by decide) rfl ?_
  refine mu_nl_3 B dX11_clash_6 ?_
  refine mu_ifnullN (tgt := 19) B dX11_clash_7 (by decide) ?_
  refine mu_iconst (v := mI (-1)) B dX11_clash_19 rfl ?_
  refine mu_iret E rfl (by decide) (by decide) dX11_clash_20 ?_
  exact ⟨rfl, rfl⟩

set_option maxHeartbeats 4000000 in
set_option maxRecDepth 100000 in
theorem c_X11_clash_y (G : mu_G) {w : mu_W} {o : Nat} (hm : CMo w o) {nr : Nat} {rs : Nat → mu_RS} {ra : Nat → Nat} (hr : CRs w o nr rs ra) {i : Nat} (hi : i < nr) {y : Int} (hy : mi_ok y) : mu_Ct G M_X11_clash [.ref o, .int (mI (i : Nat)), .int (mI y)] w (fun r w' => ((¬ (0 ≤ y ∧ y ≤ 1) → r = some (.int (mI (-1)))) ∧ (0 ≤ y ∧ y ≤ 1 → ((¬ rs_nb (rs i) = 0 ∨ sp_rev (rs_N (rs i)) (rs_be (rs i))) → r = some (.int (mI (-2)))) ∧ (rs_nb (rs i) = 0 → ¬ sp_rev (rs_N (rs i)) (rs_be (rs i)) → ∃ a b : Nat, sp_clash (rs_N (rs i)) (rs_be (rs i)) a b ∧ r = some (.int (mI (if y = 0 then (a : Int) else b)))))) ∧ w' = w) := by
  obtain ⟨ko, hox, ⟨r0, r1, r2, r3, r4, r6, r8, r10, r11, r12, r13, r14⟩, ⟨k1, k3, k4, kB, k12, k13, k14⟩, kS, kF, kQ, k26, kH⟩ := id hm
  obtain ⟨hn16, hnr, hrs⟩ := id hr
  obtain ⟨hy1, hy2⟩ := hy
  obtain ⟨hcl, D, v10, hD, hWn, hWv⟩ := (hrs i hi).2.2.2.2.2.2.2.2.2.2.2.2.2.2.2
  refine mu_ofWA G M_X11_clash [.ref o, .int (mI (i : Nat)), .int (mI y), mu_no] (by decide) rfl (Nat.le_of_ble_eq_true rfl) ?_
  intro X E
  have B : mu_B X G cX11_clash RX11 4 (mu_rm M_X11_clash) := E.1
  show mu_WA X G 4 _ _ 0 0 0 _ []
  refine mu_al_0 B dX11_clash_0 ?_
  refine mu_il_1 B dX11_clash_1 ?_
  refine mu_eV1 B dX11_clash_2 mX11_117 ⟨⟨by decide, by decide⟩, by decide, by decide⟩ (Nat.le_of_ble_eq_true rfl) (by exact ko) (c_X11_ruleAt_y G hm hr hi) ?_
  refine mu_as_3 B dX11_clash_5 (by decide) rfl ?_
  refine mu_al_3 B dX11_clash_6 ?_
  refine mu_ifnull B dX11_clash_7 ?_
  refine mu_il_2 B dX11_clash_10 ?_
  refine mu_if_lt (tgt := 19) B dX11_clash_11 (by decide) (fun c11 => ?_) (fun c11 => ?_)
  · try rw [mI_lt0 ⟨by omega, by omega⟩] at c11
    refine mu_iconst (v := mI (-1)) B dX11_clash_19 rfl ?_
    refine mu_iret E rfl (by decide) (by decide) dX11_clash_20 ?_
    exact ⟨⟨fun _ => rfl, fun h => by omega⟩, rfl⟩
  · try rw [mI_lt0 ⟨by omega, by omega⟩] at c11
    refine mu_il_2 B dX11_clash_14 ?_
    refine mu_iconst (v := mI 1) B dX11_clash_15 rfl ?_
    refine mu_icmp_le (tgt := 21) B dX11_clash_16 (by decide) (fun c16 => ?_) (fun c16 => ?_)
    · try rw [mI_le ⟨by omega, by omega⟩ ⟨by omega, by omega⟩] at c16
      refine mu_al_3 B dX11_clash_21 ?_
      refine mu_eV0 B dX11_clash_22 mX11_273 ⟨⟨by decide, by decide⟩, by decide, by decide⟩ (Nat.le_of_ble_eq_true rfl) (by exact (hrs i hi).2.2.2.1) (c_X4_hasBlocks G (hrs i hi).2.2.2) ?_
      refine mu_if_eq (tgt := 35) B dX11_clash_25 (by decide) (fun c25 => ?_) (fun c25 => ?_)
      · have z25 := mu_bf c25
        refine mu_bipush (v := mI (-2)) B dX11_clash_35 (by decide) ?_
        refine mu_iret E rfl (by decide) (by decide) dX11_clash_37 ?_
        first
          | exact ⟨⟨fun h => by omega, fun _ => ⟨fun _ => rfl, fun h => absurd h z25⟩⟩, rfl⟩
          | exact ⟨⟨fun h => by omega, fun _ => ⟨fun _ => rfl, fun _ h => absurd hrv h⟩⟩, rfl⟩
      · have z25 := mu_bt c25
        refine mu_al_3 B dX11_clash_28 ?_
        refine mu_eV0 B dX11_clash_29 mX11_307 ⟨⟨by decide, by decide⟩, by decide, by decide⟩ (Nat.le_of_ble_eq_true rfl) (by exact (hrs i hi).2.2.2.1) (c_X4_isReversible G (hrs i hi).2.2.2) ?_
        refine mu_if_eq (tgt := 38) B dX11_clash_32 (by decide) (fun c32 => ?_) (fun c32 => ?_)
        · have hrv := rv_f c32
          obtain ⟨lo, hi9, h9, v7, v8⟩ := hcl.resolve_left (fun h => hrv h.1)
          refine mu_il_2 B dX11_clash_38 ?_
          refine mu_if_ne (tgt := 49) B dX11_clash_39 (by decide) (fun c39 => ?_) (fun c39 => ?_)
          · try rw [mI_eq0 ⟨by omega, by omega⟩] at c39
            refine mu_al_3 B dX11_clash_49 ?_
            refine mu_getIN B dX11_clash_50 fX11_313 rfl (by exact (hrs i hi).2.2.2.1) ?_
            rw [v8]
            refine mu_iret E rfl (by decide) (by decide) dX11_clash_53 ?_
            refine ⟨⟨fun h => by omega, fun _ => ⟨fun h => ?_, fun _ _ => ⟨lo, hi9, h9, ?_⟩⟩⟩, rfl⟩
            · rcases h with h | h
              · exact absurd z25 h
              · exact absurd h hrv
            · first
                | rw [if_pos (by omega)]
                | rw [if_neg (by omega)]
          · try rw [mI_eq0 ⟨by omega, by omega⟩] at c39
            refine mu_al_3 B dX11_clash_42 ?_
            refine mu_getIN B dX11_clash_43 fX11_310 rfl (by exact (hrs i hi).2.2.2.1) ?_
            rw [v7]
            refine mu_goto (tgt := 53) B dX11_clash_46 (by decide) ?_
            refine mu_iret E rfl (by decide) (by decide) dX11_clash_53 ?_
            refine ⟨⟨fun h => by omega, fun _ => ⟨fun h => ?_, fun _ _ => ⟨lo, hi9, h9, ?_⟩⟩⟩, rfl⟩
            · rcases h with h | h
              · exact absurd z25 h
              · exact absurd h hrv
            · first
                | rw [if_pos (by omega)]
                | rw [if_neg (by omega)]
        · have hrv := rv_t c32
          refine mu_bipush (v := mI (-2)) B dX11_clash_35 (by decide) ?_
          refine mu_iret E rfl (by decide) (by decide) dX11_clash_37 ?_
          first
            | exact ⟨⟨fun h => by omega, fun _ => ⟨fun _ => rfl, fun h => absurd h z25⟩⟩, rfl⟩
            | exact ⟨⟨fun h => by omega, fun _ => ⟨fun _ => rfl, fun _ h => absurd hrv h⟩⟩, rfl⟩
    · try rw [mI_le ⟨by omega, by omega⟩ ⟨by omega, by omega⟩] at c16
      refine mu_iconst (v := mI (-1)) B dX11_clash_19 rfl ?_
      refine mu_iret E rfl (by decide) (by decide) dX11_clash_20 ?_
      exact ⟨⟨fun _ => rfl, fun h => by omega⟩, rfl⟩

set_option maxHeartbeats 4000000 in
set_option maxRecDepth 100000 in
theorem c_X11_found_n (G : mu_G) {w : mu_W} {o : Nat} (hm : CMo w o) {P : Nat → Prop} (hP : CHt w (o + 27) P) {z : Int} (hz : mi_ok z) (hn : ¬ (0 ≤ z ∧ z < (en_c P 65536 : Nat))) : mu_Ct G M_X11_found [.ref o, .int (mI z)] w (fun r w' => r = some (.int (mI (-1))) ∧ w' = w) := by
  obtain ⟨ko, hox, ⟨r0, r1, r2, r3, r4, r6, r8, r10, r11, r12, r13, r14⟩, ⟨k1, k3, k4, kB, k12, k13, k14⟩, kS, kF, kQ, k26, kH⟩ := id hm
  obtain ⟨hz1, hz2⟩ := hz
  have hen := en_le P 65536
  refine mu_ofWA G M_X11_found [.ref o, .int (mI z)] (by decide) rfl (Nat.le_of_ble_eq_true rfl) ?_
  intro X E
  have B : mu_B X G cX11_found RX11 2 (mu_rm M_X11_found) := E.1
  show mu_WA X G 2 _ _ 0 0 0 _ []
  refine mu_il_1 B dX11_found_0 ?_
  refine mu_if_lt (tgt := 26) B dX11_found_1 (by decide) (fun c1 => ?_) (fun c1 => ?_)
  · try rw [mI_lt0 ⟨by omega, by omega⟩] at c1
    refine mu_iconst (v := mI (-1)) B dX11_found_26 rfl ?_
    refine mu_iret E rfl (by decide) (by decide) dX11_found_27 ?_
    exact ⟨rfl, rfl⟩
  · try rw [mI_lt0 ⟨by omega, by omega⟩] at c1
    refine mu_il_1 B dX11_found_4 ?_
    refine mu_al_0 B dX11_found_5 ?_
    refine mu_getR B dX11_found_6 fX11_84 rfl (by exact ko) (by exact r14) ?_
    refine mu_getIN B dX11_found_9 fX11_264 rfl (by exact kH.1) ?_
    rw [hP.2]
    refine mu_icmp_ge (tgt := 26) B dX11_found_12 (by decide) (fun c12 => ?_) (fun c12 => ?_)
    · try rw [mI_le ⟨by omega, by omega⟩ ⟨by omega, by omega⟩] at c12
      refine mu_iconst (v := mI (-1)) B dX11_found_26 rfl ?_
      refine mu_iret E rfl (by decide) (by decide) dX11_found_27 ?_
      exact ⟨rfl, rfl⟩
    · try rw [mI_le ⟨by omega, by omega⟩ ⟨by omega, by omega⟩] at c12
      exfalso
      omega

set_option maxHeartbeats 4000000 in
set_option maxRecDepth 100000 in
theorem c_X11_found_y (G : mu_G) {w : mu_W} {o : Nat} (hm : CMo w o) {P : Nat → Prop} (hP : CHt w (o + 27) P) {i : Nat} (hi : i < en_c P 65536) : mu_Ct G M_X11_found [.ref o, .int (mI (i : Nat))] w (fun r w' => (∃ j, j < 65536 ∧ P j ∧ en_c P j = i ∧ r = some (.int (mI (j : Nat)))) ∧ w' = w) := by
  obtain ⟨ko, hox, ⟨r0, r1, r2, r3, r4, r6, r8, r10, r11, r12, r13, r14⟩, ⟨k1, k3, k4, kB, k12, k13, k14⟩, kS, kF, kQ, k26, kH⟩ := id hm
  have hen := en_le P 65536
  refine mu_ofWA G M_X11_found [.ref o, .int (mI (i : Nat))] (by decide) rfl (Nat.le_of_ble_eq_true rfl) ?_
  intro X E
  have B : mu_B X G cX11_found RX11 2 (mu_rm M_X11_found) := E.1
  show mu_WA X G 2 _ _ 0 0 0 _ []
  refine mu_il_1 B dX11_found_0 ?_
  refine mu_if_lt (tgt := 26) B dX11_found_1 (by decide) (fun c1 => ?_) (fun c1 => ?_)
  · try rw [mI_lt0 ⟨by omega, by omega⟩] at c1
    exfalso
    omega
  · try rw [mI_lt0 ⟨by omega, by omega⟩] at c1
    refine mu_il_1 B dX11_found_4 ?_
    refine mu_al_0 B dX11_found_5 ?_
    refine mu_getR B dX11_found_6 fX11_84 rfl (by exact ko) (by exact r14) ?_
    refine mu_getIN B dX11_found_9 fX11_264 rfl (by exact kH.1) ?_
    rw [hP.2]
    refine mu_icmp_ge (tgt := 26) B dX11_found_12 (by decide) (fun c12 => ?_) (fun c12 => ?_)
    · try rw [mI_le ⟨by omega, by omega⟩ ⟨by omega, by omega⟩] at c12
      exfalso
      omega
    · try rw [mI_le ⟨by omega, by omega⟩ ⟨by omega, by omega⟩] at c12
      refine mu_al_0 B dX11_found_15 ?_
      refine mu_getR B dX11_found_16 fX11_84 rfl (by exact ko) (by exact r14) ?_
      refine mu_il_1 B dX11_found_19 ?_
      refine mu_cV1 B dX11_found_20 mX11_267 ⟨⟨by decide, by decide⟩, by decide, by decide⟩ (Nat.le_of_ble_eq_true rfl) (by exact kH.1) (c_X7_hitAt G kH hP hi) (fun r20 w20 q20 => ?_)
      obtain ⟨⟨j, j1, j2, j3, rfl⟩, rfl⟩ := q20
      show mu_WA X G 2 _ _ _ _ 23 _ [.int (mI (j : Nat))]
      refine mu_goto (tgt := 27) B dX11_found_23 (by decide) ?_
      refine mu_iret E rfl (by decide) (by decide) dX11_found_27 ?_
      exact ⟨⟨j, j1, j2, j3, rfl⟩, rfl⟩

set_option maxHeartbeats 4000000 in
set_option maxRecDepth 100000 in
theorem c_X11_count (G : mu_G) {w : mu_W} {o : Nat} (hm : CMo w o) {n : Nat} {tp : Nat → Nat} (ht : CT w (o + 1) n tp) {z : Int} (hz : mi_ok z) : mu_Ct G M_X11_count [.ref o, .int (mI z)] w (fun r w' => r = some (.int (if z = 0 then mu_iv w o 5 else if z = 1 then mu_iv w o 7 else if z = 2 then mu_iv w o 9 else if z = 3 then mu_iv w o 15 else if z = 4 then mu_iv w (o + 27) 11 else if z = 5 then mI n else mI (-1))) ∧ w' = w) := by
  obtain ⟨ko, hox, ⟨r0, r1, r2, r3, r4, r6, r8, r10, r11, r12, r13, r14⟩, ⟨k1, k3, k4, kB, k12, k13, k14⟩, kS, kF, kQ, k26, kH⟩ := id hm
  obtain ⟨hz1, hz2⟩ := hz
  refine mu_ofWA G M_X11_count [.ref o, .int (mI z)] (by decide) rfl (Nat.le_of_ble_eq_true rfl) ?_
  intro X E
  have B : mu_B X G cX11_count RX11 2 (mu_rm M_X11_count) := E.1
  show mu_WA X G 2 _ _ 0 0 0 _ []
  refine mu_il_1 B dX11_count_0 ?_
  by_cases t1_0 : z = 0
  · rw [t1_0]
    refine mu_tabIn (tgt := 40) (off := 39) B dX11_count_1 (by decide) (by decide) (by decide) (by decide) ?_
    refine mu_al_0 B dX11_count_40 ?_
    refine mu_getI B dX11_count_41 fX11_102 rfl (by exact ko) ?_
    refine mu_iret E rfl (by decide) (by decide) dX11_count_44 ?_
    refine ⟨?_, rfl⟩
    simp [*]
  by_cases t1_1 : z = 1
  · rw [t1_1]
    refine mu_tabIn (tgt := 45) (off := 44) B dX11_count_1 (by decide) (by decide) (by decide) (by decide) ?_
    refine mu_al_0 B dX11_count_45 ?_
    refine mu_getI B dX11_count_46 fX11_125 rfl (by exact ko) ?_
    refine mu_iret E rfl (by decide) (by decide) dX11_count_49 ?_
    refine ⟨?_, rfl⟩
    simp [*]
  by_cases t1_2 : z = 2
  · rw [t1_2]
    refine mu_tabIn (tgt := 50) (off := 49) B dX11_count_1 (by decide) (by decide) (by decide) (by decide) ?_
    refine mu_al_0 B dX11_count_50 ?_
    refine mu_getI B dX11_count_51 fX11_128 rfl (by exact ko) ?_
    refine mu_iret E rfl (by decide) (by decide) dX11_count_54 ?_
    refine ⟨?_, rfl⟩
    simp [*]
  by_cases t1_3 : z = 3
  · rw [t1_3]
    refine mu_tabIn (tgt := 55) (off := 54) B dX11_count_1 (by decide) (by decide) (by decide) (by decide) ?_
    refine mu_al_0 B dX11_count_55 ?_
    refine mu_getI B dX11_count_56 fX11_245 rfl (by exact ko) ?_
    refine mu_iret E rfl (by decide) (by decide) dX11_count_59 ?_
    refine ⟨?_, rfl⟩
    simp [*]
  by_cases t1_4 : z = 4
  · rw [t1_4]
    refine mu_tabIn (tgt := 60) (off := 59) B dX11_count_1 (by decide) (by decide) (by decide) (by decide) ?_
    refine mu_al_0 B dX11_count_60 ?_
    refine mu_getR B dX11_count_61 fX11_84 rfl (by exact ko) (by exact r14) ?_
    refine mu_getIN B dX11_count_64 fX11_264 rfl (by exact kH.1) ?_
    refine mu_iret E rfl (by decide) (by decide) dX11_count_67 ?_
    refine ⟨?_, rfl⟩
    simp [*]
  by_cases t1_5 : z = 5
  · rw [t1_5]
    refine mu_tabIn (tgt := 68) (off := 67) B dX11_count_1 (by decide) (by decide) (by decide) (by decide) ?_
    refine mu_al_0 B dX11_count_68 ?_
    refine mu_getR B dX11_count_69 fX11_10 rfl (by exact ko) (by exact r0) ?_
    refine mu_eV0 B dX11_count_72 mX11_88 ⟨⟨by decide, by decide⟩, by decide, by decide⟩ (Nat.le_of_ble_eq_true rfl) (by exact k1) (c_X10_size G ht) ?_
    refine mu_iret E rfl (by decide) (by decide) dX11_count_75 ?_
    refine ⟨?_, rfl⟩
    simp [*]
  refine mu_tabOut (tgt := 76) B dX11_count_1 (by rw [mI_toInt ⟨by omega, by omega⟩]; omega) (by decide) ?_
  refine mu_iconst (v := mI (-1)) B dX11_count_76 rfl ?_
  refine mu_iret E rfl (by decide) (by decide) dX11_count_77 ?_
  refine ⟨?_, rfl⟩
  simp [*]

set_option maxHeartbeats 4000000 in
set_option maxRecDepth 100000 in
theorem c_X11_remove (G : mu_G) {w : mu_W} {o : Nat} (hm : CMo w o) {nf ng : Nat} (hf : mu_iv w o 7 = mI nf) (hg : mu_iv w o 9 = mI ng) (hf2 : nf ≤ 8) (hg2 : ng ≤ 8) {z : Int} (hz : mi_ok z) : mu_Ct G M_X11_remove [.ref o, .int (mI z)] w (fun r w' => if z = 1 then (if nf = 0 then r = some (.int (mI (-2))) ∧ w' = w else r = some (.int (mI ((nf : Int) - 1))) ∧ w' = mu_si w o 7 (mI ((nf : Int) - 1))) else if z = 2 then (if ng = 0 then r = some (.int (mI (-2))) ∧ w' = w else r = some (.int (mI ((ng : Int) - 1))) ∧ w' = mu_si w o 9 (mI ((ng : Int) - 1))) else r = some (.int (mI (-1))) ∧ w' = w) := by
  obtain ⟨ko, hox, ⟨r0, r1, r2, r3, r4, r6, r8, r10, r11, r12, r13, r14⟩, ⟨k1, k3, k4, kB, k12, k13, k14⟩, kS, kF, kQ, k26, kH⟩ := id hm
  obtain ⟨hz1, hz2⟩ := hz
  refine mu_ofWA G M_X11_remove [.ref o, .int (mI z)] (by decide) rfl (Nat.le_of_ble_eq_true rfl) ?_
  intro X E
  have B : mu_B X G cX11_remove RX11 2 (mu_rm M_X11_remove) := E.1
  show mu_WA X G 2 _ _ 0 0 0 _ []
  refine mu_il_1 B dX11_remove_0 ?_
  refine mu_iconst (v := mI 1) B dX11_remove_1 rfl ?_
  refine mu_icmp_ne (tgt := 30) B dX11_remove_2 (by decide) (fun c2 => ?_) (fun c2 => ?_)
  · try rw [mI_eq ⟨by omega, by omega⟩ ⟨by omega, by omega⟩] at c2
    refine mu_il_1 B dX11_remove_30 ?_
    refine mu_iconst (v := mI 2) B dX11_remove_31 rfl ?_
    refine mu_icmp_ne (tgt := 60) B dX11_remove_32 (by decide) (fun c32 => ?_) (fun c32 => ?_)
    · try rw [mI_eq ⟨by omega, by omega⟩ ⟨by omega, by omega⟩] at c32
      refine mu_iconst (v := mI (-1)) B dX11_remove_60 rfl ?_
      refine mu_iret E rfl (by decide) (by decide) dX11_remove_61 ?_
      rw [if_neg (by omega), if_neg (by omega)]
      exact ⟨rfl, rfl⟩
    · try rw [mI_eq ⟨by omega, by omega⟩ ⟨by omega, by omega⟩] at c32
      refine mu_al_0 B dX11_remove_35 ?_
      refine mu_getI B dX11_remove_36 fX11_128 rfl (by exact ko) ?_
      rw [hg]
      refine mu_if_ne (tgt := 45) B dX11_remove_39 (by decide) (fun c39 => ?_) (fun c39 => ?_)
      · try rw [mI_eq0 ⟨by omega, by omega⟩] at c39
        refine mu_al_0 B dX11_remove_45 ?_
        refine mu_dup B dX11_remove_46 rfl ?_
        refine mu_getI B dX11_remove_47 fX11_128 rfl (by exact ko) ?_
        rw [hg]
        refine mu_iconst (v := mI 1) B dX11_remove_50 rfl ?_
        refine mu_isub B dX11_remove_51 ?_
        try rw [mI_sub]
        refine mu_putI B dX11_remove_52 fX11_128 fwX11_9 rfl (by exact ko) ?_
        refine mu_al_0 B dX11_remove_55 ?_
        refine mu_getI B dX11_remove_56 fX11_128 rfl (by exact ko) ?_
        rw [mu_iv_same]
        refine mu_iret E rfl (by decide) (by decide) dX11_remove_59 ?_
        rw [if_neg (by omega), if_pos (by omega), if_neg (by omega)]
        exact ⟨rfl, rfl⟩
      · try rw [mI_eq0 ⟨by omega, by omega⟩] at c39
        refine mu_bipush (v := mI (-2)) B dX11_remove_42 (by decide) ?_
        refine mu_iret E rfl (by decide) (by decide) dX11_remove_44 ?_
        rw [if_neg (by omega), if_pos (by omega), if_pos (by omega)]
        exact ⟨rfl, rfl⟩
  · try rw [mI_eq ⟨by omega, by omega⟩ ⟨by omega, by omega⟩] at c2
    refine mu_al_0 B dX11_remove_5 ?_
    refine mu_getI B dX11_remove_6 fX11_125 rfl (by exact ko) ?_
    rw [hf]
    refine mu_if_ne (tgt := 15) B dX11_remove_9 (by decide) (fun c9 => ?_) (fun c9 => ?_)
    · try rw [mI_eq0 ⟨by omega, by omega⟩] at c9
      refine mu_al_0 B dX11_remove_15 ?_
      refine mu_dup B dX11_remove_16 rfl ?_
      refine mu_getI B dX11_remove_17 fX11_125 rfl (by exact ko) ?_
      rw [hf]
      refine mu_iconst (v := mI 1) B dX11_remove_20 rfl ?_
      refine mu_isub B dX11_remove_21 ?_
      try rw [mI_sub]
      refine mu_putI B dX11_remove_22 fX11_125 fwX11_7 rfl (by exact ko) ?_
      refine mu_al_0 B dX11_remove_25 ?_
      refine mu_getI B dX11_remove_26 fX11_125 rfl (by exact ko) ?_
      rw [mu_iv_same]
      refine mu_iret E rfl (by decide) (by decide) dX11_remove_29 ?_
      rw [if_pos (by omega), if_neg (by omega)]
      exact ⟨rfl, rfl⟩
    · try rw [mI_eq0 ⟨by omega, by omega⟩] at c9
      refine mu_bipush (v := mI (-2)) B dX11_remove_12 (by decide) ?_
      refine mu_iret E rfl (by decide) (by decide) dX11_remove_14 ?_
      rw [if_pos (by omega), if_pos (by omega)]
      exact ⟨rfl, rfl⟩

set_option maxHeartbeats 4000000 in
set_option maxRecDepth 100000 in
theorem c_X11_end (G : mu_G) {w : mu_W} {o : Nat} (hm : CMo w o) {n : Nat} {tp : Nat → Nat} (ht : CT w (o + 1) n tp) {z : Int} (hz : mi_ok z) : mu_Ct G M_X11_end [.ref o, .int (mI z)] w (fun r w' => r = some (.int (if 0 ≤ z ∧ z ≤ n then mI z else mI (-1))) ∧ mu_Fi (ap_S (o + 1)) w w' ∧ CT w' (o + 1) (if 0 ≤ z ∧ z ≤ n then z.toNat else n) tp) := by
  obtain ⟨ko, hox, ⟨r0, r1, r2, r3, r4, r6, r8, r10, r11, r12, r13, r14⟩, ⟨k1, k3, k4, kB, k12, k13, k14⟩, kS, kF, kQ, k26, kH⟩ := id hm
  obtain ⟨hz1, hz2⟩ := hz
  have hn2 := ht.2.2.2.1.1
  refine mu_ofWA G M_X11_end [.ref o, .int (mI z)] (by decide) rfl (Nat.le_of_ble_eq_true rfl) ?_
  intro X E
  have B : mu_B X G cX11_end RX11 2 (mu_rm M_X11_end) := E.1
  show mu_WA X G 2 _ _ 0 0 0 _ []
  refine mu_il_1 B dX11_end_0 ?_
  refine mu_if_lt (tgt := 15) B dX11_end_1 (by decide) (fun c1 => ?_) (fun c1 => ?_)
  · try rw [mI_lt0 ⟨by omega, by omega⟩] at c1
    refine mu_iconst (v := mI (-1)) B dX11_end_15 rfl ?_
    refine mu_iret E rfl (by decide) (by decide) dX11_end_16 ?_
    rw [if_neg (by omega), if_neg (by omega)]
    exact ⟨rfl, mu_Fi.refl _, ht⟩
  · try rw [mI_lt0 ⟨by omega, by omega⟩] at c1
    refine mu_il_1 B dX11_end_4 ?_
    refine mu_al_0 B dX11_end_5 ?_
    refine mu_getR B dX11_end_6 fX11_10 rfl (by exact ko) (by exact r0) ?_
    refine mu_eV0 B dX11_end_9 mX11_88 ⟨⟨by decide, by decide⟩, by decide, by decide⟩ (Nat.le_of_ble_eq_true rfl) (by exact k1) (c_X10_size G ht) ?_
    refine mu_icmp_le (tgt := 17) B dX11_end_12 (by decide) (fun c12 => ?_) (fun c12 => ?_)
    · try rw [mI_le ⟨by omega, by omega⟩ ⟨by omega, by omega⟩] at c12
      refine mu_al_0 B dX11_end_17 ?_
      refine mu_getR B dX11_end_18 fX11_10 rfl (by exact ko) (by exact r0) ?_
      refine mu_il_1 B dX11_end_21 ?_
      refine mu_cV1 B dX11_end_22 mX11_96 ⟨⟨by decide, by decide⟩, by decide, by decide⟩ (Nat.le_of_ble_eq_true rfl) (by exact k1) (c_X10_keep G ht (z := z) ⟨by omega, by omega⟩) (fun r22 w22 q22 => ?_)
      obtain ⟨rfl, rfl⟩ := q22
      refine mu_il_1 B dX11_end_25 ?_
      refine mu_iret E rfl (by decide) (by decide) dX11_end_26 ?_
      have hzn : 0 ≤ z ∧ z ≤ (n : Int) := ⟨by omega, by omega⟩
      simp only [if_pos hzn]
      obtain ⟨t1, t2, t3, t4, t5, t6⟩ := id ht
      by_cases e9 : 0 ≤ z ∧ z < n
      · rw [if_pos e9]
        refine ⟨trivial, (mu_Fi.refl _).si (Or.inl ⟨rfl, rfl⟩), t1, t2, t3, ⟨by have := t4.1; omega, fun j hj => t4.2 j (by omega)⟩, by rw [mu_iv_same, Int.toNat_of_nonneg (by omega)], fun j hj => by rw [mu_iv_oth _ _ (by omega)]; exact t6 j (by omega)⟩
      · rw [if_neg e9, show z.toNat = n by omega]
        exact ⟨trivial, mu_Fi.refl _, ht⟩
    · try rw [mI_le ⟨by omega, by omega⟩ ⟨by omega, by omega⟩] at c12
      refine mu_iconst (v := mI (-1)) B dX11_end_15 rfl ?_
      refine mu_iret E rfl (by decide) (by decide) dX11_end_16 ?_
      rw [if_neg (by omega), if_neg (by omega)]
      exact ⟨rfl, mu_Fi.refl _, ht⟩

set_option maxHeartbeats 4000000 in
set_option maxRecDepth 100000 in
theorem c_X11_feed (G : mu_G) {w : mu_W} {o : Nat} (hm : CMo w o) {n : Nat} {tp : Nat → Nat} (ht : CT w (o + 1) n tp) {a b c d e : Int32} : mu_Ct G M_X11_feed [.ref o, .int a, .int b, .int c, .int d, .int e] w (fun r w' => if n + 20 ≤ 2000 then r = some (.int (mI ((n + 20 : Nat) : Int))) ∧ CT w' (o + 1) (n + 20) (sp_tape n tp a b c d e) ∧ mu_Fi (ap_S (o + 1)) w w' else r = some (.int (mI (-3))) ∧ w' = w) := by
  obtain ⟨ko, hox, ⟨r0, r1, r2, r3, r4, r6, r8, r10, r11, r12, r13, r14⟩, ⟨k1, k3, k4, kB, k12, k13, k14⟩, kS, kF, kQ, k26, kH⟩ := id hm
  have hn2 := ht.2.2.2.1.1
  refine mu_ofWA G M_X11_feed [.ref o, .int a, .int b, .int c, .int d, .int e] (by decide) rfl (Nat.le_of_ble_eq_true rfl) ?_
  intro X E
  have B : mu_B X G cX11_feed RX11 6 (mu_rm M_X11_feed) := E.1
  show mu_WA X G 6 _ _ 0 0 0 _ []
  refine mu_al_0 B dX11_feed_0 ?_
  refine mu_getR B dX11_feed_1 fX11_10 rfl (by exact ko) (by exact r0) ?_
  refine mu_eV0 B dX11_feed_4 mX11_88 ⟨⟨by decide, by decide⟩, by decide, by decide⟩ (Nat.le_of_ble_eq_true rfl) (by exact k1) (c_X10_size G ht) ?_
  refine mu_bipush (v := mI 20) B dX11_feed_7 (by decide) ?_
  refine mu_iadd B dX11_feed_9 ?_
  try rw [mI_add]
  refine mu_sipush (v := mI 2000) B dX11_feed_10 (by decide) ?_
  refine mu_icmp_le (tgt := 19) B dX11_feed_13 (by decide) (fun c13 => ?_) (fun c13 => ?_)
  · try rw [mI_le ⟨by omega, by omega⟩ ⟨by omega, by omega⟩] at c13
    refine mu_al_0 B dX11_feed_19 ?_
    refine mu_getR B dX11_feed_20 fX11_10 rfl (by exact ko) (by exact r0) ?_
    refine mu_il_1 B dX11_feed_23 ?_
    refine mu_cV1 B dX11_feed_24 mX11_92 ⟨⟨by decide, by decide⟩, by decide, by decide⟩ (Nat.le_of_ble_eq_true rfl) (by exact k1) (c_X10_append G ht (by omega)) (fun r24 w24 q24 => ?_)
    obtain ⟨rfl, hF1, hT1⟩ := q24
    refine mu_al_0 B dX11_feed_27 ?_
    refine mu_getR B dX11_feed_28 fX11_10 rfl (hF1.kd ko) (hF1.rv r0) ?_
    refine mu_il_2 B dX11_feed_31 ?_
    refine mu_cV1 B dX11_feed_32 mX11_92 ⟨⟨by decide, by decide⟩, by decide, by decide⟩ (Nat.le_of_ble_eq_true rfl) (by exact (hF1.kd k1)) (c_X10_append G hT1 (by omega)) (fun r32 w32 q32 => ?_)
    obtain ⟨rfl, hF2, hT2⟩ := q32
    replace hF2 := hF1.trans hF2
    refine mu_al_0 B dX11_feed_35 ?_
    refine mu_getR B dX11_feed_36 fX11_10 rfl (hF2.kd ko) (hF2.rv r0) ?_
    refine mu_il_3 B dX11_feed_39 ?_
    refine mu_cV1 B dX11_feed_40 mX11_92 ⟨⟨by decide, by decide⟩, by decide, by decide⟩ (Nat.le_of_ble_eq_true rfl) (by exact (hF2.kd k1)) (c_X10_append G hT2 (by omega)) (fun r40 w40 q40 => ?_)
    obtain ⟨rfl, hF3, hT3⟩ := q40
    replace hF3 := hF2.trans hF3
    refine mu_al_0 B dX11_feed_43 ?_
    refine mu_getR B dX11_feed_44 fX11_10 rfl (hF3.kd ko) (hF3.rv r0) ?_
    refine mu_il_4 B dX11_feed_47 ?_
    refine mu_cV1 B dX11_feed_49 mX11_92 ⟨⟨by decide, by decide⟩, by decide, by decide⟩ (Nat.le_of_ble_eq_true rfl) (by exact (hF3.kd k1)) (c_X10_append G hT3 (by omega)) (fun r49 w49 q49 => ?_)
    obtain ⟨rfl, hF4, hT4⟩ := q49
    replace hF4 := hF3.trans hF4
    refine mu_al_0 B dX11_feed_52 ?_
    refine mu_getR B dX11_feed_53 fX11_10 rfl (hF4.kd ko) (hF4.rv r0) ?_
    refine mu_il_5 B dX11_feed_56 ?_
    refine mu_cV1 B dX11_feed_58 mX11_92 ⟨⟨by decide, by decide⟩, by decide, by decide⟩ (Nat.le_of_ble_eq_true rfl) (by exact (hF4.kd k1)) (c_X10_append G hT4 (by omega)) (fun r58 w58 q58 => ?_)
    obtain ⟨rfl, hF5, hT5⟩ := q58
    replace hF5 := hF4.trans hF5
    refine mu_al_0 B dX11_feed_61 ?_
    refine mu_getR B dX11_feed_62 fX11_10 rfl (hF5.kd ko) (hF5.rv r0) ?_
    refine mu_eV0 B dX11_feed_65 mX11_88 ⟨⟨by decide, by decide⟩, by decide, by decide⟩ (Nat.le_of_ble_eq_true rfl) (hF5.kd k1) (c_X10_size G hT5) ?_
    refine mu_iret E rfl (by decide) (by decide) dX11_feed_68 ?_
    rw [if_pos (by omega)]
    refine ⟨rfl, hT5.ext (ct_tape n tp a b c d e), hF5⟩
  · try rw [mI_le ⟨by omega, by omega⟩ ⟨by omega, by omega⟩] at c13
    refine mu_bipush (v := mI (-3)) B dX11_feed_16 (by decide) ?_
    refine mu_iret E rfl (by decide) (by decide) dX11_feed_18 ?_
    rw [if_neg (by omega)]
    exact ⟨rfl, rfl⟩
