/-! ===== the law: its loop, its start ===== -/
set_option maxHeartbeats 4000000 in
set_option maxRecDepth 100000 in
theorem law_loop {X : mu_X} {G : mu_G} {Qf : State → Prop} {b L : Nat} {xs : Nat → Int32} (B : mu_B X G cL_law RL 4 room_1) (hX : va_X b L xs X.2.2.2.2.1 X.2.2.2.2.1.heap) (hbl : b < X.2.2.2.2.1.heap.size) (hbA : ¬ mu_A G b) (hL : L ≤ 3072) (hEnd : ∀ (w : mu_W) (kc ks : Nat) (lv : List Value), kc ≤ room_1.cells → ks ≤ room_1.slots → mu_WA X G 4 Qf w kc ks 1356 lv [.int (mI 1)]) {o : Nat} : ∀ (f j : Nat) (w : mu_W) (n : Nat) (tp : Nat → Nat) (nr : Nat) (rs : Nat → mu_RS) (nf : Nat) (fs : Nat → mu_FS) (ng : Nat) (gs : Nat → mu_GS) (sr : Nat) (P : Nat → Prop) (sx sy : Int32), L < 6 * j + 6 * f → 6 * j ≤ L → CST w o n tp nr rs nf fs ng gs sr P sx sy → MST w (o + 35) n tp nr rs nf fs ng gs sr P sx sy → GB ng gs (1000 * j) → mu_WA X G 4 Qf w (72 + 5 * j) (1086909 + 2539 * j) 18 [.ref b, .ref o, .ref (o + 35), .int (mI ((6 * j : Nat) : Int))] []
  | 0, j, w, n, tp, nr, rs, nf, fs, ng, gs, sr, P, sx, sy, h1, h2, _, _, _ => by omega
  | f + 1, j, w, n, tp, nr, rs, nf, fs, ng, gs, sr, P, sx, sy, h1, h2, hC, hM, hB => by
    have hk1 : 72 + 5 * j + 5 ≤ room_1.cells := by show _ ≤ 600000; omega
    have hk2 : 1086909 + 2539 * j + 2539 ≤ room_1.slots := by show _ ≤ 7302250; omega
    refine mu_il_3 B dL_law_18 ?_
    refine mu_al_0 B dL_law_19 ?_
    refine mu_slen B hX hbl hbA dL_law_20 ?_
    refine mu_bipush (v := mI 6) B dL_law_21 (by decide) ?_
    refine mu_isub B dL_law_23 ?_
    rw [mI_sub]
    refine mu_icmp_gt (tgt := 1355) B dL_law_24 (by decide) (fun h => ?_) (fun h => ?_)
    · refine mu_iconst (v := mI 1) B dL_law_1355 rfl ?_
      exact hEnd _ _ _ _ (Nat.le_trans (Nat.le_add_right _ _) hk1) (Nat.le_trans (Nat.le_add_right _ _) hk2)
    · rw [mI_lt ⟨by omega, by omega⟩ ⟨by omega, by omega⟩] at h
      have hi : 6 * j + 6 ≤ L := by omega
      have hN : 1000 * j ≤ 999000 := by omega
      refine mu_al_0 B dL_law_27 ?_
      refine mu_il_3 B dL_law_28 ?_
      refine mu_sld B hX hbl hbA dL_law_29 (mI_inN (by omega) (by omega)) ?_
      refine mu_bipush (v := mI 63) B dL_law_30 (by decide) ?_
      refine mu_iand B dL_law_32 ?_
      obtain ⟨c, hc, e⟩ := and63 (xs (mI ((6 * j : Nat) : Int)).toNatClampNeg)
      rw [e]
      have K : ∀ (w' : mu_W) (n' : Nat) (tp' : Nat → Nat) (nr' : Nat) (rs' : Nat → mu_RS) (nf' : Nat) (fs' : Nat → mu_FS) (ng' : Nat) (gs' : Nat → mu_GS) (sr' : Nat) (P' : Nat → Prop) (sx' sy' : Int32), CST w' o n' tp' nr' rs' nf' fs' ng' gs' sr' P' sx' sy' → MST w' (o + 35) n' tp' nr' rs' nf' fs' ng' gs' sr' P' sx' sy' → GB ng' gs' (1000 * j + 1000) → mu_WA X G 4 Qf w' (72 + 5 * j + 5) (1086909 + 2539 * j + 2539) 1349 [.ref b, .ref o, .ref (o + 35), .int (mI ((6 * j : Nat) : Int))] [] := fun w' n' tp' nr' rs' nf' fs' ng' gs' sr' P' sx' sy' hC' hM' hB' => by
        refine mu_inc_3 (c := mI 6) B dL_law_1349 rfl (by decide) rfl ?_
        try rw [mI_add]
        refine mu_goto (tgt := 18) B dL_law_1352 (by decide) ?_
        refine mu_wd (k' := 72 + 5 * (j + 1)) (n' := 1086909 + 2539 * (j + 1)) (by omega) (by omega) ?_
        rw [show ((6 * j : Nat) : Int) + 6 = ((6 * (j + 1) : Nat) : Int) by omega]
        exact law_loop B hX hbl hbA hL hEnd f (j + 1) w' n' tp' nr' rs' nf' fs' ng' gs' sr' P' sx' sy' (by omega) (by omega) hC' hM' (by rw [show 1000 * (j + 1) = 1000 * j + 1000 by omega]; exact hB')
      by_cases t0 : c = 0
      · rw [t0]
        refine mu_tabIn (tgt := 180) (off := 147) B dL_law_33 (by decide) (by decide) (by decide) (by decide) ?_
        exact lc_feed B hX hbl hbA hL hC hM hB hN hi hk1 hk2 K
      by_cases t1 : c = 1
      · rw [t1]
        refine mu_tabIn (tgt := 243) (off := 210) B dL_law_33 (by decide) (by decide) (by decide) (by decide) ?_
        exact lc_end B hX hbl hbA hL hC hM hB hN hi hk1 hk2 K
      by_cases t2 : c = 2
      · rw [t2]
        refine mu_tabIn (tgt := 266) (off := 233) B dL_law_33 (by decide) (by decide) (by decide) (by decide) ?_
        exact lc_rule B hX hbl hbA hL hC hM hB hN hi hk1 hk2 K
      by_cases t3 : c = 3
      · rw [t3]
        refine mu_tabIn (tgt := 279) (off := 246) B dL_law_33 (by decide) (by decide) (by decide) (by decide) ?_
        exact lc_ruleByte B hX hbl hbA hL hC hM hB hN hi hk1 hk2 K
      by_cases t4 : c = 4
      · rw [t4]
        refine mu_tabIn (tgt := 312) (off := 279) B dL_law_33 (by decide) (by decide) (by decide) (by decide) ?_
        exact lc_field B hX hbl hbA hL hC hM hB hN hi hk1 hk2 K
      by_cases t5 : c = 5
      · rw [t5]
        refine mu_tabIn (tgt := 335) (off := 302) B dL_law_33 (by decide) (by decide) (by decide) (by decide) ?_
        exact lc_put B hX hbl hbA hL hC hM hB hN hi hk1 hk2 K
      by_cases t6 : c = 6
      · rw [t6]
        refine mu_tabIn (tgt := 388) (off := 355) B dL_law_33 (by decide) (by decide) (by decide) (by decide) ?_
        exact lc_at B hX hbl hbA hL hC hM hB hN hi hk1 hk2 K
      by_cases t7 : c = 7
      · rw [t7]
        refine mu_tabIn (tgt := 431) (off := 398) B dL_law_33 (by decide) (by decide) (by decide) (by decide) ?_
        exact lc_read B hX hbl hbA hL hC hM hB hN hi hk1 hk2 K
      by_cases t8 : c = 8
      · rw [t8]
        refine mu_tabIn (tgt := 474) (off := 441) B dL_law_33 (by decide) (by decide) (by decide) (by decide) ?_
        exact lc_textByte B hX hbl hbA hL hC hM hB hN hi hk1 hk2 K
      by_cases t9 : c = 9
      · rw [t9]
        refine mu_tabIn (tgt := 507) (off := 474) B dL_law_33 (by decide) (by decide) (by decide) (by decide) ?_
        exact lc_steps B hX hbl hbA hL hC hM hB hN hi hk1 hk2 K
      by_cases t10 : c = 10
      · rw [t10]
        refine mu_tabIn (tgt := 540) (off := 507) B dL_law_33 (by decide) (by decide) (by decide) (by decide) ?_
        exact lc_jump B hX hbl hbA hL hC hM hB hN hi hk1 hk2 K
      by_cases t11 : c = 11
      · rw [t11]
        refine mu_tabIn (tgt := 573) (off := 540) B dL_law_33 (by decide) (by decide) (by decide) (by decide) ?_
        exact lc_about B hX hbl hbA hL hC hM hB hN hi hk1 hk2 K
      by_cases t12 : c = 12
      · rw [t12]
        refine mu_tabIn (tgt := 606) (off := 573) B dL_law_33 (by decide) (by decide) (by decide) (by decide) ?_
        exact lc_period B hX hbl hbA hL hC hM hB hN hi hk1 hk2 K
      by_cases t13 : c = 13
      · rw [t13]
        refine mu_tabIn (tgt := 639) (off := 606) B dL_law_33 (by decide) (by decide) (by decide) (by decide) ?_
        exact lc_shift B hX hbl hbA hL hC hM hB hN hi hk1 hk2 K
      by_cases t14 : c = 14
      · rw [t14]
        refine mu_tabIn (tgt := 662) (off := 629) B dL_law_33 (by decide) (by decide) (by decide) (by decide) ?_
        exact lc_congruent B hX hbl hbA hL hC hM hB hN hi hk1 hk2 K
      by_cases t15 : c = 15
      · rw [t15]
        refine mu_tabIn (tgt := 695) (off := 662) B dL_law_33 (by decide) (by decide) (by decide) (by decide) ?_
        exact lc_empty B hX hbl hbA hL hC hM hB hN hi hk1 hk2 K
      by_cases t16 : c = 16
      · rw [t16]
        refine mu_tabIn (tgt := 718) (off := 685) B dL_law_33 (by decide) (by decide) (by decide) (by decide) ?_
        exact lc_still B hX hbl hbA hL hC hM hB hN hi hk1 hk2 K
      by_cases t17 : c = 17
      · rw [t17]
        refine mu_tabIn (tgt := 761) (off := 728) B dL_law_33 (by decide) (by decide) (by decide) (by decide) ?_
        exact lc_oscillators B hX hbl hbA hL hC hM hB hN hi hk1 hk2 K
      by_cases t18 : c = 18
      · rw [t18]
        refine mu_tabIn (tgt := 814) (off := 781) B dL_law_33 (by decide) (by decide) (by decide) (by decide) ?_
        exact lc_ancestors B hX hbl hbA hL hC hM hB hN hi hk1 hk2 K
      by_cases t19 : c = 19
      · rw [t19]
        refine mu_tabIn (tgt := 867) (off := 834) B dL_law_33 (by decide) (by decide) (by decide) (by decide) ?_
        exact lc_garden B hX hbl hbA hL hC hM hB hN hi hk1 hk2 K
      by_cases t20 : c = 20
      · rw [t20]
        refine mu_tabIn (tgt := 910) (off := 877) B dL_law_33 (by decide) (by decide) (by decide) (by decide) ?_
        exact lc_found B hX hbl hbA hL hC hM hB hN hi hk1 hk2 K
      by_cases t21 : c = 21
      · rw [t21]
        refine mu_tabIn (tgt := 933) (off := 900) B dL_law_33 (by decide) (by decide) (by decide) (by decide) ?_
        exact lc_grid B hX hbl hbA hL hC hM hB hN hi hk1 hk2 K
      by_cases t22 : c = 22
      · rw [t22]
        refine mu_tabIn (tgt := 976) (off := 943) B dL_law_33 (by decide) (by decide) (by decide) (by decide) ?_
        exact lc_set B hX hbl hbA hL hC hM hB hN hi hk1 hk2 K
      by_cases t23 : c = 23
      · rw [t23]
        refine mu_tabIn (tgt := 1029) (off := 996) B dL_law_33 (by decide) (by decide) (by decide) (by decide) ?_
        exact lc_cell B hX hbl hbA hL hC hM hB hN hi hk1 hk2 K
      by_cases t24 : c = 24
      · rw [t24]
        refine mu_tabIn (tgt := 1072) (off := 1039) B dL_law_33 (by decide) (by decide) (by decide) (by decide) ?_
        exact lc_fill B hX hbl hbA hL hC hM hB hN hi hk1 hk2 K
      by_cases t25 : c = 25
      · rw [t25]
        refine mu_tabIn (tgt := 1115) (off := 1082) B dL_law_33 (by decide) (by decide) (by decide) (by decide) ?_
        exact lc_go B hX hbl hbA hL hC hM hB hN hi hk1 hk2 K
      by_cases t26 : c = 26
      · rw [t26]
        refine mu_tabIn (tgt := 1148) (off := 1115) B dL_law_33 (by decide) (by decide) (by decide) (by decide) ?_
        exact lc_amount B hX hbl hbA hL hC hM hB hN hi hk1 hk2 K
      by_cases t27 : c = 27
      · rw [t27]
        refine mu_tabIn (tgt := 1181) (off := 1148) B dL_law_33 (by decide) (by decide) (by decide) (by decide) ?_
        exact lc_reversible B hX hbl hbA hL hC hM hB hN hi hk1 hk2 K
      by_cases t28 : c = 28
      · rw [t28]
        refine mu_tabIn (tgt := 1204) (off := 1171) B dL_law_33 (by decide) (by decide) (by decide) (by decide) ?_
        exact lc_clash B hX hbl hbA hL hC hM hB hN hi hk1 hk2 K
      by_cases t29 : c = 29
      · rw [t29]
        refine mu_tabIn (tgt := 1237) (off := 1204) B dL_law_33 (by decide) (by decide) (by decide) (by decide) ?_
        exact lc_weights B hX hbl hbA hL hC hM hB hN hi hk1 hk2 K
      by_cases t30 : c = 30
      · rw [t30]
        refine mu_tabIn (tgt := 1260) (off := 1227) B dL_law_33 (by decide) (by decide) (by decide) (by decide) ?_
        exact lc_weight B hX hbl hbA hL hC hM hB hN hi hk1 hk2 K
      by_cases t31 : c = 31
      · rw [t31]
        refine mu_tabIn (tgt := 1303) (off := 1270) B dL_law_33 (by decide) (by decide) (by decide) (by decide) ?_
        exact lc_count B hX hbl hbA hL hC hM hB hN hi hk1 hk2 K
      by_cases t32 : c = 32
      · rw [t32]
        refine mu_tabIn (tgt := 1326) (off := 1293) B dL_law_33 (by decide) (by decide) (by decide) (by decide) ?_
        exact lc_remove B hX hbl hbA hL hC hM hB hN hi hk1 hk2 K
      refine mu_tabOut (tgt := 1349) B dL_law_33 (by rw [mI_toInt ⟨by omega, by omega⟩]; omega) (by decide) ?_
      exact mu_wd (Nat.le_add_right _ _) (Nat.le_add_right _ _) (K w n tp nr rs nf fs ng gs sr P sx sy hC hM hB.up)
theorem en_nul : ∀ n, en_c (fun _ => False) n = 0
  | 0 => rfl
  | n + 1 => by rw [en_neg (fun h => h)]; exact en_nul n
theorem start_ST {w w1 w2 : mu_W} {o : Nat} (ho : mu_nx w = o) (h1 : NF (mu_al w 11 0) o 34 w1) (hm : CMo w1 o) (ht : mu_rv w1 (o + 1) 0 = some (o + 2) ∧ mu_kd w1 (o + 2) = some (102, 2000)) (hz : ∀ q j, (q = o + 13 ∨ q = o + 14) → mu_rv w1 q j = none) (h2 : NI (mu_al w1 12 0) (o + 35) 36 w2) :
    CST w2 o 0 (fun _ => 0) 0 (fun _ => (0, fun _ => 0, 0, 0, 0, 0, fun _ => 0)) 0 (fun _ => (0, 0, fun _ _ => 0)) 0 (fun _ => (0, 0, 0, 0, fun _ _ => 0)) 0 (fun _ => False) 0 0 ∧ MST w2 (o + 35) 0 (fun _ => 0) 0 (fun _ => (0, fun _ => 0, 0, 0, 0, 0, fun _ => 0)) 0 (fun _ => (0, 0, fun _ _ => 0)) 0 (fun _ => (0, 0, 0, 0, fun _ _ => 0)) 0 (fun _ => False) 0 0 := by
  have x1 : mu_nx w1 = o + 35 := h1.1
  have x2 : mu_nx w2 = o + 72 := h2.1
  have S : ∀ q, q < o + 35 → smc w1 w2 q := fun q hq => ⟨(h2.2.1 q (by omega)).1.trans (by rw [mu_kd_al, if_neg (by omega)]), fun j => ((h2.2.1 q (by omega)).2.1 j).trans (by rw [mu_iv_al, if_neg (by omega)]), fun j => ((h2.2.1 q (by omega)).2.2 j).trans (by rw [mu_lg_al, if_neg (by omega)]), fun j => (h2.2.2.1 q hq j).trans (by rw [mu_rv_al, if_neg (by omega)])⟩
  have Z : ∀ q j, o ≤ q → q < o + 35 → mu_iv w2 q j = 0 := fun q j l1 l2 => by
    rw [(S q l2).2.1 j]
    by_cases e : q = o
    · rw [e, (h1.2.1 o (by omega)).2.1 j, mu_iv_al, if_pos ho.symm]
    · exact (h1.2.2.2 q j (by omega) (by omega)).1
  have ZL : ∀ q j, o < q → q < o + 35 → mu_lg w2 q j = 0 := fun q j l1 l2 => by
    rw [(S q l2).2.2.1 j]
    exact (h1.2.2.2 q j (by omega) (by omega)).2
  have M0 : ∀ j, mu_iv w2 (o + 35) j = 0 := fun j => by
    rw [(h2.2.1 (o + 35) (by omega)).2.1 j, mu_iv_al, if_pos x1.symm]
  obtain ⟨ko, hox, r0, ⟨k1, -⟩, kS, -⟩ := id hm
  have hS2 : CSt w2 (o + 15) := kS.sm (fun q l1 l2 => S q (by omega))
  refine ⟨⟨fun _ => 0, fun _ => 0, fun _ => 0, 0, 0, hm.nr (by omega) (fun q l1 l2 => (S q l2).1) (fun q j l => (S q (by unfold NR at l; omega)).2.2.2 j) hS2, by omega, ⟨(S _ (by omega)).1.trans k1, ((S _ (by omega)).2.2.2 0).trans ht.1, (S _ (by omega)).1.trans ht.2, ⟨Nat.zero_le _, fun j hj => absurd hj (Nat.not_lt_zero j)⟩, Z _ _ (by omega) (by omega), fun j hj => absurd hj (Nat.not_lt_zero j)⟩, ⟨Nat.zero_le _, Z _ _ (by omega) (by omega), fun j hj => absurd hj (Nat.not_lt_zero j)⟩, ⟨Nat.le_refl _, by omega, Z _ _ (by omega) (by omega), fun j hj => absurd hj (Nat.not_lt_zero j), fun f _ _ => ((S _ (by omega)).2.2.2 f).trans (hz _ f (Or.inl rfl)), fun f g hf => absurd hf (Nat.not_lt_zero f), fun j hj => absurd hj (Nat.not_lt_zero j)⟩, ⟨Nat.le_refl _, by omega, Z _ _ (by omega) (by omega), fun j hj => absurd hj (Nat.not_lt_zero j), fun f _ _ => ((S _ (by omega)).2.2.2 f).trans (hz _ f (Or.inr rfl)), fun f g hf => absurd hf (Nat.not_lt_zero f), fun j hj => absurd hj (Nat.not_lt_zero j)⟩, ⟨fun p hp => ?_, ?_⟩, ⟨Z _ _ (by omega) (by omega), Z _ _ (by omega) (by omega), Z _ _ (by omega) (by omega)⟩, fun j hj => absurd hj (Nat.not_lt_zero j), fun j hj => absurd hj (Nat.not_lt_zero j), fun j hj => absurd hj (Nat.not_lt_zero j)⟩, ?_⟩
  · rw [ZL _ _ (by omega) (by omega), lb_0]
    exact ⟨fun h => (by cases h), fun h => False.elim h⟩
  · rw [en_nul]; exact Z _ _ (by omega) (by omega)
  · exact ⟨h2.ok (by rw [mu_kd_al, if_pos x1.symm]), ⟨⟨Nat.zero_le _, fun j hj => absurd hj (Nat.not_lt_zero j)⟩, M0 _, fun j hj => absurd hj (Nat.not_lt_zero j)⟩, ⟨Nat.zero_le _, M0 _, fun j hj => absurd hj (Nat.not_lt_zero j)⟩, ⟨Nat.zero_le _, M0 _, fun j hj => absurd hj (Nat.not_lt_zero j)⟩, ⟨Nat.zero_le _, M0 _, fun j hj => absurd hj (Nat.not_lt_zero j)⟩, ⟨Nat.zero_le _, M0 _, by rw [en_nul]; exact M0 _, fun j _ hp => hp.elim⟩, M0 _, M0 _⟩
set_option maxHeartbeats 4000000 in
set_option maxRecDepth 100000 in
theorem law_start {X : mu_X} {G : mu_G} {Qf : State → Prop} {b L : Nat} {xs : Nat → Int32} (B : mu_B X G cL_law RL 4 room_1) (hX : va_X b L xs X.2.2.2.2.1 X.2.2.2.2.1.heap) (hbl : b < X.2.2.2.2.1.heap.size) (hbA : ¬ mu_A G b) (hL : L ≤ 3072) (hEnd : ∀ (w : mu_W) (kc ks : Nat) (lv : List Value), kc ≤ room_1.cells → ks ≤ room_1.slots → mu_WA X G 4 Qf w kc ks 1356 lv [.int (mI 1)]) (w : mu_W) : mu_WA X G 4 Qf w 0 0 0 [.ref b, mu_no, mu_no, mu_no] [] := by
  refine mu_new B dL_law_0 cfX11 nlL_7 niX11 ndX11 (by decide) (by decide) ?_
  refine mu_dup B dL_law_3 rfl ?_
  refine mu_cI0 B dL_law_4 mL_9 ⟨⟨by decide, by decide⟩, by decide, by decide⟩ (Nat.le_of_ble_eq_true rfl) (c_X11_init G (o := mu_nx w) (by rw [mu_kd_al, if_pos rfl]) rfl) (fun r4 w4 q4 => ?_)
  obtain ⟨rfl, hN, hm, htp, hz⟩ := q4
  have hx4 : mu_nx w4 = mu_nx w + 35 := hN.1
  show mu_WA X G 4 _ _ _ _ 7 _ [.ref (mu_nx w)]
  refine mu_as_1 B dL_law_7 (by decide) rfl ?_
  refine mu_new B dL_law_8 cfX12 nlL_10 niX12 ndX12 (by decide) (by decide) ?_
  rw [hx4]
  refine mu_dup B dL_law_11 rfl ?_
  refine mu_cI0 B dL_law_12 mL_12 ⟨⟨by decide, by decide⟩, by decide, by decide⟩ (Nat.le_of_ble_eq_true rfl) (c_X12_init G (m := mu_nx w + 35) (by rw [mu_kd_al, if_pos hx4.symm]) (by rw [mu_nx_al, hx4])) (fun r12 w12 q12 => ?_)
  obtain ⟨rfl, hI⟩ := q12
  show mu_WA X G 4 _ _ _ _ 15 _ [.ref (mu_nx w + 35)]
  refine mu_as_2 B dL_law_15 (by decide) rfl ?_
  refine mu_iconst (v := mI 0) B dL_law_16 rfl ?_
  refine mu_is_3 B dL_law_17 (by decide) rfl ?_
  obtain ⟨hC, hM⟩ := start_ST rfl hN hm htp hz hI
  refine mu_wd (k' := 72 + 5 * 0) (n' := 1086909 + 2539 * 0) (by decide) (by decide) ?_
  exact law_loop B hX hbl hbA hL hEnd 513 0 w12 _ _ _ _ _ _ _ _ _ _ _ _ (by omega) (by omega) hC hM (fun g hg => absurd hg (Nat.not_lt_zero g))
