/-! ===== the stepper: rows, neighbours, tally ===== -/
theorem lb_shl1 (x : Int64) {i : Nat} (hi : i < 64) : lb (x <<< ((mI 1).toInt64 &&& 63)) i = (decide (1 ≤ i) && lb x (i - 1)) := lb_shl x (k := 1) (by decide) hi
theorem lb_shl63 (x : Int64) {i : Nat} (hi : i < 64) : lb (x <<< ((mI 63).toInt64 &&& 63)) i = (decide (63 ≤ i) && lb x (i - 63)) := lb_shl x (k := 63) (by decide) hi
theorem lb_ush1 (x : Int64) (i : Nat) : lb (x.toUInt64 >>> ((mI 1).toInt64.toUInt64 &&& Int64.toUInt64 63)).toInt64 i = lb x (1 + i) := lb_ush x (k := 1) (by decide) i
theorem lb_ush63 (x : Int64) (i : Nat) : lb (x.toUInt64 >>> ((mI 63).toInt64.toUInt64 &&& Int64.toUInt64 63)).toInt64 i = lb x (63 + i) := lb_ush x (k := 63) (by decide) i
def RW0 (w : mu_W) (e : Nat) : Prop := mu_kd w e = some (101, 6) ∧ mu_lg w e 0 = 0 ∧ mu_lg w e 5 = 0
def RWx (w : mu_W) (e : Nat) (c : Nat → Nat → Nat) (y : Int) : Prop := mu_kd w e = some (101, 6) ∧ ∀ k : Nat, k < 6 → WDx c (64 * (k : Int) - 64) y (mu_lg w e k)
theorem RWx.fi {S : Nat → Nat → Prop} {w w' : mu_W} {e : Nat} {c : Nat → Nat → Nat} {y : Int} (h : RWx w e c y) (hF : mu_Fi S w w') (hn : ∀ j, ¬ S e j) : RWx w' e c y := ⟨hF.kd h.1, fun k hk => by rw [hF.lg (hn k) rfl]; exact h.2 k hk⟩
theorem RW0.fi {S : Nat → Nat → Prop} {w w' : mu_W} {e : Nat} (h : RW0 w e) (hF : mu_Fi S w w') (hn : ∀ j, ¬ S e j) : RW0 w' e := ⟨hF.kd h.1, hF.lg (hn 0) h.2.1, hF.lg (hn 5) h.2.2⟩
theorem RWx.z {w : mu_W} {e : Nat} {c : Nat → Nat → Nat} {y : Int} (h : RWx w e c y) : RW0 w e := by
  refine ⟨h.1, lb_zero.mpr (fun i hi => ?_), lb_zero.mpr (fun i hi => ?_)⟩
  · rw [h.2 0 (by decide) i hi, al_out (by omega)]; rfl
  · rw [h.2 5 (by decide) i hi, al_out (by omega)]; rfl

set_option maxHeartbeats 4000000 in
set_option maxRecDepth 100000 in
theorem c_X9_load (G : mu_G) {w : mu_W} {a : Nat} (ho : CFo w a) {c : Nat → Nat → Nat} (hb : CFb w a c) {e : Nat} (hne : a + 1 ≠ e) (h0 : RW0 w e) {y : Int} (hy : mi_ok y) : mu_Ct G M_X9_load [.ref a, .int (mI y), .ref e] w (fun r w' => r = none ∧ mu_Fi (fun q _ => q = e) w w' ∧ RWx w' e c y) := by
  refine mu_ofWA G M_X9_load [.ref a, .int (mI y), .ref e, mu_no] (by decide) rfl (Nat.le_of_ble_eq_true rfl) ?_
  intro X E
  have B : mu_B X G cX9_load RX9 4 (mu_rm M_X9_load) := E.1
  have LL : ∀ k (s : mu_W), k ≤ (4 : Nat) → (mu_Fi (fun q _ => q = e) w s ∧ (mu_lg s e 0 = 0 ∧ mu_lg s e 5 = 0) ∧ ∀ k2 : Nat, 1 ≤ k2 → k2 ≤ k → WDx c (64 * (k2 : Int) - 64) y (mu_lg s e k2)) → mu_WA X G 4 (mu_Q X G M_X9_load (fun r w' => r = none ∧ mu_Fi (fun q _ => q = e) w w' ∧ RWx w' e c y)) s 0 0 2 [.ref a, .int (mI y), .ref e, .int (mI k)] [] := by
    refine mu_ind ((4 : Nat)) (fun k (s : mu_W) => mu_WA X G 4 (mu_Q X G M_X9_load (fun r w' => r = none ∧ mu_Fi (fun q _ => q = e) w w' ∧ RWx w' e c y)) s 0 0 2 [.ref a, .int (mI y), .ref e, .int (mI k)] []) (fun k (s : mu_W) => mu_Fi (fun q _ => q = e) w s ∧ (mu_lg s e 0 = 0 ∧ mu_lg s e 5 = 0) ∧ ∀ k2 : Nat, 1 ≤ k2 → k2 ≤ k → WDx c (64 * (k2 : Int) - 64) y (mu_lg s e k2)) ?_
    intro k s hk ⟨hF, hF0, hW⟩ ih
    refine mu_il_3 B dX9_load_2 ?_
    refine mu_iconst (v := mI 4) B dX9_load_3 rfl ?_
    refine mu_icmp_ge (tgt := 24) B dX9_load_4 (by decide) (fun c4 => ?_) (fun c4 => ?_)
    · try rw [mI_le ⟨by omega, by omega⟩ ⟨by omega, by omega⟩] at c4
      try rw [mI_le ⟨by omega, by omega⟩ ⟨by omega, by omega⟩] at c4
      obtain rfl : 4 = k := by omega
      refine mu_vret E rfl (by decide) (by decide) dX9_load_24 ?_
      refine ⟨rfl, hF, hF.kd h0.1, fun k hk => ?_⟩
      by_cases e1 : k = 0
      · rw [e1, hF0.1]; intro i hi; rw [lb_0, al_out (by omega)]; rfl
      · by_cases e2 : k = 5
        · rw [e2, hF0.2]; intro i hi; rw [lb_0, al_out (by omega)]; rfl
        · exact hW k (by omega) (by omega)
    · try rw [mI_le ⟨by omega, by omega⟩ ⟨by omega, by omega⟩] at c4
      refine mu_al_2 B dX9_load_7 ?_
      refine mu_il_3 B dX9_load_8 ?_
      refine mu_iconst (v := mI 1) B dX9_load_9 rfl ?_
      refine mu_iadd B dX9_load_10 ?_
      try rw [mI_add]
      rw [show (k : Int) + 1 = ((k + 1 : Nat) : Int) by omega]
      refine mu_al_0 B dX9_load_11 ?_
      refine mu_il_1 B dX9_load_12 ?_
      refine mu_il_3 B dX9_load_13 ?_
      refine mu_cV2 B dX9_load_14 mX9_66 ⟨⟨by decide, by decide⟩, by decide, by decide⟩ (Nat.le_of_ble_eq_true rfl) (hF.kd ho.1) (c_X1_wordAt G (ho.fi hF) (hb.fi hF (fun j hh => hne hh)) hy ⟨by omega, by omega⟩) (fun r14 w14 q14 => ?_)
      obtain ⟨⟨d, rfl, hd⟩, rfl⟩ := q14
      show mu_WA X G 4 _ _ 0 0 17 _ [.long d, .int _, .ref e]
      refine mu_last B dX9_load_17 (hF.kd h0.1) (mI_inN (by omega) (by decide)) ?_
      rw [mI_clampN (by omega)]
      refine mu_inc_3 (c := mI 1) B dX9_load_18 rfl (by decide) rfl ?_
      try rw [mI_add]
      refine mu_goto (tgt := 2) B dX9_load_21 (by decide) ?_
      refine mu_to (ih _ (by omega) ⟨hF.sl rfl, ⟨by rw [mu_lg_oth _ _ (by omega)]; exact hF0.1, by rw [mu_lg_oth _ _ (by omega)]; exact hF0.2⟩, fun k2 h1 h2 => ?_⟩) rfl (by rw [show ((k + 1 : Nat) : Int) = (k : Int) + 1 by omega])
      by_cases e9 : k2 = k + 1
      · rw [e9, mu_lg_same]; intro i hi; rw [hd i hi, show (64 : Int) * ((k + 1 : Nat) : Int) - 64 = 64 * (k : Int) by omega]
      · rw [mu_lg_oth _ _ (by omega)]; exact hW k2 h1 (by omega)
  show mu_WA X G 4 _ _ 0 0 0 _ []
  refine mu_iconst (v := mI 0) B dX9_load_0 rfl ?_
  refine mu_is_3 B dX9_load_1 (by decide) rfl ?_
  exact LL 0 w (by decide) ⟨mu_Fi.refl _, h0.2, fun k2 h1 h2 => absurd h1 (by omega)⟩

set_option maxHeartbeats 4000000 in
set_option maxRecDepth 100000 in
theorem c_X9_westOf (G : mu_G) {w : mu_W} {e : Nat} {c : Nat → Nat → Nat} {y : Int} (hr : RWx w e c y) {k : Nat} (hk1 : 1 ≤ k) (hk4 : k ≤ 4) : mu_Ct G M_X9_westOf [.ref e, .int (mI k)] w (fun r w' => (∃ d, r = some (.long d) ∧ WDx c (64 * (k : Int) - 64 - 1) y d) ∧ w' = w) := by
  refine mu_ofWA G M_X9_westOf [.ref e, .int (mI k)] (by decide) rfl (Nat.le_of_ble_eq_true rfl) ?_
  intro X E
  have B : mu_B X G cX9_westOf RX9 2 (mu_rm M_X9_westOf) := E.1
  show mu_WA X G 2 _ _ 0 0 0 _ []
  refine mu_il_1 B dX9_westOf_0 ?_
  refine mu_iconst (v := mI 1) B dX9_westOf_1 rfl ?_
  refine mu_icmp_lt (tgt := 28) B dX9_westOf_2 (by decide) (fun c2 => ?_) (fun c2 => ?_)
  · try rw [mI_lt ⟨by omega, by omega⟩ ⟨by omega, by omega⟩] at c2
    exfalso
    omega
  · try rw [mI_lt ⟨by omega, by omega⟩ ⟨by omega, by omega⟩] at c2
    refine mu_il_1 B dX9_westOf_5 ?_
    refine mu_al_0 B dX9_westOf_6 ?_
    refine mu_len (ka := 1) B dX9_westOf_7 hr.1 (by decide) ?_
    refine mu_icmp_ge (tgt := 28) B dX9_westOf_8 (by decide) (fun c8 => ?_) (fun c8 => ?_)
    · try rw [mI_le ⟨by omega, by omega⟩ ⟨by omega, by omega⟩] at c8
      exfalso
      omega
    · try rw [mI_le ⟨by omega, by omega⟩ ⟨by omega, by omega⟩] at c8
      refine mu_al_0 B dX9_westOf_11 ?_
      refine mu_il_1 B dX9_westOf_12 ?_
      refine mu_lald B dX9_westOf_13 hr.1 (mI_inN (by omega) (by decide)) ?_
      rw [mI_clampN (by omega)]
      refine mu_iconst (v := mI 1) B dX9_westOf_14 rfl ?_
      refine mu_lshl B dX9_westOf_15 rfl ?_
      refine mu_al_0 B dX9_westOf_16 ?_
      refine mu_il_1 B dX9_westOf_17 ?_
      refine mu_iconst (v := mI 1) B dX9_westOf_18 rfl ?_
      refine mu_isub B dX9_westOf_19 ?_
      try rw [mI_sub]
      rw [show (k : Int) - 1 = ((k - 1 : Nat) : Int) by omega]
      refine mu_lald B dX9_westOf_20 hr.1 (mI_inN (by omega) (by decide)) ?_
      rw [mI_clampN (by omega)]
      refine mu_bipush (v := mI 63) B dX9_westOf_21 (by decide) ?_
      refine mu_lushr B dX9_westOf_23 rfl ?_
      refine mu_lor B dX9_westOf_24 ?_
      refine mu_goto (tgt := 29) B dX9_westOf_25 (by decide) ?_
      refine mu_lret E rfl (by decide) (by decide) dX9_westOf_29 ?_
      refine ⟨⟨_, rfl, fun i hi => ?_⟩, rfl⟩
      rw [lb_or, lb_shl1 _ hi, lb_ush63]
      by_cases e9 : i = 0
      · rw [e9, hr.2 (k - 1) (by omega) (63 + 0) (by omega), show (64 : Int) * ((k - 1 : Nat) : Int) - 64 + ((63 + 0 : Nat) : Int) = 64 * (k : Int) - 64 - 1 + ((0 : Nat) : Int) by omega]; simp
      · rw [lb_big _ (show 64 ≤ 63 + i by omega), hr.2 k (by omega) (i - 1) (by omega), decide_eq_true (show 1 ≤ i by omega), Bool.or_false, Bool.true_and, show (64 : Int) * (k : Int) - 64 + ((i - 1 : Nat) : Int) = 64 * (k : Int) - 64 - 1 + (i : Int) by omega]

set_option maxHeartbeats 4000000 in
set_option maxRecDepth 100000 in
theorem c_X9_eastOf (G : mu_G) {w : mu_W} {e : Nat} {c : Nat → Nat → Nat} {y : Int} (hr : RWx w e c y) {k : Nat} (hk1 : 1 ≤ k) (hk4 : k ≤ 4) : mu_Ct G M_X9_eastOf [.ref e, .int (mI k)] w (fun r w' => (∃ d, r = some (.long d) ∧ WDx c (64 * (k : Int) - 64 + 1) y d) ∧ w' = w) := by
  refine mu_ofWA G M_X9_eastOf [.ref e, .int (mI k)] (by decide) rfl (Nat.le_of_ble_eq_true rfl) ?_
  intro X E
  have B : mu_B X G cX9_eastOf RX9 2 (mu_rm M_X9_eastOf) := E.1
  show mu_WA X G 2 _ _ 0 0 0 _ []
  refine mu_il_1 B dX9_eastOf_0 ?_
  refine mu_if_lt (tgt := 29) B dX9_eastOf_1 (by decide) (fun c1 => ?_) (fun c1 => ?_)
  · try rw [mI_lt0 ⟨by omega, by omega⟩] at c1
    exfalso
    omega
  · try rw [mI_lt0 ⟨by omega, by omega⟩] at c1
    refine mu_il_1 B dX9_eastOf_4 ?_
    refine mu_iconst (v := mI 1) B dX9_eastOf_5 rfl ?_
    refine mu_iadd B dX9_eastOf_6 ?_
    try rw [mI_add]
    refine mu_al_0 B dX9_eastOf_7 ?_
    refine mu_len (ka := 1) B dX9_eastOf_8 hr.1 (by decide) ?_
    refine mu_icmp_ge (tgt := 29) B dX9_eastOf_9 (by decide) (fun c9 => ?_) (fun c9 => ?_)
    · try rw [mI_le ⟨by omega, by omega⟩ ⟨by omega, by omega⟩] at c9
      exfalso
      omega
    · try rw [mI_le ⟨by omega, by omega⟩ ⟨by omega, by omega⟩] at c9
      refine mu_al_0 B dX9_eastOf_12 ?_
      refine mu_il_1 B dX9_eastOf_13 ?_
      refine mu_lald B dX9_eastOf_14 hr.1 (mI_inN (by omega) (by decide)) ?_
      rw [mI_clampN (by omega)]
      refine mu_iconst (v := mI 1) B dX9_eastOf_15 rfl ?_
      refine mu_lushr B dX9_eastOf_16 rfl ?_
      refine mu_al_0 B dX9_eastOf_17 ?_
      refine mu_il_1 B dX9_eastOf_18 ?_
      refine mu_iconst (v := mI 1) B dX9_eastOf_19 rfl ?_
      refine mu_iadd B dX9_eastOf_20 ?_
      try rw [mI_add]
      rw [show (k : Int) + 1 = ((k + 1 : Nat) : Int) by omega]
      refine mu_lald B dX9_eastOf_21 hr.1 (mI_inN (by omega) (by decide)) ?_
      rw [mI_clampN (by omega)]
      refine mu_bipush (v := mI 63) B dX9_eastOf_22 (by decide) ?_
      refine mu_lshl B dX9_eastOf_24 rfl ?_
      refine mu_lor B dX9_eastOf_25 ?_
      refine mu_goto (tgt := 30) B dX9_eastOf_26 (by decide) ?_
      refine mu_lret E rfl (by decide) (by decide) dX9_eastOf_30 ?_
      refine ⟨⟨_, rfl, fun i hi => ?_⟩, rfl⟩
      rw [lb_or, lb_shl63 _ hi, lb_ush1]
      by_cases e9 : i = 63
      · rw [e9, lb_big _ (show 64 ≤ 1 + 63 by omega), hr.2 (k + 1) (by omega) (63 - 63) (by omega), show (64 : Int) * ((k + 1 : Nat) : Int) - 64 + ((63 - 63 : Nat) : Int) = 64 * (k : Int) - 64 + 1 + ((63 : Nat) : Int) by omega]; simp
      · rw [decide_eq_false (show ¬ 63 ≤ i by omega), hr.2 k (by omega) (1 + i) (by omega), Bool.false_and, Bool.or_false, show (64 : Int) * (k : Int) - 64 + ((1 + i : Nat) : Int) = 64 * (k : Int) - 64 + 1 + (i : Int) by omega]

def TD (w : mu_W) (b : Nat) (N : Nat → Nat) : Prop := ∀ i, i < 64 → N i ≤ 8 ∧ lb (mu_lg w b 3) i = decide (N i % 2 = 1) ∧ lb (mu_lg w b 4) i = decide (N i / 2 % 2 = 1) ∧ lb (mu_lg w b 5) i = decide (N i / 4 % 2 = 1) ∧ lb (mu_lg w b 6) i = decide (N i / 8 % 2 = 1)
def taS (b : Nat) : Nat → Nat → Prop := fun e j => e = b ∧ 3 ≤ j ∧ j ≤ 6
theorem td_step : ∀ n, n < 8 → ∀ x : Bool, decide (n + (if x = true then 1 else 0) ≤ 8) = true ∧ (decide (n % 2 = 1) ^^ x) = decide ((n + (if x = true then 1 else 0)) % 2 = 1) ∧ (decide (n / 2 % 2 = 1) ^^ (decide (n % 2 = 1) && x)) = decide ((n + (if x = true then 1 else 0)) / 2 % 2 = 1) ∧ (decide (n / 4 % 2 = 1) ^^ (decide (n / 2 % 2 = 1) && (decide (n % 2 = 1) && x))) = decide ((n + (if x = true then 1 else 0)) / 4 % 2 = 1) ∧ (decide (n / 8 % 2 = 1) || (decide (n / 4 % 2 = 1) && (decide (n / 2 % 2 = 1) && (decide (n % 2 = 1) && x)))) = decide ((n + (if x = true then 1 else 0)) / 8 % 2 = 1) := by decide

set_option maxHeartbeats 4000000 in
set_option maxRecDepth 100000 in
theorem c_X9_tally (G : mu_G) {w : mu_W} {b : Nat} {kb : Nat} (hkb : mu_kd w b = some (9, kb)) {N : Nat → Nat} (hT : TD w b N) (hN : ∀ i, i < 64 → N i ≤ 7) {x : Int64} : mu_Ct G M_X9_tally [.ref b, .long x] w (fun r w' => r = none ∧ mu_Fi (taS b) w w' ∧ TD w' b (fun i => N i + (if lb x i = true then 1 else 0))) := by
  refine mu_ofWA G M_X9_tally [.ref b, .long x, mu_no, mu_no, mu_no, mu_no, mu_no, mu_no, mu_no] (by decide) rfl (Nat.le_of_ble_eq_true rfl) ?_
  intro X E
  have B : mu_B X G cX9_tally RX9 9 (mu_rm M_X9_tally) := E.1
  show mu_WA X G 9 _ _ 0 0 0 _ []
  refine mu_al_0 B dX9_tally_0 ?_
  refine mu_getL B dX9_tally_1 fX9_70 rfl (by assumption) ?_
  refine mu_ll_1 B dX9_tally_4 ?_
  refine mu_land B dX9_tally_5 ?_
  refine mu_ls_3 B dX9_tally_6 (by decide) rfl ?_
  refine mu_al_0 B dX9_tally_7 ?_
  refine mu_dup B dX9_tally_8 rfl ?_
  refine mu_getL B dX9_tally_9 fX9_70 rfl (by assumption) ?_
  refine mu_ll_1 B dX9_tally_12 ?_
  refine mu_lxor B dX9_tally_13 ?_
  refine mu_putL B dX9_tally_14 fX9_70 fwX9_3 rfl (by assumption) ?_
  refine mu_al_0 B dX9_tally_17 ?_
  refine mu_getL B dX9_tally_18 fX9_74 rfl (by assumption) ?_
  refine mu_ll_3 B dX9_tally_21 ?_
  refine mu_land B dX9_tally_22 ?_
  refine mu_ls_5 B dX9_tally_23 (by decide) rfl ?_
  refine mu_al_0 B dX9_tally_25 ?_
  refine mu_dup B dX9_tally_26 rfl ?_
  refine mu_getL B dX9_tally_27 fX9_74 rfl (by assumption) ?_
  refine mu_ll_3 B dX9_tally_30 ?_
  refine mu_lxor B dX9_tally_31 ?_
  refine mu_putL B dX9_tally_32 fX9_74 fwX9_4 rfl (by assumption) ?_
  refine mu_al_0 B dX9_tally_35 ?_
  refine mu_getL B dX9_tally_36 fX9_77 rfl (by assumption) ?_
  refine mu_ll_5 B dX9_tally_39 ?_
  refine mu_land B dX9_tally_41 ?_
  refine mu_ls_7 B dX9_tally_42 (by decide) rfl ?_
  refine mu_al_0 B dX9_tally_44 ?_
  refine mu_dup B dX9_tally_45 rfl ?_
  refine mu_getL B dX9_tally_46 fX9_77 rfl (by assumption) ?_
  refine mu_ll_5 B dX9_tally_49 ?_
  refine mu_lxor B dX9_tally_51 ?_
  refine mu_putL B dX9_tally_52 fX9_77 fwX9_5 rfl (by assumption) ?_
  refine mu_al_0 B dX9_tally_55 ?_
  refine mu_dup B dX9_tally_56 rfl ?_
  refine mu_getL B dX9_tally_57 fX9_80 rfl (by assumption) ?_
  refine mu_ll_7 B dX9_tally_60 ?_
  refine mu_lor B dX9_tally_62 ?_
  refine mu_putL B dX9_tally_63 fX9_80 fwX9_6 rfl (by assumption) ?_
  refine mu_vret E rfl (by decide) (by decide) dX9_tally_66 ?_
  refine ⟨rfl, ((((mu_Fi.refl _).sl ⟨rfl, by decide, by decide⟩).sl ⟨rfl, by decide, by decide⟩).sl ⟨rfl, by decide, by decide⟩).sl ⟨rfl, by decide, by decide⟩, fun i hi => ?_⟩
  obtain ⟨t0, t1, t2, t3, t4⟩ := hT i hi
  obtain ⟨s0, s1, s2, s3, s4⟩ := td_step (N i) (by have := hN i hi; omega) (lb x i)
  refine ⟨of_decide_eq_true s0, ?_, ?_, ?_, ?_⟩
  · rw [← s1, ← t1, ← lb_xor]; simp [mu_lg_sl]
  · rw [← s2, ← t1, ← t2, ← lb_and, ← lb_xor]; simp [mu_lg_sl]
  · rw [← s3, ← t1, ← t2, ← t3, ← lb_and, ← lb_and, ← lb_xor]; simp [mu_lg_sl]
  · rw [← s4, ← t1, ← t2, ← t3, ← t4, ← lb_and, ← lb_and, ← lb_and, ← lb_or]; simp [mu_lg_sl]
