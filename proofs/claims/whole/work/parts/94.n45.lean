/-! ===== the class's squares: which ones meet the box ===== -/
/-- the box of a field, in numbers -/
def BXn (w : mu_W) (f l r u d : Nat) : Prop := (∃ M : Nat, CFm w f l r u d M) ∧ l ≤ r ∧ r < 256 ∧ u ≤ d ∧ d < 256
theorem BXn.fi {S : Nat → Nat → Prop} {w w' : mu_W} {f l r u d : Nat} (h : BXn w f l r u d) (hF : mu_Fi S w w') (hn : ∀ j, 5 ≤ j → j ≤ 9 → ¬ S f j) : BXn w' f l r u d := by
  obtain ⟨⟨M, hM⟩, h2⟩ := h
  exact ⟨⟨M, hM.fi hF hn⟩, h2⟩
theorem mI_shN {x p : Nat} (hx : x < 1000000) (hp : p < 31) : mI (x : Int) >>> (mI (p : Int) &&& 31) = mI ((x / 2 ^ p : Nat) : Int) := by
  rw [mI_shr _ ⟨by omega, by omega⟩ _ (by omega), Int.natCast_ediv, Int.natCast_pow]; rfl
def sqm (l r u d p : Nat) : Nat := (r / 2 ^ p - l / 2 ^ p + 1) * (d / 2 ^ p - u / 2 ^ p + 1)
def mtB (l r u d p i j : Nat) : Prop := (u / 2 ^ p ≤ i ∧ i ≤ d / 2 ^ p) ∧ l / 2 ^ p ≤ j ∧ j ≤ r / 2 ^ p

set_option maxHeartbeats 4000000 in
set_option maxRecDepth 100000 in
theorem c_X8_squaresMet (G : mu_G) {w : mu_W} {f l r u d : Nat} (hk : mu_kd w f = some (1, 0)) (hb : BXn w f l r u d) {p : Nat} (hp : p ≤ 8) : mu_Ct G M_X8_squaresMet [.ref f, .int (mI p)] w (fun r9 w' => r9 = some (.int (mI (sqm l r u d p : Nat))) ∧ w' = w) := by
  obtain ⟨⟨M, hm⟩, g1, g2, g3, g4⟩ := id hb
  have dl := Nat.div_le_div_right (c := 2 ^ p) g1
  have du := Nat.div_le_div_right (c := 2 ^ p) g3
  have er := Nat.div_le_self r (2 ^ p)
  have ed9 := Nat.div_le_self d (2 ^ p)
  refine mu_ofWA G M_X8_squaresMet [.ref f, .int (mI p), mu_no, mu_no] (by decide) rfl (Nat.le_of_ble_eq_true rfl) ?_
  intro X E
  have B : mu_B X G cX8_squaresMet RX8 4 (mu_rm M_X8_squaresMet) := E.1
  show mu_WA X G 4 _ _ 0 0 0 _ []
  refine mu_al_0 B dX8_squaresMet_0 ?_
  refine mu_getIN B dX8_squaresMet_1 fX8_34 rfl (by assumption) ?_
  rw [hm.2.2.2.1]
  refine mu_il_1 B dX8_squaresMet_4 ?_
  refine mu_ishr B dX8_squaresMet_5 ?_
  rw [mI_shN (by omega) (by omega)]
  refine mu_al_0 B dX8_squaresMet_6 ?_
  refine mu_getIN B dX8_squaresMet_7 fX8_37 rfl (by assumption) ?_
  rw [hm.2.1]
  refine mu_il_1 B dX8_squaresMet_10 ?_
  refine mu_ishr B dX8_squaresMet_11 ?_
  rw [mI_shN (by omega) (by omega)]
  refine mu_isub B dX8_squaresMet_12 ?_
  try rw [mI_sub]
  refine mu_iconst (v := mI 1) B dX8_squaresMet_13 rfl ?_
  refine mu_iadd B dX8_squaresMet_14 ?_
  try rw [mI_add]
  try rw [mI_add]
  rw [show ((r / 2 ^ p : Nat) : Int) - ((l / 2 ^ p : Nat) : Int) + 1 = ((r / 2 ^ p - l / 2 ^ p + 1 : Nat) : Int) by omega]
  refine mu_is_2 B dX8_squaresMet_15 (by decide) rfl ?_
  refine mu_al_0 B dX8_squaresMet_16 ?_
  refine mu_getIN B dX8_squaresMet_17 fX8_40 rfl (by assumption) ?_
  rw [hm.2.2.2.2]
  refine mu_il_1 B dX8_squaresMet_20 ?_
  refine mu_ishr B dX8_squaresMet_21 ?_
  rw [mI_shN (by omega) (by omega)]
  refine mu_al_0 B dX8_squaresMet_22 ?_
  refine mu_getIN B dX8_squaresMet_23 fX8_43 rfl (by assumption) ?_
  rw [hm.2.2.1]
  refine mu_il_1 B dX8_squaresMet_26 ?_
  refine mu_ishr B dX8_squaresMet_27 ?_
  rw [mI_shN (by omega) (by omega)]
  refine mu_isub B dX8_squaresMet_28 ?_
  try rw [mI_sub]
  refine mu_iconst (v := mI 1) B dX8_squaresMet_29 rfl ?_
  refine mu_iadd B dX8_squaresMet_30 ?_
  try rw [mI_add]
  try rw [mI_add]
  rw [show ((d / 2 ^ p : Nat) : Int) - ((u / 2 ^ p : Nat) : Int) + 1 = ((d / 2 ^ p - u / 2 ^ p + 1 : Nat) : Int) by omega]
  refine mu_is_3 B dX8_squaresMet_31 (by decide) rfl ?_
  refine mu_il_2 B dX8_squaresMet_32 ?_
  refine mu_il_3 B dX8_squaresMet_33 ?_
  refine mu_imul B dX8_squaresMet_34 ?_
  try rw [mI_mul]
  try rw [mI_mul]
  rw [← Int.natCast_mul]
  refine mu_iret E rfl (by decide) (by decide) dX8_squaresMet_35 ?_
  exact ⟨rfl, rfl⟩

set_option maxHeartbeats 4000000 in
set_option maxRecDepth 100000 in
theorem c_X8_meetsBox (G : mu_G) {w : mu_W} {f l r u d : Nat} (hk : mu_kd w f = some (1, 0)) (hb : BXn w f l r u d) {p : Nat} (hp : p ≤ 8) {i j : Nat} (hi : i < 1000) (hj : j < 1000) : mu_Ct G M_X8_meetsBox [.ref f, .int (mI p), .int (mI i), .int (mI j)] w (fun r9 w' => ((mtB l r u d p i j → r9 = some (.int (mI 1))) ∧ (¬ mtB l r u d p i j → r9 = some (.int (mI 0)))) ∧ w' = w) := by
  obtain ⟨⟨M, hm⟩, g1, g2, g3, g4⟩ := id hb
  have dl := Nat.div_le_div_right (c := 2 ^ p) g1
  have du := Nat.div_le_div_right (c := 2 ^ p) g3
  have er := Nat.div_le_self r (2 ^ p)
  have ed9 := Nat.div_le_self d (2 ^ p)
  have el := Nat.div_le_self l (2 ^ p)
  have eu := Nat.div_le_self u (2 ^ p)
  obtain ⟨rp, hrp⟩ : ∃ x, r / 2 ^ p = x := ⟨_, rfl⟩
  obtain ⟨lp, hlp⟩ : ∃ x, l / 2 ^ p = x := ⟨_, rfl⟩
  obtain ⟨dp, hdp⟩ : ∃ x, d / 2 ^ p = x := ⟨_, rfl⟩
  obtain ⟨up, hup⟩ : ∃ x, u / 2 ^ p = x := ⟨_, rfl⟩
  unfold mtB
  rw [hrp, hlp, hdp, hup]
  rw [hrp] at dl er
  rw [hlp] at dl el
  rw [hdp] at du ed9
  rw [hup] at du eu
  refine mu_ofWA G M_X8_meetsBox [.ref f, .int (mI p), .int (mI i), .int (mI j)] (by decide) rfl (Nat.le_of_ble_eq_true rfl) ?_
  intro X E
  have B : mu_B X G cX8_meetsBox RX8 4 (mu_rm M_X8_meetsBox) := E.1
  show mu_WA X G 4 _ _ 0 0 0 _ []
  refine mu_il_2 B dX8_meetsBox_0 ?_
  refine mu_al_0 B dX8_meetsBox_1 ?_
  refine mu_getIN B dX8_meetsBox_2 fX8_43 rfl (by assumption) ?_
  rw [hm.2.2.1]
  refine mu_il_1 B dX8_meetsBox_5 ?_
  refine mu_ishr B dX8_meetsBox_6 ?_
  rw [mI_shN (by omega) (by omega), hup]
  refine mu_icmp_lt (tgt := 44) B dX8_meetsBox_7 (by decide) (fun c7 => ?_) (fun c7 => ?_)
  · try rw [mI_lt ⟨by omega, by omega⟩ ⟨by omega, by omega⟩] at c7
    refine mu_iconst (v := mI 0) B dX8_meetsBox_44 rfl ?_
    refine mu_zret E rfl (by decide) (by decide) dX8_meetsBox_45 (by decide) ?_
    first
      | exact ⟨⟨fun _ => rfl, fun q => absurd (by omega) q⟩, rfl⟩
      | exact ⟨⟨fun q => absurd q (by omega), fun _ => rfl⟩, rfl⟩
  · try rw [mI_lt ⟨by omega, by omega⟩ ⟨by omega, by omega⟩] at c7
    refine mu_il_2 B dX8_meetsBox_10 ?_
    refine mu_al_0 B dX8_meetsBox_11 ?_
    refine mu_getIN B dX8_meetsBox_12 fX8_40 rfl (by assumption) ?_
    rw [hm.2.2.2.2]
    refine mu_il_1 B dX8_meetsBox_15 ?_
    refine mu_ishr B dX8_meetsBox_16 ?_
    rw [mI_shN (by omega) (by omega), hdp]
    refine mu_icmp_gt (tgt := 44) B dX8_meetsBox_17 (by decide) (fun c17 => ?_) (fun c17 => ?_)
    · try rw [mI_lt ⟨by omega, by omega⟩ ⟨by omega, by omega⟩] at c17
      refine mu_iconst (v := mI 0) B dX8_meetsBox_44 rfl ?_
      refine mu_zret E rfl (by decide) (by decide) dX8_meetsBox_45 (by decide) ?_
      first
        | exact ⟨⟨fun _ => rfl, fun q => absurd (by omega) q⟩, rfl⟩
        | exact ⟨⟨fun q => absurd q (by omega), fun _ => rfl⟩, rfl⟩
    · try rw [mI_lt ⟨by omega, by omega⟩ ⟨by omega, by omega⟩] at c17
      refine mu_il_3 B dX8_meetsBox_20 ?_
      refine mu_al_0 B dX8_meetsBox_21 ?_
      refine mu_getIN B dX8_meetsBox_22 fX8_37 rfl (by assumption) ?_
      rw [hm.2.1]
      refine mu_il_1 B dX8_meetsBox_25 ?_
      refine mu_ishr B dX8_meetsBox_26 ?_
      rw [mI_shN (by omega) (by omega), hlp]
      refine mu_icmp_lt (tgt := 44) B dX8_meetsBox_27 (by decide) (fun c27 => ?_) (fun c27 => ?_)
      · try rw [mI_lt ⟨by omega, by omega⟩ ⟨by omega, by omega⟩] at c27
        refine mu_iconst (v := mI 0) B dX8_meetsBox_44 rfl ?_
        refine mu_zret E rfl (by decide) (by decide) dX8_meetsBox_45 (by decide) ?_
        first
          | exact ⟨⟨fun _ => rfl, fun q => absurd (by omega) q⟩, rfl⟩
          | exact ⟨⟨fun q => absurd q (by omega), fun _ => rfl⟩, rfl⟩
      · try rw [mI_lt ⟨by omega, by omega⟩ ⟨by omega, by omega⟩] at c27
        refine mu_il_3 B dX8_meetsBox_30 ?_
        refine mu_al_0 B dX8_meetsBox_31 ?_
        refine mu_getIN B dX8_meetsBox_32 fX8_34 rfl (by assumption) ?_
        rw [hm.2.2.2.1]
        refine mu_il_1 B dX8_meetsBox_35 ?_
        refine mu_ishr B dX8_meetsBox_36 ?_
        rw [mI_shN (by omega) (by omega), hrp]
        refine mu_icmp_gt (tgt := 44) B dX8_meetsBox_37 (by decide) (fun c37 => ?_) (fun c37 => ?_)
        · try rw [mI_lt ⟨by omega, by omega⟩ ⟨by omega, by omega⟩] at c37
          refine mu_iconst (v := mI 0) B dX8_meetsBox_44 rfl ?_
          refine mu_zret E rfl (by decide) (by decide) dX8_meetsBox_45 (by decide) ?_
          first
            | exact ⟨⟨fun _ => rfl, fun q => absurd (by omega) q⟩, rfl⟩
            | exact ⟨⟨fun q => absurd q (by omega), fun _ => rfl⟩, rfl⟩
        · try rw [mI_lt ⟨by omega, by omega⟩ ⟨by omega, by omega⟩] at c37
          refine mu_iconst (v := mI 1) B dX8_meetsBox_40 rfl ?_
          refine mu_goto (tgt := 45) B dX8_meetsBox_41 (by decide) ?_
          refine mu_zret E rfl (by decide) (by decide) dX8_meetsBox_45 (by decide) ?_
          first
            | exact ⟨⟨fun _ => rfl, fun q => absurd (by omega) q⟩, rfl⟩
            | exact ⟨⟨fun q => absurd q (by omega), fun _ => rfl⟩, rfl⟩

set_option maxHeartbeats 4000000 in
set_option maxRecDepth 100000 in
theorem c_X8_leavesEmptyOnes (G : mu_G) {w : mu_W} {f l r u d : Nat} (hk : mu_kd w f = some (1, 0)) (hb : BXn w f l r u d) {p : Nat} (hp : p ≤ 8) : mu_Ct G M_X8_leavesEmptyOnes [.ref f, .int (mI p)] w (fun r9 w' => r9 = some (.int (if sqm l r u d p < 256 / 2 ^ p * (256 / 2 ^ p) then mI 1 else mI 0)) ∧ w' = w) := by
  obtain ⟨⟨M, hm⟩, g1, g2, g3, g4⟩ := id hb
  have dl := Nat.div_le_div_right (c := 2 ^ p) g1
  have du := Nat.div_le_div_right (c := 2 ^ p) g3
  have er := Nat.div_le_self r (2 ^ p)
  have ed9 := Nat.div_le_self d (2 ^ p)
  have a1 := Nat.sub_le (r / 2 ^ p) (l / 2 ^ p)
  have a2 := Nat.sub_le (d / 2 ^ p) (u / 2 ^ p)
  have h1 : sqm l r u d p ≤ 256 * 256 := Nat.mul_le_mul (by omega) (by omega)
  have h2 : 256 / 2 ^ p * (256 / 2 ^ p) ≤ 256 * 256 := Nat.mul_le_mul (Nat.div_le_self _ _) (Nat.div_le_self _ _)
  obtain ⟨nn, hnn⟩ : ∃ x, 256 / 2 ^ p * (256 / 2 ^ p) = x := ⟨_, rfl⟩
  refine mu_ofWA G M_X8_leavesEmptyOnes [.ref f, .int (mI p), mu_no] (by decide) rfl (Nat.le_of_ble_eq_true rfl) ?_
  intro X E
  have B : mu_B X G cX8_leavesEmptyOnes RX8 3 (mu_rm M_X8_leavesEmptyOnes) := E.1
  show mu_WA X G 3 _ _ 0 0 0 _ []
  refine mu_sipush (v := mI 256) B dX8_leavesEmptyOnes_0 (by decide) ?_
  refine mu_il_1 B dX8_leavesEmptyOnes_3 ?_
  refine mu_ishr B dX8_leavesEmptyOnes_4 ?_
  rw [show (mI 256 : Int32) = mI ((256 : Nat) : Int) from rfl, mI_shN (by omega) (by omega)]
  refine mu_is_2 B dX8_leavesEmptyOnes_5 (by decide) rfl ?_
  refine mu_al_0 B dX8_leavesEmptyOnes_6 ?_
  refine mu_il_1 B dX8_leavesEmptyOnes_7 ?_
  refine mu_eS2 B dX8_leavesEmptyOnes_8 mX8_46 ⟨⟨by decide, by decide⟩, by decide, by decide⟩ (Nat.le_of_ble_eq_true rfl) (c_X8_squaresMet G hk hb hp) ?_
  refine mu_il_2 B dX8_leavesEmptyOnes_11 ?_
  refine mu_il_2 B dX8_leavesEmptyOnes_12 ?_
  refine mu_imul B dX8_leavesEmptyOnes_13 ?_
  try rw [mI_mul]
  try rw [mI_mul]
  rw [← Int.natCast_mul]
  refine mu_icmp_ge (tgt := 21) B dX8_leavesEmptyOnes_14 (by decide) (fun c14 => ?_) (fun c14 => ?_)
  · try rw [mI_le ⟨by omega, by omega⟩ ⟨by omega, by omega⟩] at c14
    refine mu_iconst (v := mI 0) B dX8_leavesEmptyOnes_21 rfl ?_
    refine mu_zret E rfl (by decide) (by decide) dX8_leavesEmptyOnes_22 (by decide) ?_
    refine ⟨?_, rfl⟩
    first | rw [if_pos (by omega)] | rw [if_neg (by omega)]
  · try rw [mI_le ⟨by omega, by omega⟩ ⟨by omega, by omega⟩] at c14
    refine mu_iconst (v := mI 1) B dX8_leavesEmptyOnes_17 rfl ?_
    refine mu_goto (tgt := 22) B dX8_leavesEmptyOnes_18 (by decide) ?_
    refine mu_zret E rfl (by decide) (by decide) dX8_leavesEmptyOnes_22 (by decide) ?_
    refine ⟨?_, rfl⟩
    first | rw [if_pos (by omega)] | rw [if_neg (by omega)]
