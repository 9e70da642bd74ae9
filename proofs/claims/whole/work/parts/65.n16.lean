/-! ===== the text of a field: a run written ===== -/
/-- what has been seen of byte i, after these bytes from place p on -/
def ftw (i : Int) : Nat → Int32 → List Int32 → Int32
  | _, x, [] => x
  | p, x, z :: l => ftw i (p + 1) (if (p : Int) = i then z else x) l
def rnI (t : Nat) (z : Int32) : List Int32 := (if 100 ≤ t then [mI (48 + (t : Int) / 100 % 10)] else []) ++ ((if 10 ≤ t then [mI (48 + (t : Int) / 10 % 10)] else []) ++ ((if 2 ≤ t then [mI (48 + (t : Int) % 10)] else []) ++ [z]))
theorem rnI_len (t : Nat) (z : Int32) : (rnI t z).length ≤ 4 := by
  unfold rnI
  by_cases h1 : 100 ≤ t <;> by_cases h2 : 10 ≤ t <;> by_cases h3 : 2 ≤ t <;> simp [h1, h2, h3]

set_option maxHeartbeats 4000000 in
set_option maxRecDepth 100000 in
theorem c_X2_writeRun (G : mu_G) {w : mu_W} {a : Nat} {i : Int} (hi : mi_ok i) {p : Nat} (hp : p ≤ 10000000) {x z : Int32} (hF : FTx w a i p x) {t : Nat} (ht : t < 1000) : mu_Ct G M_X2_writeRun [.ref a, .int (mI t), .int z] w (fun r w' => r = none ∧ mu_Fi (ftS a) w w' ∧ FTx w' a i (p + (rnI t z).length) (ftw i p x (rnI t z))) := by
  have hG : mu_Fi (ftS a) w w := mu_Fi.refl _
  refine mu_ofWA G M_X2_writeRun [.ref a, .int (mI t), .int z] (by decide) rfl (Nat.le_of_ble_eq_true rfl) ?_
  intro X E
  have B : mu_B X G cX2_writeRun RX2 3 (mu_rm M_X2_writeRun) := E.1
  show mu_WA X G 3 _ _ 0 0 0 _ []
  refine mu_il_1 B dX2_writeRun_0 ?_
  refine mu_bipush (v := mI 100) B dX2_writeRun_1 (by decide) ?_
  refine mu_icmp_lt (tgt := 20) B dX2_writeRun_3 (by decide) (fun c3 => ?_) (fun c3 => ?_)
  · try rw [mI_lt ⟨by omega, by omega⟩ ⟨by omega, by omega⟩] at c3
    refine mu_il_1 B dX2_writeRun_20 ?_
    refine mu_bipush (v := mI 10) B dX2_writeRun_21 (by decide) ?_
    refine mu_icmp_lt (tgt := 40) B dX2_writeRun_23 (by decide) (fun c23 => ?_) (fun c23 => ?_)
    · try rw [mI_lt ⟨by omega, by omega⟩ ⟨by omega, by omega⟩] at c23
      refine mu_il_1 B dX2_writeRun_40 ?_
      refine mu_iconst (v := mI 2) B dX2_writeRun_41 rfl ?_
      refine mu_icmp_lt (tgt := 56) B dX2_writeRun_42 (by decide) (fun c42 => ?_) (fun c42 => ?_)
      · try rw [mI_lt ⟨by omega, by omega⟩ ⟨by omega, by omega⟩] at c42
        refine mu_al_0 B dX2_writeRun_56 ?_
        refine mu_il_2 B dX2_writeRun_57 ?_
        refine mu_cV1 B dX2_writeRun_58 mX2_39 ⟨⟨by decide, by decide⟩, by decide, by decide⟩ (Nat.le_of_ble_eq_true rfl) hF.1 (c_X2_writeByte G hi (by omega) hF) (fun r58 w58 q58 => ?_)
        obtain ⟨rfl, hX, hF2⟩ := q58
        replace hG := hG.trans hX
        clear hF
        have hF := hF2
        clear hF2 hX
        show mu_WA X G 3 _ w58 0 0 61 _ []
        refine mu_vret E rfl (by decide) (by decide) dX2_writeRun_61 ?_
        refine ⟨rfl, hG, ?_⟩
        unfold rnI
        first
          | (exfalso; omega)
          | (rw [if_pos (by omega), if_pos (by omega), if_pos (by omega)]; exact hF)
          | (rw [if_neg (by omega), if_pos (by omega), if_pos (by omega)]; exact hF)
          | (rw [if_neg (by omega), if_neg (by omega), if_pos (by omega)]; exact hF)
          | (rw [if_neg (by omega), if_neg (by omega), if_neg (by omega)]; exact hF)
      · try rw [mI_lt ⟨by omega, by omega⟩ ⟨by omega, by omega⟩] at c42
        refine mu_al_0 B dX2_writeRun_45 ?_
        refine mu_bipush (v := mI 48) B dX2_writeRun_46 (by decide) ?_
        refine mu_il_1 B dX2_writeRun_48 ?_
        refine mu_bipush (v := mI 10) B dX2_writeRun_49 (by decide) ?_
        refine mu_irem B dX2_writeRun_51 ?_ ?_
        · decide
        rw [mI_rem (by omega) (by omega) (by omega) (by omega)]
        refine mu_iadd B dX2_writeRun_52 ?_
        try rw [mI_add]
        refine mu_cV1 B dX2_writeRun_53 mX2_39 ⟨⟨by decide, by decide⟩, by decide, by decide⟩ (Nat.le_of_ble_eq_true rfl) hF.1 (c_X2_writeByte G hi (by omega) hF) (fun r53 w53 q53 => ?_)
        obtain ⟨rfl, hX, hF2⟩ := q53
        replace hG := hG.trans hX
        clear hF
        have hF := hF2
        clear hF2 hX
        show mu_WA X G 3 _ w53 0 0 56 _ []
        refine mu_al_0 B dX2_writeRun_56 ?_
        refine mu_il_2 B dX2_writeRun_57 ?_
        refine mu_cV1 B dX2_writeRun_58 mX2_39 ⟨⟨by decide, by decide⟩, by decide, by decide⟩ (Nat.le_of_ble_eq_true rfl) hF.1 (c_X2_writeByte G hi (by omega) hF) (fun r58 w58 q58 => ?_)
        obtain ⟨rfl, hX, hF2⟩ := q58
        replace hG := hG.trans hX
        clear hF
        have hF := hF2
        clear hF2 hX
        show mu_WA X G 3 _ w58 0 0 61 _ []
        refine mu_vret E rfl (by decide) (by decide) dX2_writeRun_61 ?_
        refine ⟨rfl, hG, ?_⟩
        unfold rnI
        first
          | (exfalso; omega)
          | (rw [if_pos (by omega), if_pos (by omega), if_pos (by omega)]; exact hF)
          | (rw [if_neg (by omega), if_pos (by omega), if_pos (by omega)]; exact hF)
          | (rw [if_neg (by omega), if_neg (by omega), if_pos (by omega)]; exact hF)
          | (rw [if_neg (by omega), if_neg (by omega), if_neg (by omega)]; exact hF)
    · try rw [mI_lt ⟨by omega, by omega⟩ ⟨by omega, by omega⟩] at c23
      refine mu_al_0 B dX2_writeRun_26 ?_
      refine mu_bipush (v := mI 48) B dX2_writeRun_27 (by decide) ?_
      refine mu_il_1 B dX2_writeRun_29 ?_
      refine mu_bipush (v := mI 10) B dX2_writeRun_30 (by decide) ?_
      refine mu_idiv B dX2_writeRun_32 ?_ ?_
      · decide
      rw [mI_div (by omega) (by omega) (by omega) (by omega)]
      refine mu_bipush (v := mI 10) B dX2_writeRun_33 (by decide) ?_
      refine mu_irem B dX2_writeRun_35 ?_ ?_
      · decide
      rw [mI_rem (by omega) (by omega) (by omega) (by omega)]
      refine mu_iadd B dX2_writeRun_36 ?_
      try rw [mI_add]
      refine mu_cV1 B dX2_writeRun_37 mX2_39 ⟨⟨by decide, by decide⟩, by decide, by decide⟩ (Nat.le_of_ble_eq_true rfl) hF.1 (c_X2_writeByte G hi (by omega) hF) (fun r37 w37 q37 => ?_)
      obtain ⟨rfl, hX, hF2⟩ := q37
      replace hG := hG.trans hX
      clear hF
      have hF := hF2
      clear hF2 hX
      show mu_WA X G 3 _ w37 0 0 40 _ []
      refine mu_il_1 B dX2_writeRun_40 ?_
      refine mu_iconst (v := mI 2) B dX2_writeRun_41 rfl ?_
      refine mu_icmp_lt (tgt := 56) B dX2_writeRun_42 (by decide) (fun c42 => ?_) (fun c42 => ?_)
      · try rw [mI_lt ⟨by omega, by omega⟩ ⟨by omega, by omega⟩] at c42
        refine mu_al_0 B dX2_writeRun_56 ?_
        refine mu_il_2 B dX2_writeRun_57 ?_
        refine mu_cV1 B dX2_writeRun_58 mX2_39 ⟨⟨by decide, by decide⟩, by decide, by decide⟩ (Nat.le_of_ble_eq_true rfl) hF.1 (c_X2_writeByte G hi (by omega) hF) (fun r58 w58 q58 => ?_)
        obtain ⟨rfl, hX, hF2⟩ := q58
        replace hG := hG.trans hX
        clear hF
        have hF := hF2
        clear hF2 hX
        show mu_WA X G 3 _ w58 0 0 61 _ []
        refine mu_vret E rfl (by decide) (by decide) dX2_writeRun_61 ?_
        refine ⟨rfl, hG, ?_⟩
        unfold rnI
        first
          | (exfalso; omega)
          | (rw [if_pos (by omega), if_pos (by omega), if_pos (by omega)]; exact hF)
          | (rw [if_neg (by omega), if_pos (by omega), if_pos (by omega)]; exact hF)
          | (rw [if_neg (by omega), if_neg (by omega), if_pos (by omega)]; exact hF)
          | (rw [if_neg (by omega), if_neg (by omega), if_neg (by omega)]; exact hF)
      · try rw [mI_lt ⟨by omega, by omega⟩ ⟨by omega, by omega⟩] at c42
        refine mu_al_0 B dX2_writeRun_45 ?_
        refine mu_bipush (v := mI 48) B dX2_writeRun_46 (by decide) ?_
        refine mu_il_1 B dX2_writeRun_48 ?_
        refine mu_bipush (v := mI 10) B dX2_writeRun_49 (by decide) ?_
        refine mu_irem B dX2_writeRun_51 ?_ ?_
        · decide
        rw [mI_rem (by omega) (by omega) (by omega) (by omega)]
        refine mu_iadd B dX2_writeRun_52 ?_
        try rw [mI_add]
        refine mu_cV1 B dX2_writeRun_53 mX2_39 ⟨⟨by decide, by decide⟩, by decide, by decide⟩ (Nat.le_of_ble_eq_true rfl) hF.1 (c_X2_writeByte G hi (by omega) hF) (fun r53 w53 q53 => ?_)
        obtain ⟨rfl, hX, hF2⟩ := q53
        replace hG := hG.trans hX
        clear hF
        have hF := hF2
        clear hF2 hX
        show mu_WA X G 3 _ w53 0 0 56 _ []
        refine mu_al_0 B dX2_writeRun_56 ?_
        refine mu_il_2 B dX2_writeRun_57 ?_
        refine mu_cV1 B dX2_writeRun_58 mX2_39 ⟨⟨by decide, by decide⟩, by decide, by decide⟩ (Nat.le_of_ble_eq_true rfl) hF.1 (c_X2_writeByte G hi (by omega) hF) (fun r58 w58 q58 => ?_)
        obtain ⟨rfl, hX, hF2⟩ := q58
        replace hG := hG.trans hX
        clear hF
        have hF := hF2
        clear hF2 hX
        show mu_WA X G 3 _ w58 0 0 61 _ []
        refine mu_vret E rfl (by decide) (by decide) dX2_writeRun_61 ?_
        refine ⟨rfl, hG, ?_⟩
        unfold rnI
        first
          | (exfalso; omega)
          | (rw [if_pos (by omega), if_pos (by omega), if_pos (by omega)]; exact hF)
          | (rw [if_neg (by omega), if_pos (by omega), if_pos (by omega)]; exact hF)
          | (rw [if_neg (by omega), if_neg (by omega), if_pos (by omega)]; exact hF)
          | (rw [if_neg (by omega), if_neg (by omega), if_neg (by omega)]; exact hF)
  · try rw [mI_lt ⟨by omega, by omega⟩ ⟨by omega, by omega⟩] at c3
    refine mu_al_0 B dX2_writeRun_6 ?_
    refine mu_bipush (v := mI 48) B dX2_writeRun_7 (by decide) ?_
    refine mu_il_1 B dX2_writeRun_9 ?_
    refine mu_bipush (v := mI 100) B dX2_writeRun_10 (by decide) ?_
    refine mu_idiv B dX2_writeRun_12 ?_ ?_
    · decide
    rw [mI_div (by omega) (by omega) (by omega) (by omega)]
    refine mu_bipush (v := mI 10) B dX2_writeRun_13 (by decide) ?_
    refine mu_irem B dX2_writeRun_15 ?_ ?_
    · decide
    rw [mI_rem (by omega) (by omega) (by omega) (by omega)]
    refine mu_iadd B dX2_writeRun_16 ?_
    try rw [mI_add]
    refine mu_cV1 B dX2_writeRun_17 mX2_39 ⟨⟨by decide, by decide⟩, by decide, by decide⟩ (Nat.le_of_ble_eq_true rfl) hF.1 (c_X2_writeByte G hi (by omega) hF) (fun r17 w17 q17 => ?_)
    obtain ⟨rfl, hX, hF2⟩ := q17
    replace hG := hG.trans hX
    clear hF
    have hF := hF2
    clear hF2 hX
    show mu_WA X G 3 _ w17 0 0 20 _ []
    refine mu_il_1 B dX2_writeRun_20 ?_
    refine mu_bipush (v := mI 10) B dX2_writeRun_21 (by decide) ?_
    refine mu_icmp_lt (tgt := 40) B dX2_writeRun_23 (by decide) (fun c23 => ?_) (fun c23 => ?_)
    · try rw [mI_lt ⟨by omega, by omega⟩ ⟨by omega, by omega⟩] at c23
      refine mu_il_1 B dX2_writeRun_40 ?_
      refine mu_iconst (v := mI 2) B dX2_writeRun_41 rfl ?_
      refine mu_icmp_lt (tgt := 56) B dX2_writeRun_42 (by decide) (fun c42 => ?_) (fun c42 => ?_)
      · try rw [mI_lt ⟨by omega, by omega⟩ ⟨by omega, by omega⟩] at c42
        refine mu_al_0 B dX2_writeRun_56 ?_
        refine mu_il_2 B dX2_writeRun_57 ?_
        refine mu_cV1 B dX2_writeRun_58 mX2_39 ⟨⟨by decide, by decide⟩, by decide, by decide⟩ (Nat.le_of_ble_eq_true rfl) hF.1 (c_X2_writeByte G hi (by omega) hF) (fun r58 w58 q58 => ?_)
        obtain ⟨rfl, hX, hF2⟩ := q58
        replace hG := hG.trans hX
        clear hF
        have hF := hF2
        clear hF2 hX
        show mu_WA X G 3 _ w58 0 0 61 _ []
        refine mu_vret E rfl (by decide) (by decide) dX2_writeRun_61 ?_
        refine ⟨rfl, hG, ?_⟩
        unfold rnI
        first
          | (exfalso; omega)
          | (rw [if_pos (by omega), if_pos (by omega), if_pos (by omega)]; exact hF)
          | (rw [if_neg (by omega), if_pos (by omega), if_pos (by omega)]; exact hF)
          | (rw [if_neg (by omega), if_neg (by omega), if_pos (by omega)]; exact hF)
          | (rw [if_neg (by omega), if_neg (by omega), if_neg (by omega)]; exact hF)
      · try rw [mI_lt ⟨by omega, by omega⟩ ⟨by omega, by omega⟩] at c42
        refine mu_al_0 B dX2_writeRun_45 ?_
        refine mu_bipush (v := mI 48) B dX2_writeRun_46 (by decide) ?_
        refine mu_il_1 B dX2_writeRun_48 ?_
        refine mu_bipush (v := mI 10) B dX2_writeRun_49 (by decide) ?_
        refine mu_irem B dX2_writeRun_51 ?_ ?_
        · decide
        rw [mI_rem (by omega) (by omega) (by omega) (by omega)]
        refine mu_iadd B dX2_writeRun_52 ?_
        try rw [mI_add]
        refine mu_cV1 B dX2_writeRun_53 mX2_39 ⟨⟨by decide, by decide⟩, by decide, by decide⟩ (Nat.le_of_ble_eq_true rfl) hF.1 (c_X2_writeByte G hi (by omega) hF) (fun r53 w53 q53 => ?_)
        obtain ⟨rfl, hX, hF2⟩ := q53
        replace hG := hG.trans hX
        clear hF
        have hF := hF2
        clear hF2 hX
        show mu_WA X G 3 _ w53 0 0 56 _ []
        refine mu_al_0 B dX2_writeRun_56 ?_
        refine mu_il_2 B dX2_writeRun_57 ?_
        refine mu_cV1 B dX2_writeRun_58 mX2_39 ⟨⟨by decide, by decide⟩, by decide, by decide⟩ (Nat.le_of_ble_eq_true rfl) hF.1 (c_X2_writeByte G hi (by omega) hF) (fun r58 w58 q58 => ?_)
        obtain ⟨rfl, hX, hF2⟩ := q58
        replace hG := hG.trans hX
        clear hF
        have hF := hF2
        clear hF2 hX
        show mu_WA X G 3 _ w58 0 0 61 _ []
        refine mu_vret E rfl (by decide) (by decide) dX2_writeRun_61 ?_
        refine ⟨rfl, hG, ?_⟩
        unfold rnI
        first
          | (exfalso; omega)
          | (rw [if_pos (by omega), if_pos (by omega), if_pos (by omega)]; exact hF)
          | (rw [if_neg (by omega), if_pos (by omega), if_pos (by omega)]; exact hF)
          | (rw [if_neg (by omega), if_neg (by omega), if_pos (by omega)]; exact hF)
          | (rw [if_neg (by omega), if_neg (by omega), if_neg (by omega)]; exact hF)
    · try rw [mI_lt ⟨by omega, by omega⟩ ⟨by omega, by omega⟩] at c23
      refine mu_al_0 B dX2_writeRun_26 ?_
      refine mu_bipush (v := mI 48) B dX2_writeRun_27 (by decide) ?_
      refine mu_il_1 B dX2_writeRun_29 ?_
      refine mu_bipush (v := mI 10) B dX2_writeRun_30 (by decide) ?_
      refine mu_idiv B dX2_writeRun_32 ?_ ?_
      · decide
      rw [mI_div (by omega) (by omega) (by omega) (by omega)]
      refine mu_bipush (v := mI 10) B dX2_writeRun_33 (by decide) ?_
      refine mu_irem B dX2_writeRun_35 ?_ ?_
      · decide
      rw [mI_rem (by omega) (by omega) (by omega) (by omega)]
      refine mu_iadd B dX2_writeRun_36 ?_
      try rw [mI_add]
      refine mu_cV1 B dX2_writeRun_37 mX2_39 ⟨⟨by decide, by decide⟩, by decide, by decide⟩ (Nat.le_of_ble_eq_true rfl) hF.1 (c_X2_writeByte G hi (by omega) hF) (fun r37 w37 q37 => ?_)
      obtain ⟨rfl, hX, hF2⟩ := q37
      replace hG := hG.trans hX
      clear hF
      have hF := hF2
      clear hF2 hX
      show mu_WA X G 3 _ w37 0 0 40 _ []
      refine mu_il_1 B dX2_writeRun_40 ?_
      refine mu_iconst (v := mI 2) B dX2_writeRun_41 rfl ?_
      refine mu_icmp_lt (tgt := 56) B dX2_writeRun_42 (by decide) (fun c42 => ?_) (fun c42 => ?_)
      · try rw [mI_lt ⟨by omega, by omega⟩ ⟨by omega, by omega⟩] at c42
        refine mu_al_0 B dX2_writeRun_56 ?_
        refine mu_il_2 B dX2_writeRun_57 ?_
        refine mu_cV1 B dX2_writeRun_58 mX2_39 ⟨⟨by decide, by decide⟩, by decide, by decide⟩ (Nat.le_of_ble_eq_true rfl) hF.1 (c_X2_writeByte G hi (by omega) hF) (fun r58 w58 q58 => ?_)
        obtain ⟨rfl, hX, hF2⟩ := q58
        replace hG := hG.trans hX
        clear hF
        have hF := hF2
        clear hF2 hX
        show mu_WA X G 3 _ w58 0 0 61 _ []
        refine mu_vret E rfl (by decide) (by decide) dX2_writeRun_61 ?_
        refine ⟨rfl, hG, ?_⟩
        unfold rnI
        first
          | (exfalso; omega)
          | (rw [if_pos (by omega), if_pos (by omega), if_pos (by omega)]; exact hF)
          | (rw [if_neg (by omega), if_pos (by omega), if_pos (by omega)]; exact hF)
          | (rw [if_neg (by omega), if_neg (by omega), if_pos (by omega)]; exact hF)
          | (rw [if_neg (by omega), if_neg (by omega), if_neg (by omega)]; exact hF)
      · try rw [mI_lt ⟨by omega, by omega⟩ ⟨by omega, by omega⟩] at c42
        refine mu_al_0 B dX2_writeRun_45 ?_
        refine mu_bipush (v := mI 48) B dX2_writeRun_46 (by decide) ?_
        refine mu_il_1 B dX2_writeRun_48 ?_
        refine mu_bipush (v := mI 10) B dX2_writeRun_49 (by decide) ?_
        refine mu_irem B dX2_writeRun_51 ?_ ?_
        · decide
        rw [mI_rem (by omega) (by omega) (by omega) (by omega)]
        refine mu_iadd B dX2_writeRun_52 ?_
        try rw [mI_add]
        refine mu_cV1 B dX2_writeRun_53 mX2_39 ⟨⟨by decide, by decide⟩, by decide, by decide⟩ (Nat.le_of_ble_eq_true rfl) hF.1 (c_X2_writeByte G hi (by omega) hF) (fun r53 w53 q53 => ?_)
        obtain ⟨rfl, hX, hF2⟩ := q53
        replace hG := hG.trans hX
        clear hF
        have hF := hF2
        clear hF2 hX
        show mu_WA X G 3 _ w53 0 0 56 _ []
        refine mu_al_0 B dX2_writeRun_56 ?_
        refine mu_il_2 B dX2_writeRun_57 ?_
        refine mu_cV1 B dX2_writeRun_58 mX2_39 ⟨⟨by decide, by decide⟩, by decide, by decide⟩ (Nat.le_of_ble_eq_true rfl) hF.1 (c_X2_writeByte G hi (by omega) hF) (fun r58 w58 q58 => ?_)
        obtain ⟨rfl, hX, hF2⟩ := q58
        replace hG := hG.trans hX
        clear hF
        have hF := hF2
        clear hF2 hX
        show mu_WA X G 3 _ w58 0 0 61 _ []
        refine mu_vret E rfl (by decide) (by decide) dX2_writeRun_61 ?_
        refine ⟨rfl, hG, ?_⟩
        unfold rnI
        first
          | (exfalso; omega)
          | (rw [if_pos (by omega), if_pos (by omega), if_pos (by omega)]; exact hF)
          | (rw [if_neg (by omega), if_pos (by omega), if_pos (by omega)]; exact hF)
          | (rw [if_neg (by omega), if_neg (by omega), if_pos (by omega)]; exact hF)
          | (rw [if_neg (by omega), if_neg (by omega), if_neg (by omega)]; exact hF)
