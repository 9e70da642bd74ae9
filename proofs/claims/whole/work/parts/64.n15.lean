/-! ===== the text of a field: one byte written ===== -/
def FTx (w : mu_W) (a : Nat) (i : Int) (p : Nat) (x : Int32) : Prop := mu_kd w a = some (2, 0) ∧ mu_iv w a 0 = mI i ∧ mu_iv w a 1 = mI p ∧ mu_iv w a 2 = x
def ftS (a : Nat) : Nat → Nat → Prop := fun e j => e = a ∧ 1 ≤ j ∧ j ≤ 2

set_option maxHeartbeats 4000000 in
set_option maxRecDepth 100000 in
theorem c_X2_writeByte (G : mu_G) {w : mu_W} {a : Nat} {i : Int} (hi : mi_ok i) {p : Nat} (hp : p ≤ 100000000) {x z : Int32} (hF : FTx w a i p x) : mu_Ct G M_X2_writeByte [.ref a, .int z] w (fun r w' => r = none ∧ mu_Fi (ftS a) w w' ∧ FTx w' a i (p + 1) (if (p : Int) = i then z else x)) := by
  obtain ⟨hi1, hi2⟩ := hi
  obtain ⟨ka, f0, f1, f2⟩ := hF
  refine mu_ofWA G M_X2_writeByte [.ref a, .int z] (by decide) rfl (Nat.le_of_ble_eq_true rfl) ?_
  intro X E
  have B : mu_B X G cX2_writeByte RX2 2 (mu_rm M_X2_writeByte) := E.1
  show mu_WA X G 2 _ _ 0 0 0 _ []
  refine mu_al_0 B dX2_writeByte_0 ?_
  refine mu_getI B dX2_writeByte_1 fX2_13 rfl (by assumption) ?_
  rw [f1]
  refine mu_al_0 B dX2_writeByte_4 ?_
  refine mu_getI B dX2_writeByte_5 fX2_7 rfl (by assumption) ?_
  rw [f0]
  refine mu_icmp_ne (tgt := 16) B dX2_writeByte_8 (by decide) (fun c8 => ?_) (fun c8 => ?_)
  · try rw [mI_eq ⟨by omega, by omega⟩ ⟨by omega, by omega⟩] at c8
    refine mu_al_0 B dX2_writeByte_16 ?_
    refine mu_dup B dX2_writeByte_17 rfl ?_
    refine mu_getI B dX2_writeByte_18 fX2_13 rfl (by assumption) ?_
    first
      | rw [mu_iv_oth _ _ (by omega), f1]
      | rw [f1]
    refine mu_iconst (v := mI 1) B dX2_writeByte_21 rfl ?_
    refine mu_iadd B dX2_writeByte_22 ?_
    try rw [mI_add]
    refine mu_putI B dX2_writeByte_23 fX2_13 fwX2_1 rfl (by assumption) ?_
    refine mu_vret E rfl (by decide) (by decide) dX2_writeByte_26 ?_
    first
      | (refine ⟨rfl, ((mu_Fi.refl _).si ⟨rfl, by decide, by decide⟩).si ⟨rfl, by decide, by decide⟩, ka, ?_, ?_, ?_⟩ <;> first | (simp [mu_iv_si, f0]; done) | (simp [mu_iv_si]; done) | (rw [if_pos c8]; simp [mu_iv_si]; done))
      | (refine ⟨rfl, (mu_Fi.refl _).si ⟨rfl, by decide, by decide⟩, ka, ?_, ?_, ?_⟩ <;> first | (simp [mu_iv_si, f0]; done) | (simp [mu_iv_si]; done) | (rw [if_neg c8]; simp [mu_iv_si, f2]; done))
  · try rw [mI_eq ⟨by omega, by omega⟩ ⟨by omega, by omega⟩] at c8
    refine mu_al_0 B dX2_writeByte_11 ?_
    refine mu_il_1 B dX2_writeByte_12 ?_
    refine mu_putI B dX2_writeByte_13 fX2_16 fwX2_2 rfl (by assumption) ?_
    refine mu_al_0 B dX2_writeByte_16 ?_
    refine mu_dup B dX2_writeByte_17 rfl ?_
    refine mu_getI B dX2_writeByte_18 fX2_13 rfl (by assumption) ?_
    first
      | rw [mu_iv_oth _ _ (by omega), f1]
      | rw [f1]
    refine mu_iconst (v := mI 1) B dX2_writeByte_21 rfl ?_
    refine mu_iadd B dX2_writeByte_22 ?_
    try rw [mI_add]
    refine mu_putI B dX2_writeByte_23 fX2_13 fwX2_1 rfl (by assumption) ?_
    refine mu_vret E rfl (by decide) (by decide) dX2_writeByte_26 ?_
    first
      | (refine ⟨rfl, ((mu_Fi.refl _).si ⟨rfl, by decide, by decide⟩).si ⟨rfl, by decide, by decide⟩, ka, ?_, ?_, ?_⟩ <;> first | (simp [mu_iv_si, f0]; done) | (simp [mu_iv_si]; done) | (rw [if_pos c8]; simp [mu_iv_si]; done))
      | (refine ⟨rfl, (mu_Fi.refl _).si ⟨rfl, by decide, by decide⟩, ka, ?_, ?_, ?_⟩ <;> first | (simp [mu_iv_si, f0]; done) | (simp [mu_iv_si]; done) | (rw [if_neg c8]; simp [mu_iv_si, f2]; done))
