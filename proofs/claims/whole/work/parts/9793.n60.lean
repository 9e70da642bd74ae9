/-! ===== the class's rules: text and numbers ===== -/
theorem mb_fit : ∀ n, n < 256 → fits .byte (.int (mb n)) = true := by decide +kernel
def nbk (b : Nat → Int) (s p : Nat) : Nat → Int
  | 0 => 0
  | k + 1 => nbk b s p k * (s : Int) + b (p + k) - 48
theorem nbk_be {b : Nat → Int} {s k : Nat} (h : ∀ i, i < 4 → 48 ≤ b (2 + 4 * k + i)) : nbk b s (2 + 4 * k) 4 = ((sp_be b s k : Nat) : Int) := by
  have h0 := h 0 (by decide)
  have h1 := h 1 (by decide)
  have h2 := h 2 (by decide)
  have h3 := h 3 (by decide)
  rw [Nat.add_zero] at h0
  unfold sp_be
  rw [nbk, nbk, nbk, nbk, nbk, Nat.add_zero, Int.zero_mul, Int.zero_add]
  rw [Int.natCast_add, Int.natCast_mul, Int.natCast_add, Int.natCast_mul, Int.natCast_add, Int.natCast_mul, Int.toNat_of_nonneg (by omega), Int.toNat_of_nonneg (by omega), Int.toNat_of_nonneg (by omega), Int.toNat_of_nonneg (by omega), Int.add_sub_assoc, Int.add_sub_assoc, Int.add_sub_assoc]

set_option maxHeartbeats 4000000 in
set_option maxRecDepth 100000 in
theorem c_X4_numberAt (G : mu_G) {w : mu_W} {t n : Nat} {tp : Nat → Nat} (ht : CT w t n tp) {S p : Nat} (hp : p ≤ 100000) : mu_Ct G M_X4_numberAt [.ref t, .int (mI (p : Nat)), .int (mI ((S : Nat) : Int))] w (fun r w' => r = some (.int (mI (nbk (tb n tp) S p 4))) ∧ w' = w) := by
  refine mu_ofWA G M_X4_numberAt [.ref t, .int (mI (p : Nat)), .int (mI ((S : Nat) : Int)), mu_no, mu_no] (by decide) rfl (Nat.le_of_ble_eq_true rfl) ?_
  intro X E
  have B : mu_B X G cX4_numberAt RX4 5 (mu_rm M_X4_numberAt) := E.1
  have LN : ∀ k (uu : Unit), k ≤ (4 : Nat) → (True) → mu_WA X G 5 (mu_Q X G M_X4_numberAt (fun r w' => r = some (.int (mI (nbk (tb n tp) S p 4))) ∧ w' = w)) w 0 0 5 [.ref t, .int (mI (p : Nat)), .int (mI ((S : Nat) : Int)), .int (mI (nbk (tb n tp) S p k)), .int (mI k)] [] := by
    refine mu_ind ((4 : Nat)) (fun k (uu : Unit) => mu_WA X G 5 (mu_Q X G M_X4_numberAt (fun r w' => r = some (.int (mI (nbk (tb n tp) S p 4))) ∧ w' = w)) w 0 0 5 [.ref t, .int (mI (p : Nat)), .int (mI ((S : Nat) : Int)), .int (mI (nbk (tb n tp) S p k)), .int (mI k)] []) (fun k (uu : Unit) => True) ?_
    intro k uu hk _ ih
    refine mu_il_4 B dX4_numberAt_5 ?_
    refine mu_iconst (v := mI 4) B dX4_numberAt_7 rfl ?_
    refine mu_icmp_ge (tgt := 33) B dX4_numberAt_8 (by decide) (fun c8 => ?_) (fun c8 => ?_)
    · try rw [mI_le ⟨by omega, by omega⟩ ⟨by omega, by omega⟩] at c8
      try rw [mI_le ⟨by omega, by omega⟩ ⟨by omega, by omega⟩] at c8
      obtain rfl : 4 = k := by omega
      refine mu_il_3 B dX4_numberAt_33 ?_
      refine mu_iret E rfl (by decide) (by decide) dX4_numberAt_34 ?_
      exact ⟨rfl, rfl⟩
    · try rw [mI_le ⟨by omega, by omega⟩ ⟨by omega, by omega⟩] at c8
      refine mu_il_3 B dX4_numberAt_11 ?_
      refine mu_il_2 B dX4_numberAt_12 ?_
      refine mu_imul B dX4_numberAt_13 ?_
      try rw [mI_mul]
      refine mu_al_0 B dX4_numberAt_14 ?_
      refine mu_il_1 B dX4_numberAt_15 ?_
      refine mu_il_4 B dX4_numberAt_16 ?_
      refine mu_iadd B dX4_numberAt_18 ?_
      try rw [mI_add]
      rw [show (p : Int) + (k : Int) = ((p + k : Nat) : Int) by omega]
      refine mu_eV1 B dX4_numberAt_19 mX4_67 ⟨⟨by decide, by decide⟩, by decide, by decide⟩ (Nat.le_of_ble_eq_true rfl) (by exact ht.1) (c_X10_byteAt G ht (i := p + k) (by omega)) ?_
      refine mu_iadd B dX4_numberAt_22 ?_
      try rw [mI_add]
      refine mu_bipush (v := mI 48) B dX4_numberAt_23 (by decide) ?_
      refine mu_isub B dX4_numberAt_25 ?_
      try rw [mI_sub]
      refine mu_is_3 B dX4_numberAt_26 (by decide) rfl ?_
      refine mu_inc_4 (c := mI 1) B dX4_numberAt_27 rfl (by decide) rfl ?_
      try rw [mI_add]
      refine mu_goto (tgt := 5) B dX4_numberAt_30 (by decide) ?_
      exact mu_to (ih () (by omega) trivial) rfl (by rw [show ((k + 1 : Nat) : Int) = (k : Int) + 1 by omega, nbk])
  show mu_WA X G 5 _ _ 0 0 0 _ []
  refine mu_iconst (v := mI 0) B dX4_numberAt_0 rfl ?_
  refine mu_is_3 B dX4_numberAt_1 (by decide) rfl ?_
  refine mu_iconst (v := mI 0) B dX4_numberAt_2 rfl ?_
  refine mu_is_4 B dX4_numberAt_3 (by decide) rfl ?_
  exact LN 0 () (by decide) trivial

set_option maxHeartbeats 4000000 in
set_option maxRecDepth 100000 in
theorem c_J7_copyOf (G : mu_G) {w : mu_W} {a n N : Nat} (hka : mu_kd w a = some (102, N)) (hN : N ≤ 2000) (hn : n < N) (ha : a < mu_nx w) (hft : ∀ i, i < n → fits .byte (.int (mu_iv w a i)) = true) : mu_Ct G M_J7_copyOf_9075b [.ref a, .int (mI (n : Nat))] w (fun r w' => r = some (.ref (mu_nx w)) ∧ w' = mu_ic (mu_al w 102 n) (mu_nx w) a n) := by
  refine mu_ofWA G M_J7_copyOf_9075b [.ref a, .int (mI (n : Nat)), mu_no] (by decide) rfl (Nat.le_of_ble_eq_true rfl) ?_
  intro X E
  have B : mu_B X G cJ7_copyOf_9075b RJ7 3 (mu_rm M_J7_copyOf_9075b) := E.1
  show mu_WA X G 3 _ _ 0 0 0 _ []
  refine mu_il_1 B dJ7_copyOf_9075b_0 ?_
  refine mu_al_0 B dJ7_copyOf_9075b_1 ?_
  refine mu_len (ka := 2) B dJ7_copyOf_9075b_2 (by assumption) (by decide) ?_
  refine mu_icmp_ne (tgt := 14) B dJ7_copyOf_9075b_3 (by decide) (fun c3 => ?_) (fun c3 => ?_)
  · try rw [mI_eq ⟨by omega, by omega⟩ ⟨by omega, by omega⟩] at c3
    refine mu_il_1 B dJ7_copyOf_9075b_14 ?_
    refine mu_newm (ka := 2) B dJ7_copyOf_9075b_15 rfl (by decide) aw_byte n rfl (by rw [show componentBytes (newarray.typeOf ArrayType.byte) = 1 from rfl]; omega) (by omega) (by decide) (by show 0 + n ≤ 2000; omega) ?_
    refine mu_as_2 B dJ7_copyOf_9075b_17 (by decide) rfl ?_
    refine mu_al_0 B dJ7_copyOf_9075b_18 ?_
    refine mu_iconst (v := mI 0) B dJ7_copyOf_9075b_19 rfl ?_
    refine mu_al_2 B dJ7_copyOf_9075b_20 ?_
    refine mu_iconst (v := mI 0) B dJ7_copyOf_9075b_21 rfl ?_
    refine mu_al_0 B dJ7_copyOf_9075b_22 ?_
    refine mu_len (ka := 2) B dJ7_copyOf_9075b_23 (by rw [mu_kd_al, if_neg (by omega)]; exact hka) (by decide) ?_
    refine mu_il_1 B dJ7_copyOf_9075b_24 ?_
    refine mu_mmin B dJ7_copyOf_9075b_25 mlJ7_304 ⟨by decide, by decide⟩ (Nat.le_of_ble_eq_true rfl) ⟨by decide, by show 0 + n ≤ 2000; omega⟩ ?_
    rw [mI_minN (by omega) (by omega), Nat.min_eq_right (by omega)]
    refine mu_acB (n := n) B dJ7_copyOf_9075b_28 mlJ7_150 ⟨by decide, by decide⟩ (Nat.le_of_ble_eq_true rfl) (by rw [mu_kd_al, if_neg (by omega)]; exact hka) (by rw [mu_kd_al, if_pos rfl]) (by omega) (Nat.le_refl _) (by omega) (fun i hi => by rw [mu_iv_al, if_neg (by omega)]; exact hft i hi) ?_
    refine mu_al_2 B dJ7_copyOf_9075b_31 ?_
    refine mu_aret E rfl (by simp) (by decide) (by show 0 + n ≤ 2000; omega) dJ7_copyOf_9075b_32 (by simp) ?_
    exact ⟨rfl, rfl⟩
  · try rw [mI_eq ⟨by omega, by omega⟩ ⟨by omega, by omega⟩] at c3
    exfalso
    omega

set_option maxHeartbeats 4000000 in
set_option maxRecDepth 100000 in
theorem c_X10_copy (G : mu_G) {w : mu_W} {t n : Nat} {tp : Nat → Nat} (ht : CT w t n tp) (hn : n < 2000) (hnx : t + 1 < mu_nx w) : mu_Ct G M_X10_copy [.ref t] w (fun r w' => r = some (.ref (mu_nx w)) ∧ w' = mu_ic (mu_al w 102 n) (mu_nx w) (t + 1) n) := by
  obtain ⟨kt, rt, ka, hok, hlen, hby⟩ := id ht
  have hn2 := hok.1
  refine mu_ofWA G M_X10_copy [.ref t] (by decide) rfl (Nat.le_of_ble_eq_true rfl) ?_
  intro X E
  have B : mu_B X G cX10_copy RX10 1 (mu_rm M_X10_copy) := E.1
  show mu_WA X G 1 _ _ 0 0 0 _ []
  refine mu_al_0 B dX10_copy_0 ?_
  refine mu_getR B dX10_copy_1 fX10_9 rfl (by assumption) (by assumption) ?_
  refine mu_al_0 B dX10_copy_4 ?_
  refine mu_getI B dX10_copy_5 fX10_13 rfl (by assumption) ?_
  rw [hlen]
  refine mu_eS2 B dX10_copy_8 mX10_17 ⟨⟨by decide, by decide⟩, by decide, by decide⟩ (Nat.le_of_ble_eq_true rfl) (c_J7_copyOf G ka (by decide) hn hnx (fun i hi => by rw [hby i hi]; exact mb_fit _ (hok.2 i hi))) ?_
  refine mu_aret E rfl (by simp) (by decide) (by decide) dX10_copy_11 (by simp) ?_
  exact ⟨rfl, rfl⟩
