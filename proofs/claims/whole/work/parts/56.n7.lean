/-! ===== the lowest bit of a long ===== -/
theorem pcn_ones : ∀ n k, k ≤ n → pcn n (2 ^ k - 1) = k
  | 0, k, h => by rw [show k = 0 by omega]; rfl
  | n + 1, 0, _ => by
    rw [pcn, show (2 ^ 0 - 1) % 2 = 0 from rfl, show (2 ^ 0 - 1) / 2 = 2 ^ 0 - 1 from rfl, pcn_ones n 0 (Nat.zero_le _)]
  | n + 1, k + 1, h => by
    have hp : 0 < 2 ^ k := Nat.two_pow_pos k
    rw [pcn, Nat.pow_succ, show (2 ^ k * 2 - 1) % 2 = 1 by omega, show (2 ^ k * 2 - 1) / 2 = 2 ^ k - 1 by omega, pcn_ones n k (by omega)]
    omega
theorem lb_neg (x : Int64) (h : un x ≠ 0) {i : Nat} (hi : i < 64) : lb (-x) i = !(un x - 1).testBit i := by
  have hx := un_lt x
  have e : un (-x) = 2 ^ 64 - ((un x - 1) + 1) := by
    unfold un at *
    rw [Int64.toBitVec_neg, BitVec.toNat_neg]
    have : (x.toBitVec.toNat - 1) + 1 = x.toBitVec.toNat := by omega
    rw [this, Nat.mod_eq_of_lt (by omega)]
  rw [lb_un, e, Nat.testBit_two_pow_sub_succ (by omega), decide_eq_true hi, Bool.true_and]
theorem low_bit {x : Int64} {k : Nat} (hk : k < 64) (h1 : lb x k = true) (h0 : ∀ i, i < k → lb x i = false) : pcn 64 (un ((x &&& -x) - mL 1)) = k := by
  have hu0 : un x ≠ 0 := fun e => by rw [lb_un, e, Nat.zero_testBit] at h1; cases h1
  have hmod : un x % 2 ^ (k + 1) = 2 ^ k := by
    apply Nat.eq_of_testBit_eq
    intro i
    rw [Nat.testBit_mod_two_pow, Nat.testBit_two_pow]
    by_cases e1 : i = k
    · subst e1
      rw [lb_un] at h1
      simp [h1]
    · by_cases e2 : i < k
      · have := h0 i e2
        rw [lb_un] at this
        rw [this]
        simp [Ne.symm e1]
      · simp [show ¬ i < k + 1 by omega, Ne.symm e1]
  have hp : 0 < 2 ^ k := Nat.two_pow_pos k
  have hd := Nat.div_add_mod (un x) (2 ^ (k + 1))
  rw [hmod] at hd
  have hps : 2 ^ (k + 1) = 2 ^ k * 2 := Nat.pow_succ 2 k
  have hm1 : (un x - 1) % 2 ^ (k + 1) = 2 ^ k - 1 := by
    rw [← hd, show 2 ^ (k + 1) * (un x / 2 ^ (k + 1)) + 2 ^ k - 1 = 2 ^ (k + 1) * (un x / 2 ^ (k + 1)) + (2 ^ k - 1) by omega, Nat.mul_add_mod, Nat.mod_eq_of_lt (by omega)]
  have hd1 : (un x - 1) / 2 ^ (k + 1) = un x / 2 ^ (k + 1) := by
    have e : un x - 1 = 2 ^ (k + 1) * (un x / 2 ^ (k + 1)) + (2 ^ k - 1) := by omega
    rw [e, Nat.mul_add_div (by omega), Nat.div_eq_of_lt (a := 2 ^ k - 1) (by omega), Nat.add_zero]
  have hand : un (x &&& -x) = 2 ^ k := by
    apply Nat.eq_of_testBit_eq
    intro i
    rw [Nat.testBit_two_pow]
    by_cases hi : i < 64
    · have e : (un (x &&& -x)).testBit i = (lb x i && lb (-x) i) := by rw [← lb_un, lb_and]
      rw [e, lb_neg x hu0 hi]
      by_cases e1 : i = k
      · subst e1
        have : (un x - 1).testBit i = false := by
          have e2 : (un x - 1).testBit i = ((un x - 1) % 2 ^ (i + 1)).testBit i := by rw [Nat.testBit_mod_two_pow]; simp
          rw [e2, hm1]
          exact Nat.testBit_lt_two_pow (by omega)
        rw [h1, this]; simp
      · by_cases e2 : i < k
        · rw [h0 i e2]; simp [Ne.symm e1]
        · have e3 : (un x - 1).testBit i = lb x i := by
            rw [lb_un]
            have a : ∀ n : Nat, n.testBit i = (n / 2 ^ (k + 1)).testBit (i - (k + 1)) := fun n => by
              rw [← Nat.shiftRight_eq_div_pow, Nat.testBit_shiftRight, show k + 1 + (i - (k + 1)) = i by omega]
            rw [a (un x - 1), a (un x), hd1]
          rw [e3]
          cases lb x i <;> simp [Ne.symm e1]
    · rw [← lb_un, lb_big _ (by omega)]
      simp [show ¬ k = i by omega]
  have h1u : un (mL 1) = 1 := by decide
  rw [un_sub (by rw [hand, h1u]; exact hp), hand, h1u]
  exact pcn_ones 64 k (by omega)
theorem low_ex {x : Int64} (h : x ≠ 0) : ∃ k, k < 64 ∧ lb x k = true ∧ ∀ i, i < k → lb x i = false := by
  have : ∀ n, n ≤ 64 → (∃ k, k < n ∧ lb x k = true ∧ ∀ i, i < k → lb x i = false) ∨ ∀ i, i < n → lb x i = false := by
    intro n
    induction n with
    | zero => exact fun _ => Or.inr (fun i hi => absurd hi (Nat.not_lt_zero i))
    | succ n ih =>
      intro hn
      rcases ih (by omega) with ⟨k, h1, h2⟩ | h1
      · exact Or.inl ⟨k, by omega, h2⟩
      · by_cases q : lb x n = true
        · exact Or.inl ⟨n, by omega, q, h1⟩
        · refine Or.inr (fun i hi => ?_)
          by_cases e : i = n
          · rw [e]; exact Bool.eq_false_iff.mpr q
          · exact h1 i (by omega)
  rcases this 64 (Nat.le_refl _) with h1 | h1
  · exact h1
  · exact absurd (lb_zero.mpr h1) h
/-- bit x of four words -/
def b4 (w : mu_W) (a fr x : Nat) : Bool := lb (mu_lg w a (fr + x / 64)) (x % 64)
def lo_post (w : mu_W) (a : Nat) (r : Option Value) (w' : mu_W) : Prop := w' = w ∧ ((∃ x, x < 256 ∧ b4 w a 0 x = true ∧ (∀ j, j < x → b4 w a 0 j = false) ∧ r = some (.int (mI (x : Nat)))) ∨ ((∀ x, x < 256 → b4 w a 0 x = false) ∧ r = some (.int (mI (-1)))))

set_option maxHeartbeats 4000000 in
set_option maxRecDepth 100000 in
theorem c_X1_lowestOf (G : mu_G) {w : mu_W} {a : Nat} (hka : mu_kd w a = some (101, 4)) : mu_Ct G M_X1_lowestOf [.ref a] w (lo_post w a) := by
  refine mu_ofWA G M_X1_lowestOf [.ref a, mu_no] (by decide) rfl (Nat.le_of_ble_eq_true rfl) ?_
  intro X E
  have B : mu_B X G cX1_lowestOf RX1 2 (mu_rm M_X1_lowestOf) := E.1
  have LL : ∀ k (u9 : Unit), k ≤ (4 : Nat) → (∀ j : Nat, j < 64 * k → b4 w a 0 j = false) → mu_WA X G 2 (mu_Q X G M_X1_lowestOf (lo_post w a)) w 0 0 2 [.ref a, .int (mI k)] [] := by
    refine mu_ind ((4 : Nat)) (fun k (u9 : Unit) => mu_WA X G 2 (mu_Q X G M_X1_lowestOf (lo_post w a)) w 0 0 2 [.ref a, .int (mI k)] []) (fun k (u9 : Unit) => ∀ j : Nat, j < 64 * k → b4 w a 0 j = false) ?_
    intro k u9 hk hz ih
    refine mu_il_1 B dX1_lowestOf_2 ?_
    refine mu_iconst (v := mI 4) B dX1_lowestOf_3 rfl ?_
    refine mu_icmp_ge (tgt := 40) B dX1_lowestOf_4 (by decide) (fun c4 => ?_) (fun c4 => ?_)
    · try rw [mI_le ⟨by omega, by omega⟩ ⟨by omega, by omega⟩] at c4
      obtain rfl : 4 = k := by omega
      refine mu_iconst (v := mI (-1)) B dX1_lowestOf_40 rfl ?_
      refine mu_iret E rfl (by decide) (by decide) dX1_lowestOf_41 ?_
      exact ⟨rfl, Or.inr ⟨fun x hx => hz x (by omega), rfl⟩⟩
    · try rw [mI_le ⟨by omega, by omega⟩ ⟨by omega, by omega⟩] at c4
      refine mu_al_0 B dX1_lowestOf_7 ?_
      refine mu_il_1 B dX1_lowestOf_8 ?_
      refine mu_lald B dX1_lowestOf_9 hka (mI_inN (by omega) (by decide)) ?_
      rw [mI_clampN (by omega)]
      refine mu_lconst (v := mL 0) B dX1_lowestOf_10 rfl ?_
      refine mu_lcmp B dX1_lowestOf_11 ?_
      refine mu_if_eq (tgt := 34) B dX1_lowestOf_12 (by decide) (fun c12 => ?_) (fun c12 => ?_)
      · rw [lg_cmp_eq] at c12
        refine mu_inc_1 (c := mI 1) B dX1_lowestOf_34 rfl (by decide) rfl ?_
        try rw [mI_add]
        refine mu_goto (tgt := 2) B dX1_lowestOf_37 (by decide) ?_
        refine mu_to (ih () (by omega) (fun j hj => ?_)) rfl (by rw [show ((k + 1 : Nat) : Int) = (k : Int) + 1 by omega])
        by_cases e9 : j < 64 * k
        · exact hz j e9
        · unfold b4; rw [show j / 64 = k by omega, Nat.zero_add, c12]; exact lb_0 _
      · rw [lg_cmp_eq] at c12
        obtain ⟨b, hb1, hb2, hb3⟩ := low_ex c12
        refine mu_il_1 B dX1_lowestOf_15 ?_
        refine mu_bipush (v := mI 64) B dX1_lowestOf_16 (by decide) ?_
        refine mu_imul B dX1_lowestOf_18 ?_
        try rw [mI_mul]
        refine mu_al_0 B dX1_lowestOf_19 ?_
        refine mu_il_1 B dX1_lowestOf_20 ?_
        refine mu_lald B dX1_lowestOf_21 hka (mI_inN (by omega) (by decide)) ?_
        rw [mI_clampN (by omega)]
        refine mu_al_0 B dX1_lowestOf_22 ?_
        refine mu_il_1 B dX1_lowestOf_23 ?_
        refine mu_lald B dX1_lowestOf_24 hka (mI_inN (by omega) (by decide)) ?_
        rw [mI_clampN (by omega)]
        refine mu_lneg B dX1_lowestOf_25 ?_
        try rw [mL_neg]
        refine mu_land B dX1_lowestOf_26 ?_
        refine mu_lconst (v := mL 1) B dX1_lowestOf_27 rfl ?_
        refine mu_lsub B dX1_lowestOf_28 ?_
        try rw [mL_sub]
        refine mu_eS1 B dX1_lowestOf_29 mX1_85 ⟨⟨by decide, by decide⟩, by decide, by decide⟩ (Nat.le_of_ble_eq_true rfl) (c_J13_bitCount G) ?_
        rw [low_bit hb1 hb2 hb3]
        refine mu_iadd B dX1_lowestOf_32 ?_
        try rw [mI_add]
        refine mu_iret E rfl (by decide) (by decide) dX1_lowestOf_33 ?_
        refine ⟨rfl, Or.inl ⟨64 * k + b, by omega, ?_, fun j hj => ?_, by congr 3; omega⟩⟩
        · unfold b4; rw [show (64 * k + b) / 64 = k by omega, show (64 * k + b) % 64 = b by omega, Nat.zero_add]; exact hb2
        · by_cases e9 : j < 64 * k
          · exact hz j e9
          · unfold b4; rw [show j / 64 = k by omega, Nat.zero_add]; exact hb3 _ (by omega)
  show mu_WA X G 2 _ _ 0 0 0 _ []
  refine mu_iconst (v := mI 0) B dX1_lowestOf_0 rfl ?_
  refine mu_is_1 B dX1_lowestOf_1 (by decide) rfl ?_
  exact LL 0 () (by decide) (fun j hj => absurd hj (by omega))

def hi_post (w : mu_W) (a fr : Nat) (r : Option Value) (w' : mu_W) : Prop := w' = w ∧ ((∃ x, x < 256 ∧ b4 w a fr x = true ∧ (∀ j, x < j → j < 256 → b4 w a fr j = false) ∧ r = some (.int (mI (x : Nat)))) ∨ ((∀ x, x < 256 → b4 w a fr x = false) ∧ r = some (.int (mI (-1)))))
theorem ush_zero {x : Int64} {k : Nat} (hk : k < 64) : (x.toUInt64 >>> ((mI (k : Int)).toInt64.toUInt64 &&& Int64.toUInt64 63)).toInt64 = mL 0 ↔ ∀ i, k ≤ i → i < 64 → lb x i = false := by
  rw [show mL 0 = 0 from rfl, lb_zero]
  constructor
  · intro h i h1 h2
    have := h (i - k) (by omega)
    rw [lb_ush x hk, show k + (i - k) = i by omega] at this
    exact this
  · intro h i hi
    rw [lb_ush x hk]
    by_cases q : k + i < 64
    · exact h _ (by omega) q
    · exact lb_big _ (by omega)

set_option maxHeartbeats 4000000 in
set_option maxRecDepth 100000 in
theorem c_X1_highestOf (G : mu_G) {w : mu_W} {a N fr : Nat} (hka : mu_kd w a = some (101, N)) (hN : fr + 4 ≤ N) (hN2 : N ≤ 1000000) : mu_Ct G M_X1_highestOf [.ref a, .int (mI fr)] w (hi_post w a fr) := by
  refine mu_ofWA G M_X1_highestOf [.ref a, .int (mI fr), mu_no, mu_no, mu_no] (by decide) rfl (Nat.le_of_ble_eq_true rfl) ?_
  intro X E
  have B : mu_B X G cX1_highestOf RX1 5 (mu_rm M_X1_highestOf) := E.1
  have LH : ∀ k (u9 : Unit), k ≤ (4 : Nat) → (∀ j : Nat, 64 * (4 - k) ≤ j → j < 256 → b4 w a fr j = false) → mu_WA X G 5 (mu_Q X G M_X1_highestOf (hi_post w a fr)) w 0 0 2 [.ref a, .int (mI fr), .int (mI (3 - (k : Int))), mu_no, mu_no] [] := by
    refine mu_ind ((4 : Nat)) (fun k (u9 : Unit) => mu_WA X G 5 (mu_Q X G M_X1_highestOf (hi_post w a fr)) w 0 0 2 [.ref a, .int (mI fr), .int (mI (3 - (k : Int))), mu_no, mu_no] []) (fun k (u9 : Unit) => ∀ j : Nat, 64 * (4 - k) ≤ j → j < 256 → b4 w a fr j = false) ?_
    intro k u9 hk hz ih
    refine mu_il_2 B dX1_highestOf_2 ?_
    refine mu_if_lt (tgt := 71) B dX1_highestOf_3 (by decide) (fun c3 => ?_) (fun c3 => ?_)
    · try rw [mI_lt0 ⟨by omega, by omega⟩] at c3
      obtain rfl : 4 = k := by omega
      refine mu_iconst (v := mI (-1)) B dX1_highestOf_71 rfl ?_
      refine mu_iret E rfl (by decide) (by decide) dX1_highestOf_72 ?_
      exact ⟨rfl, Or.inr ⟨fun x hx => hz x (by omega) hx, rfl⟩⟩
    · try rw [mI_lt0 ⟨by omega, by omega⟩] at c3
      refine mu_il_1 B dX1_highestOf_6 ?_
      refine mu_il_2 B dX1_highestOf_7 ?_
      refine mu_iadd B dX1_highestOf_8 ?_
      try rw [mI_add]
      try rw [mI_add]
      rw [show (fr : Int) + (3 - (k : Int)) = ((fr + (3 - k) : Nat) : Int) by omega]
      refine mu_is_3 B dX1_highestOf_9 (by decide) rfl ?_
      refine mu_il_3 B dX1_highestOf_10 ?_
      refine mu_if_lt (tgt := 65) B dX1_highestOf_11 (by decide) (fun c11 => ?_) (fun c11 => ?_)
      · try rw [mI_lt0 ⟨by omega, by omega⟩] at c11
        exfalso
        omega
      · try rw [mI_lt0 ⟨by omega, by omega⟩] at c11
        refine mu_il_3 B dX1_highestOf_14 ?_
        refine mu_al_0 B dX1_highestOf_15 ?_
        refine mu_len (ka := 1) B dX1_highestOf_16 hka (by decide) ?_
        refine mu_icmp_ge (tgt := 65) B dX1_highestOf_17 (by decide) (fun c17 => ?_) (fun c17 => ?_)
        · try rw [mI_le ⟨by omega, by omega⟩ ⟨by omega, by omega⟩] at c17
          exfalso
          omega
        · try rw [mI_le ⟨by omega, by omega⟩ ⟨by omega, by omega⟩] at c17
          refine mu_al_0 B dX1_highestOf_20 ?_
          refine mu_il_3 B dX1_highestOf_21 ?_
          refine mu_lald B dX1_highestOf_22 hka (mI_inN (by omega) (by omega)) ?_
          rw [mI_clampN (by omega)]
          refine mu_lconst (v := mL 0) B dX1_highestOf_23 rfl ?_
          refine mu_lcmp B dX1_highestOf_24 ?_
          refine mu_if_ne (tgt := 31) B dX1_highestOf_25 (by decide) (fun c25 => ?_) (fun c25 => ?_)
          · rw [lg_cmp_eq] at c25
            have hnz : (mu_lg w a (fr + (3 - k))) ≠ 0 := c25
            have KE : ∀ t, t ≤ 63 → lb (mu_lg w a (fr + (3 - k))) (63 - t) = true → (∀ i, 63 - t < i → i < 64 → lb (mu_lg w a (fr + (3 - k))) i = false) → mu_WA X G 5 (mu_Q X G M_X1_highestOf (hi_post w a fr)) w 0 0 57 [.ref a, .int (mI fr), .int (mI (3 - (k : Int))), .int (mI ((fr + (3 - k) : Nat) : Int)), .int (mI (63 - (t : Int)))] [] := by
              intro t ht hset hab
              refine mu_il_2 B dX1_highestOf_57 ?_
              refine mu_bipush (v := mI 64) B dX1_highestOf_58 (by decide) ?_
              refine mu_imul B dX1_highestOf_60 ?_
              try rw [mI_mul]
              refine mu_il_4 B dX1_highestOf_61 ?_
              refine mu_iadd B dX1_highestOf_63 ?_
              try rw [mI_add]
              refine mu_iret E rfl (by decide) (by decide) dX1_highestOf_64 ?_
              refine ⟨rfl, Or.inl ⟨64 * (3 - k) + (63 - t), by omega, ?_, fun j h1 h2 => ?_, by congr 3; omega⟩⟩
              · unfold b4; rw [show (64 * (3 - k) + (63 - t)) / 64 = 3 - k by omega, show (64 * (3 - k) + (63 - t)) % 64 = 63 - t by omega]; exact hset
              · by_cases e9 : 64 * (4 - k) ≤ j
                · exact hz j e9 h2
                · unfold b4; rw [show j / 64 = 3 - k by omega]; exact hab _ (by omega) (by omega)
            have LI : ∀ t (u9 : Unit), t ≤ (63 : Nat) → (∀ i : Nat, 63 - t < i → i < 64 → lb (mu_lg w a (fr + (3 - k))) i = false) → mu_WA X G 5 (mu_Q X G M_X1_highestOf (hi_post w a fr)) w 0 0 35 [.ref a, .int (mI fr), .int (mI (3 - (k : Int))), .int (mI ((fr + (3 - k) : Nat) : Int)), .int (mI (63 - (t : Int)))] [] := by
              refine mu_ind ((63 : Nat)) (fun t (u9 : Unit) => mu_WA X G 5 (mu_Q X G M_X1_highestOf (hi_post w a fr)) w 0 0 35 [.ref a, .int (mI fr), .int (mI (3 - (k : Int))), .int (mI ((fr + (3 - k) : Nat) : Int)), .int (mI (63 - (t : Int)))] []) (fun t (u9 : Unit) => ∀ i : Nat, 63 - t < i → i < 64 → lb (mu_lg w a (fr + (3 - k))) i = false) ?_
              intro t u9 ht hab iht
              refine mu_il_4 B dX1_highestOf_35 ?_
              refine mu_if_le (tgt := 57) B dX1_highestOf_37 (by decide) (fun c37 => ?_) (fun c37 => ?_)
              · try rw [mI_le0 ⟨by omega, by omega⟩] at c37
                try rw [mI_le0 ⟨by omega, by omega⟩] at c37
                obtain rfl : 63 = t := by omega
                refine KE 63 (by decide) ?_ hab
                obtain ⟨b, hb1, hb2, hb3⟩ := low_ex hnz
                by_cases e9 : b = 0
                · rw [e9] at hb2; exact hb2
                · exact absurd hb2 (by rw [hab b (by omega) hb1]; decide)
              · try rw [mI_le0 ⟨by omega, by omega⟩] at c37
                refine mu_al_0 B dX1_highestOf_40 ?_
                refine mu_il_3 B dX1_highestOf_41 ?_
                refine mu_lald B dX1_highestOf_42 hka (mI_inN (by omega) (by omega)) ?_
                rw [mI_clampN (by omega)]
                refine mu_il_4 B dX1_highestOf_43 ?_
                rw [show (63 : Int) - (t : Int) = ((63 - t : Nat) : Int) by omega]
                refine mu_lushr B dX1_highestOf_45 rfl ?_
                refine mu_lconst (v := mL 0) B dX1_highestOf_46 rfl ?_
                refine mu_lcmp B dX1_highestOf_47 ?_
                refine mu_if_ne (tgt := 57) B dX1_highestOf_48 (by decide) (fun c48 => ?_) (fun c48 => ?_)
                · rw [lg_cmp_eq, ush_zero (by omega)] at c48
                  rw [show ((63 - t : Nat) : Int) = (63 : Int) - (t : Int) by omega]
                  refine KE t (by omega) ?_ hab
                  refine Classical.byContradiction (fun hh => c48 (fun i h1 h2 => ?_))
                  by_cases e9 : i = 63 - t
                  · rw [e9]; exact Bool.eq_false_iff.mpr hh
                  · exact hab i (by omega) h2
                · rw [lg_cmp_eq, ush_zero (by omega)] at c48
                  rw [show ((63 - t : Nat) : Int) = (63 : Int) - (t : Int) by omega]
                  refine mu_inc_4 (c := mI (-1)) B dX1_highestOf_51 rfl (by decide) rfl ?_
                  try rw [mI_add]
                  refine mu_goto (tgt := 35) B dX1_highestOf_54 (by decide) ?_
                  refine mu_to (iht () (by omega) (fun i h1 h2 => c48 i (by omega) h2)) rfl (by rw [show (63 : Int) - ((t + 1 : Nat) : Int) = (63 : Int) - (t : Int) + -1 by omega])
            refine mu_bipush (v := mI 63) B dX1_highestOf_31 (by decide) ?_
            refine mu_is_4 B dX1_highestOf_33 (by decide) rfl ?_
            exact mu_to (LI 0 () (by decide) (fun i h1 h2 => absurd h1 (by omega))) rfl (by rw [Int.natCast_zero, Int.sub_zero])
          · rw [lg_cmp_eq] at c25
            refine mu_goto (tgt := 65) B dX1_highestOf_28 (by decide) ?_
            refine mu_inc_2 (c := mI (-1)) B dX1_highestOf_65 rfl (by decide) rfl ?_
            try rw [mI_add]
            refine mu_goto (tgt := 2) B dX1_highestOf_68 (by decide) ?_
            refine mu_fg (ih () (by omega) (fun j h1 h2 => ?_)) rfl (by rw [show (3 : Int) - ((k + 1 : Nat) : Int) = (3 : Int) - (k : Int) + -1 by omega]; exact ⟨Or.inl rfl, Or.inl rfl, Or.inl rfl, Or.inr rfl, Or.inr rfl, trivial⟩)
            by_cases e9 : 64 * (4 - k) ≤ j
            · exact hz j e9 h2
            · unfold b4; rw [show j / 64 = 3 - k by omega, c25]; exact lb_0 _
  show mu_WA X G 5 _ _ 0 0 0 _ []
  refine mu_iconst (v := mI 3) B dX1_highestOf_0 rfl ?_
  refine mu_is_2 B dX1_highestOf_1 (by decide) rfl ?_
  exact mu_to (LH 0 () (by decide) (fun j h1 h2 => absurd h1 (by omega))) rfl (by rw [Int.natCast_zero, Int.sub_zero])
