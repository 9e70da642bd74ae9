/-! ===== the class's balance: rows of longs ===== -/
theorem rem_half {g l : Nat} (hl : 0 < l) (h : l ≤ g) : 2 * (g % l) ≤ g := by
  have h1 := Nat.mod_lt g hl
  have h2 := Nat.div_add_mod g l
  have h3 : 1 ≤ g / l := Nat.div_pos h hl
  have h4 : l * 1 ≤ l * (g / l) := Nat.mul_le_mul_left l h3
  omega
/-- the rests shrink -/
def GCi (G k g l : Nat) : Prop := Nat.gcd g l = G ∧ g < 2 ^ 63 ∧ l < 2 ^ 63 ∧ (k = 0 ∨ (l ≤ g ∧ l * g * 2 ^ (k - 1) < 2 ^ 126))
theorem GCi.step {G k g l : Nat} (h : GCi G k g l) (hl : l ≠ 0) : GCi G (k + 1) l (g % l) := by
  obtain ⟨h1, h2, h3, h4⟩ := h
  have hm := Nat.mod_lt g (Nat.pos_of_ne_zero hl)
  refine ⟨?_, h3, by omega, Or.inr ⟨by omega, ?_⟩⟩
  · rw [← h1, Nat.gcd_comm l (g % l), ← Nat.gcd_rec, Nat.gcd_comm]
  · rw [Nat.add_sub_cancel]
    rcases h4 with h4 | ⟨h4, h5⟩
    · subst h4
      rw [Nat.pow_zero, Nat.mul_one]
      have := Nat.mul_lt_mul'' (show g % l < 2 ^ 63 by omega) h3
      exact this
    · by_cases hk : k = 0
      · subst hk
        rw [Nat.pow_zero, Nat.mul_one]
        have := Nat.mul_lt_mul'' (show g % l < 2 ^ 63 by omega) h3
        exact this
      · have h6 := rem_half (Nat.pos_of_ne_zero hl) h4
        have h7 : 2 * (g % l) * l ≤ g * l := Nat.mul_le_mul_right l h6
        have h8 : 2 ^ k = 2 * 2 ^ (k - 1) := by
          obtain ⟨m, rfl⟩ : ∃ m, k = m + 1 := ⟨k - 1, by omega⟩
          rw [Nat.add_sub_cancel, Nat.pow_succ, Nat.mul_comm]
        have h9 : g % l * l * 2 ^ k = 2 * (g % l) * l * 2 ^ (k - 1) := by rw [h8]; simp only [Nat.mul_assoc, Nat.mul_left_comm, Nat.mul_comm]
        rw [h9]
        refine Nat.lt_of_le_of_lt (Nat.mul_le_mul_right _ h7) ?_
        rw [Nat.mul_comm g l]
        exact h5
theorem GCi.end {G g l : Nat} (h : GCi G 200 g l) : l = 0 := by
  obtain ⟨h1, h2, h3, h4⟩ := h
  rcases h4 with h4 | ⟨h4, h5⟩
  · omega
  · by_cases q : l = 0
    · exact q
    · exfalso
      have h6 : 1 * 1 ≤ l * g := Nat.mul_le_mul (by omega) (by omega)
      have h7 : 1 * 2 ^ (200 - 1) ≤ l * g * 2 ^ (200 - 1) := Nat.mul_le_mul_right _ (by omega)
      have h8 : 1 * 2 ^ (200 - 1) < 2 ^ 126 := Nat.lt_of_le_of_lt h7 h5
      exact absurd h8 (by decide)
theorem abs_mL {e : Int} (h : e.natAbs < 9223372036854775808) : (if 0 < mL e then mL e else -mL e) = mL (e.natAbs : Nat) := by
  rw [show (0 : Int64) = mL 0 from rfl]
  by_cases q : 0 < e
  · rw [if_pos (by rw [mL_lt ⟨by omega, by omega⟩ ⟨by omega, by omega⟩]; exact q), show ((e.natAbs : Nat) : Int) = e by omega]
  · rw [if_neg (by rw [mL_lt ⟨by omega, by omega⟩ ⟨by omega, by omega⟩]; exact q), mL_neg, show ((e.natAbs : Nat) : Int) = -e by omega]

set_option maxHeartbeats 4000000 in
set_option maxRecDepth 100000 in
theorem c_X0_commonDivisor (G : mu_G) {w : mu_W} {g0 l0 : Nat} (hg : g0 < 9223372036854775808) (hl : l0 < 9223372036854775808) : mu_Ct G M_X0_commonDivisor [.long (mL (g0 : Nat)), .long (mL (l0 : Nat))] w (fun r w' => r = some (.long (mL (Nat.gcd g0 l0 : Nat))) ∧ w' = w) := by
  refine mu_ofWA G M_X0_commonDivisor [.long (mL (g0 : Nat)), mu_no, .long (mL (l0 : Nat)), mu_no, mu_no, mu_no, mu_no, mu_no, mu_no, mu_no, mu_no] (by decide) rfl (Nat.le_of_ble_eq_true rfl) ?_
  intro X E
  have B : mu_B X G cX0_commonDivisor RX0 11 (mu_rm M_X0_commonDivisor) := E.1
  have LG : ∀ k (q : Nat × Nat), k ≤ (200 : Nat) → (GCi (Nat.gcd g0 l0) k q.1 q.2) → mu_WA X G 11 (mu_Q X G M_X0_commonDivisor (fun r w' => r = some (.long (mL (Nat.gcd g0 l0 : Nat))) ∧ w' = w)) w 0 0 9 [.long (mL (g0 : Nat)), mu_no, .long (mL (l0 : Nat)), mu_no, .long (mL (q.1 : Nat)), mu_no, .long (mL (q.2 : Nat)), mu_no, .int (mI k), mu_no, mu_no] [] := by
    refine mu_ind ((200 : Nat)) (fun k (q : Nat × Nat) => mu_WA X G 11 (mu_Q X G M_X0_commonDivisor (fun r w' => r = some (.long (mL (Nat.gcd g0 l0 : Nat))) ∧ w' = w)) w 0 0 9 [.long (mL (g0 : Nat)), mu_no, .long (mL (l0 : Nat)), mu_no, .long (mL (q.1 : Nat)), mu_no, .long (mL (q.2 : Nat)), mu_no, .int (mI k), mu_no, mu_no] []) (fun k (q : Nat × Nat) => GCi (Nat.gcd g0 l0) k q.1 q.2) ?_
    intro k ⟨g, l⟩ hk hI ih
    dsimp only at hI ih ⊢
    have hI2 := hI.2.1
    have hI3 := hI.2.2.1
    refine mu_il_8 B dX0_commonDivisor_9 ?_
    refine mu_sipush (v := mI 200) B dX0_commonDivisor_11 (by decide) ?_
    refine mu_icmp_ge (tgt := 45) B dX0_commonDivisor_14 (by decide) (fun c14 => ?_) (fun c14 => ?_)
    · try rw [mI_le ⟨by omega, by omega⟩ ⟨by omega, by omega⟩] at c14
      try rw [mI_le ⟨by omega, by omega⟩ ⟨by omega, by omega⟩] at c14
      obtain rfl : 200 = k := by omega
      have hl0 := hI.end
      refine mu_ll_4 B dX0_commonDivisor_45 ?_
      refine mu_lret E rfl (by decide) (by decide) dX0_commonDivisor_47 ?_
      refine ⟨?_, rfl⟩
      rw [← hI.1, hl0, Nat.gcd_zero_right]
    · try rw [mI_le ⟨by omega, by omega⟩ ⟨by omega, by omega⟩] at c14
      refine mu_ll_6 B dX0_commonDivisor_17 ?_
      refine mu_lconst (v := mL 0) B dX0_commonDivisor_19 rfl ?_
      refine mu_lcmp B dX0_commonDivisor_20 ?_
      refine mu_if_eq (tgt := 45) B dX0_commonDivisor_21 (by decide) (fun c21 => ?_) (fun c21 => ?_)
      · rw [lg_cmp_eq, mL_eq ⟨by omega, by omega⟩ ⟨by omega, by omega⟩] at c21
        have hl0 : l = 0 := by omega
        refine mu_ll_4 B dX0_commonDivisor_45 ?_
        refine mu_lret E rfl (by decide) (by decide) dX0_commonDivisor_47 ?_
        refine ⟨?_, rfl⟩
        rw [← hI.1, hl0, Nat.gcd_zero_right]
      · rw [lg_cmp_eq, mL_eq ⟨by omega, by omega⟩ ⟨by omega, by omega⟩] at c21
        refine mu_ll_4 B dX0_commonDivisor_24 ?_
        refine mu_ll_6 B dX0_commonDivisor_26 ?_
        refine mu_lrem B dX0_commonDivisor_28 ?_ ?_
        · exact mL_ne (by omega) ⟨by omega, by omega⟩
        rw [mL_remN (by omega) (by omega)]
        refine mu_ls_9 B dX0_commonDivisor_29 (by decide) rfl ?_
        refine mu_ll_6 B dX0_commonDivisor_31 ?_
        refine mu_ls_4 B dX0_commonDivisor_33 (by decide) rfl ?_
        refine mu_ll_9 B dX0_commonDivisor_35 ?_
        refine mu_ls_6 B dX0_commonDivisor_37 (by decide) rfl ?_
        refine mu_inc_8 (c := mI 1) B dX0_commonDivisor_39 rfl (by decide) rfl ?_
        try rw [mI_add]
        refine mu_goto (tgt := 9) B dX0_commonDivisor_42 (by decide) ?_
        exact mu_fg (ih (l, g % l) (by omega) (hI.step (by omega))) rfl (by dsimp only; rw [show ((k + 1 : Nat) : Int) = (k : Int) + 1 by omega]; exact ⟨Or.inl rfl, Or.inl rfl, Or.inl rfl, Or.inl rfl, Or.inl rfl, Or.inl rfl, Or.inl rfl, Or.inl rfl, Or.inl rfl, Or.inr rfl, Or.inr rfl, trivial⟩)
  show mu_WA X G 11 _ _ 0 0 0 _ []
  refine mu_ll_0 B dX0_commonDivisor_0 ?_
  refine mu_ls_4 B dX0_commonDivisor_1 (by decide) rfl ?_
  refine mu_ll_2 B dX0_commonDivisor_3 ?_
  refine mu_ls_6 B dX0_commonDivisor_4 (by decide) rfl ?_
  refine mu_iconst (v := mI 0) B dX0_commonDivisor_6 rfl ?_
  refine mu_is_8 B dX0_commonDivisor_7 (by decide) rfl ?_
  exact LG 0 (g0, l0) (by decide) ⟨rfl, hg, hl, Or.inl rfl⟩

theorem LR.at {w : mu_W} {a s : Nat} {e : Nat → Int} (h : LR w a 0 s e) {c : Nat} (hc : c < s) : mu_lg w a c = mL (e c) := by have := h c hc; rw [Nat.zero_add] at this; exact this
theorem LR.set {w : mu_W} {a s : Nat} {e e' : Nat → Int} {c : Nat} (h : LR w a 0 s e) {v : Int} (he : ∀ q, q < s → e' q = if q = c then v else e q) : LR (mu_sl w a c (mL v)) a 0 s e' := fun q hq => by
  rw [Nat.zero_add, he q hq]
  by_cases e9 : q = c
  · rw [if_pos e9, e9, mu_lg_same]
  · rw [if_neg e9, mu_lg_oth _ _ (by omega)]; exact h.at hq
def ltm (e : Nat → Int) (c : Nat) : Nat → Int := fun q => if q < c then lt 4 e q else e q

set_option maxHeartbeats 4000000 in
set_option maxRecDepth 100000 in
theorem c_X0_shorten (G : mu_G) {w : mu_W} {a : Nat} (hka : mu_kd w a = some (101, 4)) {e : Nat → Int} (hr : LR w a 0 4 e) (he : ∀ c, c < 4 → (e c).natAbs ≤ 4611686018427387904) : mu_Ct G M_X0_shorten [.ref a] w (lh_post w a 0 4 (lt 4 e)) := by
  refine mu_ofWA G M_X0_shorten [.ref a, mu_no, mu_no, mu_no] (by decide) rfl (Nat.le_of_ble_eq_true rfl) ?_
  intro X E
  have B : mu_B X G cX0_shorten RX0 4 (mu_rm M_X0_shorten) := E.1
  have LD : ∀ c (s : mu_W), c ≤ (4 : Nat) → (mu_Fi (lr_S a 0 4) w s ∧ LR s a 0 4 (ltm e c)) → mu_WA X G 4 (mu_Q X G M_X0_shorten (lh_post w a 0 4 (lt 4 e))) s 0 0 28 [.ref a, .long (mL (gr e 4 : Nat)), mu_no, .int (mI c)] [] := by
    refine mu_ind ((4 : Nat)) (fun c (s : mu_W) => mu_WA X G 4 (mu_Q X G M_X0_shorten (lh_post w a 0 4 (lt 4 e))) s 0 0 28 [.ref a, .long (mL (gr e 4 : Nat)), mu_no, .int (mI c)] []) (fun c (s : mu_W) => mu_Fi (lr_S a 0 4) w s ∧ LR s a 0 4 (ltm e c)) ?_
    intro c s hc ⟨hFs, hR⟩ ih
    refine mu_il_3 B dX0_shorten_28 ?_
    refine mu_iconst (v := mI 4) B dX0_shorten_29 rfl ?_
    refine mu_icmp_ge (tgt := 52) B dX0_shorten_30 (by decide) (fun c30 => ?_) (fun c30 => ?_)
    · try rw [mI_le ⟨by omega, by omega⟩ ⟨by omega, by omega⟩] at c30
      try rw [mI_le ⟨by omega, by omega⟩ ⟨by omega, by omega⟩] at c30
      obtain rfl : 4 = c := by omega
      refine mu_vret E rfl (by decide) (by decide) dX0_shorten_52 ?_
      refine ⟨rfl, hFs, fun q hq => ?_⟩
      rw [hR q hq]
      unfold ltm
      rw [if_pos hq]
    · try rw [mI_le ⟨by omega, by omega⟩ ⟨by omega, by omega⟩] at c30
      have hgr : gr e 4 ≤ 4611686018427387904 := gr_le he
      refine mu_ll_1 B dX0_shorten_33 ?_
      refine mu_lconst (v := mL 1) B dX0_shorten_34 rfl ?_
      refine mu_lcmp B dX0_shorten_35 ?_
      refine mu_if_le (tgt := 52) B dX0_shorten_36 (by decide) (fun c36 => ?_) (fun c36 => ?_)
      · rw [lg_cmp_le, mL_le ⟨by omega, by omega⟩ ⟨by omega, by omega⟩] at c36
        refine mu_vret E rfl (by decide) (by decide) dX0_shorten_52 ?_
        refine ⟨rfl, hFs, fun q hq => ?_⟩
        rw [hR q hq]
        unfold ltm lt
        rw [if_pos (show gr e 4 ≤ 1 by omega)]
        split <;> rfl
      · rw [lg_cmp_le, mL_le ⟨by omega, by omega⟩ ⟨by omega, by omega⟩] at c36
        have hec := he c (by omega)
        have hlm := lt_mul (n := 4) (a := e) (c := c) (by omega) (by omega)
        have hcur : ltm e c c = e c := by unfold ltm; rw [if_neg (Nat.lt_irrefl _)]
        refine mu_al_0 B dX0_shorten_39 ?_
        refine mu_il_3 B dX0_shorten_40 ?_
        refine mu_dup2_11 B dX0_shorten_41 rfl rfl ?_
        refine mu_lald B dX0_shorten_42 (hFs.kd hka) (mI_inN (by omega) (by decide)) ?_
        rw [mI_clampN (by omega), hR.at (by omega), hcur, ← hlm]
        refine mu_ll_1 B dX0_shorten_43 ?_
        refine mu_ldiv B dX0_shorten_44 ?_ ?_
        · exact mL_ne (by omega) ⟨by omega, by omega⟩
        rw [mL_divx (by omega) (by rw [hlm]; exact ⟨by omega, by omega⟩) ⟨by omega, by omega⟩]
        refine mu_last B dX0_shorten_45 (hFs.kd hka) (mI_inN (by omega) (by decide)) ?_
        rw [mI_clampN (by omega)]
        refine mu_inc_3 (c := mI 1) B dX0_shorten_46 rfl (by decide) rfl ?_
        try rw [mI_add]
        refine mu_goto (tgt := 28) B dX0_shorten_49 (by decide) ?_
        refine mu_to (ih _ (by omega) ⟨hFs.sl ⟨rfl, Nat.zero_le _, by omega⟩, hR.set (fun q hq => ?_)⟩) rfl (by rw [show ((c + 1 : Nat) : Int) = (c : Int) + 1 by omega])
        unfold ltm
        by_cases e9 : q = c
        · rw [if_pos e9, e9, if_pos (Nat.lt_succ_self _)]
        · rw [if_neg e9]
          by_cases e8 : q < c
          · rw [if_pos e8, if_pos (by omega)]
          · rw [if_neg e8, if_neg (by omega)]
  have LS : ∀ c (uu : Unit), c ≤ (4 : Nat) → (True) → mu_WA X G 4 (mu_Q X G M_X0_shorten (lh_post w a 0 4 (lt 4 e))) w 0 0 4 [.ref a, .long (mL (gr e c : Nat)), mu_no, .int (mI c)] [] := by
    refine mu_ind ((4 : Nat)) (fun c (uu : Unit) => mu_WA X G 4 (mu_Q X G M_X0_shorten (lh_post w a 0 4 (lt 4 e))) w 0 0 4 [.ref a, .long (mL (gr e c : Nat)), mu_no, .int (mI c)] []) (fun c (uu : Unit) => True) ?_
    intro c uu hc _ ih
    refine mu_il_3 B dX0_shorten_4 ?_
    refine mu_iconst (v := mI 4) B dX0_shorten_5 rfl ?_
    refine mu_icmp_ge (tgt := 26) B dX0_shorten_6 (by decide) (fun c6 => ?_) (fun c6 => ?_)
    · try rw [mI_le ⟨by omega, by omega⟩ ⟨by omega, by omega⟩] at c6
      try rw [mI_le ⟨by omega, by omega⟩ ⟨by omega, by omega⟩] at c6
      obtain rfl : 4 = c := by omega
      refine mu_iconst (v := mI 0) B dX0_shorten_26 rfl ?_
      refine mu_is_3 B dX0_shorten_27 (by decide) rfl ?_
      exact LD 0 w (by decide) ⟨mu_Fi.refl _, fun q hq => by rw [hr q hq]; unfold ltm; rw [if_neg (Nat.not_lt_zero _)]⟩
    · try rw [mI_le ⟨by omega, by omega⟩ ⟨by omega, by omega⟩] at c6
      have hec := he c (by omega)
      have hgc : gr e c ≤ 4611686018427387904 := gr_le (fun q hq => he q (by omega))
      refine mu_ll_1 B dX0_shorten_9 ?_
      refine mu_al_0 B dX0_shorten_10 ?_
      refine mu_il_3 B dX0_shorten_11 ?_
      refine mu_lald B dX0_shorten_12 hka (mI_inN (by omega) (by decide)) ?_
      rw [mI_clampN (by omega), hr.at (by omega)]
      refine mu_mabsl B dX0_shorten_13 mlX0_57 ⟨by decide, by decide⟩ (Nat.le_of_ble_eq_true rfl) ⟨by decide, by decide⟩ ?_
      rw [abs_mL (by omega)]
      refine mu_eS2 B dX0_shorten_16 mX0_63 ⟨⟨by decide, by decide⟩, by decide, by decide⟩ (Nat.le_of_ble_eq_true rfl) (c_X0_commonDivisor G (g0 := gr e c) (l0 := (e c).natAbs) (by omega) (by omega)) ?_
      refine mu_ls_1 B dX0_shorten_19 (by decide) rfl ?_
      refine mu_inc_3 (c := mI 1) B dX0_shorten_20 rfl (by decide) rfl ?_
      try rw [mI_add]
      refine mu_goto (tgt := 4) B dX0_shorten_23 (by decide) ?_
      exact mu_to (ih () (by omega) trivial) rfl (by rw [show ((c + 1 : Nat) : Int) = (c : Int) + 1 by omega]; rfl)
  show mu_WA X G 4 _ _ 0 0 0 _ []
  refine mu_lconst (v := mL 0) B dX0_shorten_0 rfl ?_
  refine mu_ls_1 B dX0_shorten_1 (by decide) rfl ?_
  refine mu_iconst (v := mI 0) B dX0_shorten_2 rfl ?_
  refine mu_is_3 B dX0_shorten_3 (by decide) rfl ?_
  exact LS 0 () (by decide) trivial

def cnm (e d : Nat → Int) (col c : Nat) : Nat → Int := fun q => if q < c then e q * d col - d q * e col else e q
/-- cancelled, not yet shortened -/
def cnf (e d : Nat → Int) (col : Nat) : Nat → Int := fun q => e q * d col - d q * e col
theorem cnf_wo {e d : Nat → Int} {col : Nat} (hne : e col ≠ 0) : lt 4 (cnf e d col) = wo 4 e d col := by
  unfold wo
  rw [if_neg hne]
  rfl
theorem cnf_bd {e d : Nat → Int} {col : Nat} (hc4 : col < 4) {A B : Nat} (hA : ∀ c, c < 4 → (e c).natAbs ≤ A) (hB : ∀ c, c < 4 → (d c).natAbs ≤ B) (hAB : 2 * (A * B) ≤ 4611686018427387904) : ∀ c, c < 4 → (cnf e d col c).natAbs ≤ 4611686018427387904 := fun c hc => Nat.le_trans (nab (hA c hc) (hB col hc4) (hB c hc) (hA col hc4)) hAB

set_option maxHeartbeats 4000000 in
set_option maxRecDepth 100000 in
theorem c_X0_cancel (G : mu_G) {w : mu_W} {a b : Nat} (hka : mu_kd w a = some (101, 4)) (hkb : mu_kd w b = some (101, 4)) (hab : a ≠ b) {e d : Nat → Int} (hr : LR w a 0 4 e) (hd : LR w b 0 4 d) {col : Nat} (hc4 : col < 4) : mu_Ct G M_X0_cancel [.ref a, .ref b, .int (mI col)] w (lh_post w a 0 4 (cnf e d col)) := by
  refine mu_ofWA G M_X0_cancel [.ref a, .ref b, .int (mI col), mu_no, mu_no, mu_no, mu_no, mu_no] (by decide) rfl (Nat.le_of_ble_eq_true rfl) ?_
  intro X E
  have B : mu_B X G cX0_cancel RX0 8 (mu_rm M_X0_cancel) := E.1
  have LC : ∀ c (s : mu_W), c ≤ (4 : Nat) → (mu_Fi (lr_S a 0 4) w s ∧ LR s a 0 4 (cnm e d col c)) → mu_WA X G 8 (mu_Q X G M_X0_cancel (lh_post w a 0 4 (cnf e d col))) s 0 0 12 [.ref a, .ref b, .int (mI col), .long (mL (e col)), mu_no, .long (mL (d col)), mu_no, .int (mI c)] [] := by
    refine mu_ind ((4 : Nat)) (fun c (s : mu_W) => mu_WA X G 8 (mu_Q X G M_X0_cancel (lh_post w a 0 4 (cnf e d col))) s 0 0 12 [.ref a, .ref b, .int (mI col), .long (mL (e col)), mu_no, .long (mL (d col)), mu_no, .int (mI c)] []) (fun c (s : mu_W) => mu_Fi (lr_S a 0 4) w s ∧ LR s a 0 4 (cnm e d col c)) ?_
    intro c s hc ⟨hFs, hR⟩ ih
    refine mu_il_7 B dX0_cancel_12 ?_
    refine mu_iconst (v := mI 4) B dX0_cancel_14 rfl ?_
    refine mu_icmp_ge (tgt := 42) B dX0_cancel_15 (by decide) (fun c15 => ?_) (fun c15 => ?_)
    · try rw [mI_le ⟨by omega, by omega⟩ ⟨by omega, by omega⟩] at c15
      try rw [mI_le ⟨by omega, by omega⟩ ⟨by omega, by omega⟩] at c15
      obtain rfl : 4 = c := by omega
      have hR9 : LR s a 0 4 (cnf e d col) := fun q hq => by rw [hR q hq]; unfold cnm cnf; rw [if_pos hq]
      refine mu_vret E rfl (by decide) (by decide) dX0_cancel_42 ?_
      exact ⟨rfl, hFs, hR9⟩
    · try rw [mI_le ⟨by omega, by omega⟩ ⟨by omega, by omega⟩] at c15
      have hcur : cnm e d col c c = e c := by unfold cnm; rw [if_neg (Nat.lt_irrefl _)]
      refine mu_al_0 B dX0_cancel_18 ?_
      refine mu_il_7 B dX0_cancel_19 ?_
      refine mu_al_0 B dX0_cancel_21 ?_
      refine mu_il_7 B dX0_cancel_22 ?_
      refine mu_lald B dX0_cancel_24 (hFs.kd hka) (mI_inN (by omega) (by decide)) ?_
      rw [mI_clampN (by omega), hR.at (by omega), hcur]
      refine mu_ll_5 B dX0_cancel_25 ?_
      refine mu_lmul B dX0_cancel_27 ?_
      try rw [mL_mul]
      refine mu_al_1 B dX0_cancel_28 ?_
      refine mu_il_7 B dX0_cancel_29 ?_
      refine mu_lald B dX0_cancel_31 (hFs.kd hkb) (mI_inN (by omega) (by decide)) ?_
      rw [mI_clampN (by omega), hFs.lg (fun q9 => hab q9.1.symm) (hd.at (by omega))]
      refine mu_ll_3 B dX0_cancel_32 ?_
      refine mu_lmul B dX0_cancel_33 ?_
      try rw [mL_mul]
      refine mu_lsub B dX0_cancel_34 ?_
      try rw [mL_sub]
      refine mu_last B dX0_cancel_35 (hFs.kd hka) (mI_inN (by omega) (by decide)) ?_
      rw [mI_clampN (by omega)]
      refine mu_inc_7 (c := mI 1) B dX0_cancel_36 rfl (by decide) rfl ?_
      try rw [mI_add]
      refine mu_goto (tgt := 12) B dX0_cancel_39 (by decide) ?_
      refine mu_to (ih _ (by omega) ⟨hFs.sl ⟨rfl, Nat.zero_le _, by omega⟩, hR.set (fun q hq => ?_)⟩) rfl (by rw [show ((c + 1 : Nat) : Int) = (c : Int) + 1 by omega])
      unfold cnm
      by_cases e9 : q = c
      · rw [if_pos e9, e9, if_pos (Nat.lt_succ_self _)]
      · rw [if_neg e9]
        by_cases e8 : q < c
        · rw [if_pos e8, if_pos (by omega)]
        · rw [if_neg e8, if_neg (by omega)]
  show mu_WA X G 8 _ _ 0 0 0 _ []
  refine mu_al_0 B dX0_cancel_0 ?_
  refine mu_il_2 B dX0_cancel_1 ?_
  refine mu_lald B dX0_cancel_2 hka (mI_inN (by omega) (by decide)) ?_
  rw [mI_clampN (by omega), hr.at hc4]
  refine mu_ls_3 B dX0_cancel_3 (by decide) rfl ?_
  refine mu_al_1 B dX0_cancel_4 ?_
  refine mu_il_2 B dX0_cancel_5 ?_
  refine mu_lald B dX0_cancel_6 hkb (mI_inN (by omega) (by decide)) ?_
  rw [mI_clampN (by omega), hd.at hc4]
  refine mu_ls_5 B dX0_cancel_7 (by decide) rfl ?_
  refine mu_iconst (v := mI 0) B dX0_cancel_9 rfl ?_
  refine mu_is_7 B dX0_cancel_10 (by decide) rfl ?_
  exact LC 0 w (by decide) ⟨mu_Fi.refl _, fun q hq => by rw [hr q hq]; unfold cnm; rw [if_neg (Nat.not_lt_zero _)]⟩
