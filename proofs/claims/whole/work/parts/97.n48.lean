/-! ===== the class's squares: keys of parts; keys forgotten ===== -/
theorem mI_i2l {z : Int} (h : mi_ok z) : (mI z).toInt64 = mL z := Int64.toInt_inj.mp (by
  obtain ⟨h1, h2⟩ := h
  rw [Int32.toInt_toInt64, mI_toInt ⟨h1, h2⟩, mL_toInt ⟨by omega, by omega⟩])
def kpN (nm : Nat → Nat → Nat) (i j : Nat) : Nat → Nat
  | 0 => 0
  | k + 1 => kpN nm i j k * 8192 + nm (2 * i + k / 2) (2 * j + k % 2)
theorem kpN_lt {nm : Nat → Nat → Nat} {i j : Nat} (h : ∀ k, k < 4 → nm (2 * i + k / 2) (2 * j + k % 2) < 8192) : ∀ k, k ≤ 4 → kpN nm i j k < 8192 ^ k
  | 0, _ => by rw [kpN]; decide
  | k + 1, hk => by
    rw [kpN, Nat.pow_succ]
    have := kpN_lt h k (by omega)
    have := h k (by omega)
    omega

set_option maxHeartbeats 4000000 in
set_option maxRecDepth 100000 in
theorem c_X8_keyOfParts (G : mu_G) {w : mu_W} {a : Nat} (ho : CQo w a) {f l r u d : Nat} (hk : mu_kd w f = some (1, 0)) (hb : BXn w f l r u d) {p : Nat} (hp : p ≤ 8) {i j : Nat} (hi : i < 32) (hj : j < 32) {nm : Nat → Nat → Nat} (hlt : ∀ k, k < 4 → nm (2 * i + k / 2) (2 * j + k % 2) < 8192) (hN : ∀ k, k < 4 → (mtB l r u d p (2 * i + k / 2) (2 * j + k % 2) → mu_iv w (a + 1) (64 * (2 * i + k / 2) + (2 * j + k % 2)) = mI (nm (2 * i + k / 2) (2 * j + k % 2))) ∧ (¬ mtB l r u d p (2 * i + k / 2) (2 * j + k % 2) → nm (2 * i + k / 2) (2 * j + k % 2) = 0)) : mu_Ct G M_X8_keyOfParts [.ref a, .ref f, .int (mI p), .int (mI i), .int (mI j)] w (fun r9 w' => r9 = some (.long (mL (kpN nm i j 4 : Nat))) ∧ w' = w) := by
  refine mu_ofWA G M_X8_keyOfParts [.ref a, .ref f, .int (mI p), .int (mI i), .int (mI j), mu_no, mu_no, mu_no] (by decide) rfl (Nat.le_of_ble_eq_true rfl) ?_
  intro X E
  have B : mu_B X G cX8_keyOfParts RX8 8 (mu_rm M_X8_keyOfParts) := E.1
  have LK : ∀ k (x : Int64), k ≤ (4 : Nat) → (un x = kpN nm i j k) → mu_WA X G 8 (mu_Q X G M_X8_keyOfParts (fun r9 w' => r9 = some (.long (mL (kpN nm i j 4 : Nat))) ∧ w' = w)) w 0 0 6 [.ref a, .ref f, .int (mI p), .int (mI i), .int (mI j), .long x, mu_no, .int (mI k)] [] := by
    refine mu_ind ((4 : Nat)) (fun k (x : Int64) => mu_WA X G 8 (mu_Q X G M_X8_keyOfParts (fun r9 w' => r9 = some (.long (mL (kpN nm i j 4 : Nat))) ∧ w' = w)) w 0 0 6 [.ref a, .ref f, .int (mI p), .int (mI i), .int (mI j), .long x, mu_no, .int (mI k)] []) (fun k (x : Int64) => un x = kpN nm i j k) ?_
    intro k x hk9 hx ih
    have hkl := kpN_lt hlt k hk9
    have h164 : 8192 ^ k ≤ 8192 ^ 4 := Nat.pow_le_pow_right (by decide) hk9
    refine mu_il_7 B dX8_keyOfParts_6 ?_
    refine mu_iconst (v := mI 4) B dX8_keyOfParts_8 rfl ?_
    refine mu_icmp_ge (tgt := 50) B dX8_keyOfParts_9 (by decide) (fun c9 => ?_) (fun c9 => ?_)
    · try rw [mI_le ⟨by omega, by omega⟩ ⟨by omega, by omega⟩] at c9
      try rw [mI_le ⟨by omega, by omega⟩ ⟨by omega, by omega⟩] at c9
      obtain rfl : 4 = k := by omega
      refine mu_ll_5 B dX8_keyOfParts_50 ?_
      refine mu_lret E rfl (by decide) (by decide) dX8_keyOfParts_52 ?_
      refine ⟨?_, rfl⟩
      rw [un_inj (hx.trans (un_mL (by omega)).symm)]
    · try rw [mI_le ⟨by omega, by omega⟩ ⟨by omega, by omega⟩] at c9
      have h16 : 8192 ^ k ≤ 8192 ^ 3 := Nat.pow_le_pow_right (by decide) (by omega)
      have hv8 := hlt k (by omega)
      refine mu_ll_5 B dX8_keyOfParts_12 ?_
      refine mu_bipush (v := mI 13) B dX8_keyOfParts_14 (by decide) ?_
      refine mu_lshl B dX8_keyOfParts_16 rfl ?_
      refine mu_al_0 B dX8_keyOfParts_17 ?_
      refine mu_al_1 B dX8_keyOfParts_18 ?_
      refine mu_il_2 B dX8_keyOfParts_19 ?_
      refine mu_iconst (v := mI 2) B dX8_keyOfParts_20 rfl ?_
      refine mu_il_3 B dX8_keyOfParts_21 ?_
      refine mu_imul B dX8_keyOfParts_22 ?_
      try rw [mI_mul]
      refine mu_il_7 B dX8_keyOfParts_23 ?_
      refine mu_iconst (v := mI 1) B dX8_keyOfParts_25 rfl ?_
      refine mu_ishr B dX8_keyOfParts_26 ?_
      rw [show (mI 1 : Int32) = mI ((1 : Nat) : Int) from rfl, mI_shN (by omega) (by decide)]
      refine mu_iadd B dX8_keyOfParts_27 ?_
      try rw [mI_add]
      try rw [mI_add]
      rw [show (2 : Int) * (i : Int) + ((k / 2 ^ 1 : Nat) : Int) = ((2 * i + k / 2 : Nat) : Int) by omega]
      refine mu_iconst (v := mI 2) B dX8_keyOfParts_28 rfl ?_
      refine mu_il_4 B dX8_keyOfParts_29 ?_
      refine mu_imul B dX8_keyOfParts_31 ?_
      try rw [mI_mul]
      refine mu_il_7 B dX8_keyOfParts_32 ?_
      refine mu_iconst (v := mI 1) B dX8_keyOfParts_34 rfl ?_
      refine mu_iand B dX8_keyOfParts_35 ?_
      rw [mI_and _ (m := mI 1) 1 (by decide) (by decide)]
      refine mu_iadd B dX8_keyOfParts_36 ?_
      try rw [mI_add]
      try rw [mI_add]
      rw [show (2 : Int) * (j : Int) + (k : Int) % 2 ^ 1 = ((2 * j + k % 2 : Nat) : Int) by omega]
      refine mu_cV4 B dX8_keyOfParts_37 mX8_90 ⟨⟨by decide, by decide⟩, by decide, by decide⟩ (Nat.le_of_ble_eq_true rfl) ho.1 (c_X8_nameAt G ho hk hb hp (i := 2 * i + k / 2) (j := 2 * j + k % 2) (by omega) (by omega)) (fun r37 w37 q37 => ?_)
      obtain ⟨hyn, rfl⟩ := q37
      obtain rfl : r37 = some (.int (mI (nm (2 * i + k / 2) (2 * j + k % 2) : Nat))) := by
        by_cases q : mtB l r u d p (2 * i + k / 2) (2 * j + k % 2)
        · rw [hyn.1 q, (hN k (by omega)).1 q]
        · rw [hyn.2 q, (hN k (by omega)).2 q]; rfl
      show mu_WA X G 8 _ _ 0 0 40 _ [.int (mI (nm (2 * i + k / 2) (2 * j + k % 2) : Nat)), .long _]
      refine mu_i2l B dX8_keyOfParts_40 rfl ?_
      rw [mI_i2l ⟨by omega, by omega⟩]
      refine mu_lor B dX8_keyOfParts_41 ?_
      refine mu_ls_5 B dX8_keyOfParts_42 (by decide) rfl ?_
      refine mu_inc_7 (c := mI 1) B dX8_keyOfParts_44 rfl (by decide) rfl ?_
      try rw [mI_add]
      refine mu_goto (tgt := 6) B dX8_keyOfParts_47 (by decide) ?_
      refine mu_to (ih _ (by omega) ?_) rfl (by rw [show ((k + 1 : Nat) : Int) = (k : Int) + 1 by omega])
      have hp9 := un_pair (x := x) (y := mL (nm (2 * i + k / 2) (2 * j + k % 2) : Nat)) (k := 13) (by decide) (by rw [hx]; omega) (by rw [un_mL (by omega)]; exact hv8)
      rw [hx, un_mL (by omega)] at hp9
      exact hp9
  show mu_WA X G 8 _ _ 0 0 0 _ []
  refine mu_lconst (v := mL 0) B dX8_keyOfParts_0 rfl ?_
  refine mu_ls_5 B dX8_keyOfParts_1 (by decide) rfl ?_
  refine mu_iconst (v := mI 0) B dX8_keyOfParts_3 rfl ?_
  refine mu_is_7 B dX8_keyOfParts_4 (by decide) rfl ?_
  exact LK 0 (mL 0) (by decide) (by rw [kpN]; decide)

def fkS (a : Nat) : Nat → Nat → Prop := fun q j => (q = a ∧ (j = 3 ∨ j = 4)) ∨ q = a + 2
def fk_post (w : mu_W) (a q : Nat) (r : Option Value) (w' : mu_W) : Prop := r = none ∧ mu_Fi (fkS a) w w' ∧ ∃ e, e ≤ 13 ∧ q < 2 ^ e ∧ ∀ kf, HTb w' a e 0 kf

set_option maxHeartbeats 4000000 in
set_option maxRecDepth 100000 in
theorem c_X8_forgetKeys (G : mu_G) {w : mu_W} {a : Nat} (ho : CQo w a) {q : Nat} (hq1 : 1 ≤ q) (hq2 : q ≤ 4096) : mu_Ct G M_X8_forgetKeys [.ref a, .int (mI q)] w (fk_post w a q) := by
  obtain ⟨ka, ⟨r0, k1⟩, ⟨r1, k2⟩, ⟨r2, k3⟩⟩ := id ho
  refine mu_ofWA G M_X8_forgetKeys [.ref a, .int (mI q), mu_no] (by decide) rfl (Nat.le_of_ble_eq_true rfl) ?_
  intro X E
  have B : mu_B X G cX8_forgetKeys RX8 3 (mu_rm M_X8_forgetKeys) := E.1
  have K43 : ∀ (e : Nat) (s : mu_W), e ≤ 13 → q < 2 ^ e → mu_Fi (fkS a) w s → mu_iv s a 3 = mI ((2 ^ e : Nat) : Int) → mu_iv s a 4 = mI ((0 : Nat) : Int) → mu_WA X G 3 (mu_Q X G M_X8_forgetKeys (fk_post w a q)) s 0 0 43 [.ref a, .int (mI q), mu_no] [] := by
    intro e s he hqe hFs hs3 hs4
    have he2 : 2 ^ e ≤ 8192 := Nat.pow_le_pow_right (n := 2) (i := e) (j := 13) (by decide) he
    have LZ : ∀ i (t : mu_W), i ≤ 2 ^ e → (mu_Fi (fkS a) w t ∧ mu_iv t a 3 = mI ((2 ^ e : Nat) : Int) ∧ mu_iv t a 4 = mI ((0 : Nat) : Int) ∧ ∀ j, j < i → mu_lg t (a + 2) j = 0) → mu_WA X G 3 (mu_Q X G M_X8_forgetKeys (fk_post w a q)) t 0 0 45 [.ref a, .int (mI q), .int (mI i)] [] := by
      refine mu_ind (2 ^ e) (fun i (t : mu_W) => mu_WA X G 3 (mu_Q X G M_X8_forgetKeys (fk_post w a q)) t 0 0 45 [.ref a, .int (mI q), .int (mI i)] []) (fun i (t : mu_W) => mu_Fi (fkS a) w t ∧ mu_iv t a 3 = mI ((2 ^ e : Nat) : Int) ∧ mu_iv t a 4 = mI ((0 : Nat) : Int) ∧ ∀ j, j < i → mu_lg t (a + 2) j = 0) ?_
      intro i t hi ⟨hFt, hst, hnt, hz⟩ ihz
      refine mu_il_2 B dX8_forgetKeys_45 ?_
      refine mu_al_0 B dX8_forgetKeys_46 ?_
      refine mu_getI B dX8_forgetKeys_47 fX8_98 rfl (hFt.kd ka) ?_
      rw [hst]
      refine mu_icmp_ge (tgt := 66) B dX8_forgetKeys_50 (by decide) (fun c50 => ?_) (fun c50 => ?_)
      · try rw [mI_le ⟨by omega, by omega⟩ ⟨by omega, by omega⟩] at c50
        try rw [mI_le ⟨by omega, by omega⟩ ⟨by omega, by omega⟩] at c50
        refine mu_vret E rfl (by decide) (by decide) dX8_forgetKeys_66 ?_
        refine ⟨rfl, hFt, e, he, hqe, fun kf => ⟨hst, hnt, fun m a1 a2 => by omega, fun s9 a1 a2 => absurd (hz s9 (by omega)) a2, fun s9 s8 a1 a2 a3 a4 => absurd (hz s9 (by omega)) a3, fun m m2 a1 a2 => by omega⟩⟩
      · try rw [mI_le ⟨by omega, by omega⟩ ⟨by omega, by omega⟩] at c50
        refine mu_al_0 B dX8_forgetKeys_53 ?_
        refine mu_getR B dX8_forgetKeys_54 fX8_13 rfl (hFt.kd ka) (hFt.rv r1) ?_
        refine mu_il_2 B dX8_forgetKeys_57 ?_
        refine mu_lconst (v := mL 0) B dX8_forgetKeys_58 rfl ?_
        refine mu_last B dX8_forgetKeys_59 (hFt.kd k2) (mI_inN (by omega) (by decide)) ?_
        rw [mI_clampN (by omega)]
        refine mu_inc_2 (c := mI 1) B dX8_forgetKeys_60 rfl (by decide) rfl ?_
        try rw [mI_add]
        refine mu_goto (tgt := 45) B dX8_forgetKeys_63 (by decide) ?_
        refine mu_to (ihz _ (by omega) ⟨hFt.sl (Or.inr rfl), hst, hnt, fun j hj => ?_⟩) rfl (by rw [show ((i + 1 : Nat) : Int) = (i : Int) + 1 by omega])
        by_cases e9 : j = i
        · rw [e9, mu_lg_same]; rfl
        · rw [mu_lg_oth _ _ (by omega)]; exact hz j (by omega)
    refine mu_iconst (v := mI 0) B dX8_forgetKeys_43 rfl ?_
    refine mu_is_2 B dX8_forgetKeys_44 (by decide) rfl ?_
    exact LZ 0 s (Nat.zero_le _) ⟨hFs, hs3, hs4, fun j hj => absurd hj (Nat.not_lt_zero j)⟩
  have LF : ∀ e (s : mu_W), e ≤ (13 : Nat) → (1 ≤ e ∧ mu_Fi (fkS a) w s ∧ mu_iv s a 3 = mI ((2 ^ e : Nat) : Int) ∧ mu_iv s a 4 = mI ((0 : Nat) : Int)) → mu_WA X G 3 (mu_Q X G M_X8_forgetKeys (fk_post w a q)) s 0 0 10 [.ref a, .int (mI q), mu_no] [] := by
    refine mu_ind ((13 : Nat)) (fun e (s : mu_W) => mu_WA X G 3 (mu_Q X G M_X8_forgetKeys (fk_post w a q)) s 0 0 10 [.ref a, .int (mI q), mu_no] []) (fun e (s : mu_W) => 1 ≤ e ∧ mu_Fi (fkS a) w s ∧ mu_iv s a 3 = mI ((2 ^ e : Nat) : Int) ∧ mu_iv s a 4 = mI ((0 : Nat) : Int)) ?_
    intro e s he ⟨h1e, hFs, hs3, hs4⟩ ih
    have he2 : 2 ^ e ≤ 8192 := Nat.pow_le_pow_right (n := 2) (i := e) (j := 13) (by decide) he
    have hpp := Nat.two_pow_pos e
    refine mu_al_0 B dX8_forgetKeys_10 ?_
    refine mu_getI B dX8_forgetKeys_11 fX8_98 rfl (hFs.kd ka) ?_
    rw [hs3]
    refine mu_sipush (v := mI 8192) B dX8_forgetKeys_14 (by decide) ?_
    refine mu_icmp_ge (tgt := 43) B dX8_forgetKeys_17 (by decide) (fun c17 => ?_) (fun c17 => ?_)
    · try rw [mI_le ⟨by omega, by omega⟩ ⟨by omega, by omega⟩] at c17
      try rw [mI_le ⟨by omega, by omega⟩ ⟨by omega, by omega⟩] at c17
      exact K43 e s he (by omega) hFs hs3 hs4
    · try rw [mI_le ⟨by omega, by omega⟩ ⟨by omega, by omega⟩] at c17
      have he13 : e < 13 := by
        by_cases q9 : e < 13
        · exact q9
        · exfalso; rw [show e = 13 by omega] at c17; omega
      refine mu_al_0 B dX8_forgetKeys_20 ?_
      refine mu_getI B dX8_forgetKeys_21 fX8_98 rfl (hFs.kd ka) ?_
      rw [hs3]
      refine mu_iconst (v := mI 2) B dX8_forgetKeys_24 rfl ?_
      refine mu_il_1 B dX8_forgetKeys_25 ?_
      refine mu_imul B dX8_forgetKeys_26 ?_
      try rw [mI_mul]
      refine mu_icmp_ge (tgt := 43) B dX8_forgetKeys_27 (by decide) (fun c27 => ?_) (fun c27 => ?_)
      · try rw [mI_le ⟨by omega, by omega⟩ ⟨by omega, by omega⟩] at c27
        try rw [mI_le ⟨by omega, by omega⟩ ⟨by omega, by omega⟩] at c27
        exact K43 e s he (by omega) hFs hs3 hs4
      · try rw [mI_le ⟨by omega, by omega⟩ ⟨by omega, by omega⟩] at c27
        refine mu_al_0 B dX8_forgetKeys_30 ?_
        refine mu_dup B dX8_forgetKeys_31 rfl ?_
        refine mu_getI B dX8_forgetKeys_32 fX8_98 rfl (hFs.kd ka) ?_
        rw [hs3]
        refine mu_iconst (v := mI 2) B dX8_forgetKeys_35 rfl ?_
        refine mu_imul B dX8_forgetKeys_36 ?_
        try rw [mI_mul]
        try rw [mI_mul]
        rw [show ((2 ^ e : Nat) : Int) * 2 = ((2 ^ (e + 1) : Nat) : Int) by rw [Nat.pow_succ, Int.natCast_mul]; rfl]
        refine mu_putI B dX8_forgetKeys_37 fX8_98 fwX8_3 rfl (hFs.kd ka) ?_
        refine mu_goto (tgt := 10) B dX8_forgetKeys_40 (by decide) ?_
        exact ih _ (by omega) ⟨by omega, hFs.si (Or.inl ⟨rfl, Or.inl rfl⟩), mu_iv_same _ _ _ _, by rw [mu_iv_oth _ _ (by omega)]; exact hs4⟩
  show mu_WA X G 3 _ _ 0 0 0 _ []
  refine mu_al_0 B dX8_forgetKeys_0 ?_
  refine mu_iconst (v := mI 0) B dX8_forgetKeys_1 rfl ?_
  refine mu_putI B dX8_forgetKeys_2 fX8_85 fwX8_4 rfl (by assumption) ?_
  refine mu_al_0 B dX8_forgetKeys_5 ?_
  refine mu_iconst (v := mI 2) B dX8_forgetKeys_6 rfl ?_
  refine mu_putI B dX8_forgetKeys_7 fX8_98 fwX8_3 rfl (by exact ka) ?_
  exact LF 1 _ (by decide) ⟨Nat.le_refl _, ((mu_Fi.refl _).si (Or.inl ⟨rfl, Or.inr rfl⟩)).si (Or.inl ⟨rfl, Or.inl rfl⟩), by rw [mu_iv_same]; rfl, by rw [mu_iv_oth _ _ (by omega), mu_iv_same]; rfl⟩
