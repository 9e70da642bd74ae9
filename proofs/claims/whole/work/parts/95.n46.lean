/-! ===== the class's squares: keys and their names ===== -/
def CQo (w : mu_W) (a : Nat) : Prop := mu_kd w a = some (8, 0) ∧ (mu_rv w a 0 = some (a + 1) ∧ mu_kd w (a + 1) = some (100, 4096)) ∧ (mu_rv w a 1 = some (a + 2) ∧ mu_kd w (a + 2) = some (101, 8192)) ∧ (mu_rv w a 2 = some (a + 3) ∧ mu_kd w (a + 3) = some (100, 8192))
theorem CQo.fi {S : Nat → Nat → Prop} {w w' : mu_W} {a : Nat} (h : CQo w a) (hF : mu_Fi S w w') : CQo w' a := ⟨hF.kd h.1, ⟨hF.rv h.2.1.1, hF.kd h.2.1.2⟩, ⟨hF.rv h.2.2.1.1, hF.kd h.2.2.1.2⟩, ⟨hF.rv h.2.2.2.1, hF.kd h.2.2.2.2⟩⟩
def hsh (k : Int64) : Nat := un (k * mL (-7046029254386353131)) / 2 ^ 40
theorem hsh_lt (k : Int64) : hsh k < 16777216 := by
  have := un_lt (k * mL (-7046029254386353131))
  unfold hsh
  omega
theorem l2i_s {y : Int64} (h : un y < 2147483648) : y.toInt32 = mI (un y : Nat) := by
  apply Int32.toBitVec_inj.mp
  apply BitVec.eq_of_toNat_eq
  have ht : y.toInt32.toBitVec.toNat = un y % 4294967296 := by
    show (y.toBitVec.signExtend 32).toNat = _
    rw [BitVec.signExtend_eq_setWidth_of_le _ (by decide), BitVec.toNat_setWidth]
    rfl
  rw [ht]
  have := ui_mI (n := un y) h
  unfold ui at this
  rw [this]
  omega
theorem and_mask {x e : Nat} (hx : x < 2147483648) (he : e ≤ 13) : mI (x : Int) &&& mI ((2 ^ e - 1 : Nat) : Int) = mI ((x % 2 ^ e : Nat) : Int) := by
  have h1 : 2 ^ e ≤ 2 ^ 13 := Nat.pow_le_pow_right (by decide) he
  rw [mI_and _ (m := mI ((2 ^ e - 1 : Nat) : Int)) e (by omega) (by have := ui_mI (n := 2 ^ e - 1) (by omega); exact this)]
  rw [Int.natCast_emod, Int.natCast_pow]; rfl
/-- the slot of a try -/
def slt (e : Nat) (k : Int64) (t : Nat) : Nat := (hsh k + t) % 2 ^ e
theorem slt_lt (e : Nat) (k : Int64) (t : Nat) : slt e k t < 2 ^ e := Nat.mod_lt _ (Nat.two_pow_pos e)
theorem slt_all (e : Nat) (k : Int64) {s : Nat} (hs : s < 2 ^ e) : ∃ t, t < 2 ^ e ∧ slt e k t = s := by
  have hp := Nat.two_pow_pos e
  have hm := Nat.mod_lt (hsh k) hp
  refine ⟨(s + (2 ^ e - hsh k % 2 ^ e)) % 2 ^ e, Nat.mod_lt _ hp, ?_⟩
  unfold slt
  rw [Nat.add_mod, Nat.mod_mod, ← Nat.add_mod]
  have h1 := Nat.div_add_mod (hsh k) (2 ^ e)
  have : hsh k + (s + (2 ^ e - hsh k % 2 ^ e)) = s + 2 ^ e * (hsh k / 2 ^ e + 1) := by rw [Nat.mul_add, Nat.mul_one]; omega
  rw [this, Nat.add_mul_mod_self_left, Nat.mod_eq_of_lt hs]
/-- the table of n keys; kf m is the key with name m -/
def HTb (w : mu_W) (a e n : Nat) (kf : Nat → Int64) : Prop := mu_iv w a 3 = mI ((2 ^ e : Nat) : Int) ∧ mu_iv w a 4 = mI n ∧ (∀ m, 1 ≤ m → m ≤ n → kf m ≠ 0 ∧ ∃ t, t < 2 ^ e ∧ mu_lg w (a + 2) (slt e (kf m) t) = kf m ∧ ∀ t', t' < t → mu_lg w (a + 2) (slt e (kf m) t') ≠ 0) ∧
  (∀ s, s < 2 ^ e → mu_lg w (a + 2) s ≠ 0 → ∃ m, 1 ≤ m ∧ m ≤ n ∧ mu_lg w (a + 2) s = kf m ∧ mu_iv w (a + 3) s = mI m) ∧ (∀ s s', s < 2 ^ e → s' < 2 ^ e → mu_lg w (a + 2) s ≠ 0 → mu_lg w (a + 2) s = mu_lg w (a + 2) s' → s = s') ∧ ∀ m m', 1 ≤ m → m ≤ n → 1 ≤ m' → m' ≤ n → kf m = kf m' → m = m'
theorem HTb.fi {S : Nat → Nat → Prop} {w w' : mu_W} {a e n : Nat} {kf : Nat → Int64} (h : HTb w a e n kf) (hF : mu_Fi S w w') (h3 : ¬ S a 3) (h4 : ¬ S a 4) (h2 : ∀ j, ¬ S (a + 2) j) (h5 : ∀ j, ¬ S (a + 3) j) : HTb w' a e n kf := by
  have e2 : ∀ j, mu_lg w' (a + 2) j = mu_lg w (a + 2) j := fun j => hF.lg (h2 j) rfl
  obtain ⟨g1, g2, g3, g4, g5, g6⟩ := h
  refine ⟨hF.iv h3 g1, hF.iv h4 g2, fun m a1 a2 => ?_, fun s a1 a2 => ?_, fun s s' a1 a2 a3 a4 => ?_, g6⟩
  · obtain ⟨b1, t, b2, b3, b4⟩ := g3 m a1 a2
    exact ⟨b1, t, b2, by rw [e2]; exact b3, fun t' ht => by rw [e2]; exact b4 t' ht⟩
  · rw [e2] at a2
    obtain ⟨m, b1, b2, b3, b4⟩ := g4 s a1 a2
    exact ⟨m, b1, b2, by rw [e2]; exact b3, hF.iv (h5 _) b4⟩
  · rw [e2] at a3; rw [e2, e2] at a4
    exact g5 s s' a1 a2 a3 a4
/-- with fewer keys than slots one slot is free -/
theorem HTb.room {w : mu_W} {a e n : Nat} {kf : Nat → Int64} (h : HTb w a e n kf) (hn : n < 2 ^ e) : ¬ ∀ s, s < 2 ^ e → mu_lg w (a + 2) s ≠ 0 := fun hall => by
  obtain ⟨g1, g2, g3, g4, g5, g6⟩ := h
  have hex : ∀ s : Nat, ∃ m : Nat, s < 2 ^ e → 1 ≤ m ∧ m ≤ n ∧ mu_lg w (a + 2) s = kf m := fun s => by
    by_cases q : s < 2 ^ e
    · obtain ⟨m, b1, b2, b3, _⟩ := g4 s q (hall s q)
      exact ⟨m, fun _ => ⟨b1, b2, b3⟩⟩
    · exact ⟨0, fun r => absurd r q⟩
  have hf := fun s => Classical.choose_spec (hex s)
  have := pg_le (a := 2 ^ e) (b := n) (f := fun s => Classical.choose (hex s) - 1) (fun j hj => by have := hf j hj; show Classical.choose (hex j) - 1 < n; omega) (fun x y hx hy q => by
    have h1 := hf x hx
    have h2 := hf y hy
    have q' : Classical.choose (hex x) - 1 = Classical.choose (hex y) - 1 := q
    have q2 : Classical.choose (hex x) = Classical.choose (hex y) := by omega
    exact g5 x y hx hy (hall x hx) (by rw [h1.2.2, h2.2.2, q2]))
  omega
theorem HTb.fresh {w : mu_W} {a e n : Nat} {kf : Nat → Int64} (h : HTb w a e n kf) {key : Int64} (hk : key ≠ 0) {t : Nat} (h0 : mu_lg w (a + 2) (slt e key t) = 0) (hb : ∀ t', t' < t → mu_lg w (a + 2) (slt e key t') ≠ key) (m : Nat) (h1 : 1 ≤ m) (h2 : m ≤ n) : kf m ≠ key := fun q => by
  obtain ⟨_, t0, b2, b3, b4⟩ := h.2.2.1 m h1 h2
  rw [q] at b3 b4
  by_cases c1 : t0 < t
  · exact hb t0 c1 b3
  · by_cases c2 : t0 = t
    · rw [c2, h0] at b3; exact hk b3.symm
    · exact b4 t (by omega) h0
theorem HTb.add {w : mu_W} {a e n : Nat} {kf : Nat → Int64} (h : HTb w a e n kf) {key : Int64} (hk : key ≠ 0) {t : Nat} (ht : t < 2 ^ e) (h0 : mu_lg w (a + 2) (slt e key t) = 0) (hb : ∀ t', t' < t → mu_lg w (a + 2) (slt e key t') ≠ 0 ∧ mu_lg w (a + 2) (slt e key t') ≠ key) : HTb (mu_si (mu_sl (mu_si w a 4 (mI ((n + 1 : Nat) : Int))) (a + 2) (slt e key t) key) (a + 3) (slt e key t) (mI ((n + 1 : Nat) : Int))) a e (n + 1) (rs_up kf (n + 1) key) := by
  have hfr := h.fresh hk h0 (fun t' q => (hb t' q).2)
  obtain ⟨g1, g2, g3, g4, g5, g6⟩ := h
  have u1 : rs_up kf (n + 1) key (n + 1) = key := by unfold rs_up; rw [if_pos rfl]
  have u2 : ∀ m, m ≤ n → rs_up kf (n + 1) key m = kf m := fun m hm => by unfold rs_up; rw [if_neg (by omega)]
  have lk : ∀ s, mu_lg (mu_si (mu_sl (mu_si w a 4 (mI ((n + 1 : Nat) : Int))) (a + 2) (slt e key t) key) (a + 3) (slt e key t) (mI ((n + 1 : Nat) : Int))) (a + 2) s = if s = slt e key t then key else mu_lg w (a + 2) s := fun s => by
    rw [mu_lg_si, mu_lg_sl]
    by_cases q : s = slt e key t
    · rw [if_pos ⟨rfl, q⟩, if_pos q]
    · rw [if_neg (fun r => q r.2), if_neg q, mu_lg_si]
  have nz : ∀ s, mu_lg w (a + 2) s ≠ 0 → s ≠ slt e key t := fun s q r => q (by rw [r]; exact h0)
  refine ⟨?_, ?_, fun m a1 a2 => ?_, fun s a1 a2 => ?_, fun s s' a1 a2 a3 a4 => ?_, fun m m' a1 a2 a3 a4 a5 => ?_⟩
  · rw [mu_iv_oth _ _ (by omega), mu_iv_sl, mu_iv_oth _ _ (by omega)]; exact g1
  · rw [mu_iv_oth _ _ (by omega), mu_iv_sl, mu_iv_same]
  · by_cases q : m = n + 1
    · rw [q, u1]
      refine ⟨hk, t, ht, by rw [lk, if_pos rfl], fun t' q2 => ?_⟩
      rw [lk]
      by_cases q3 : slt e key t' = slt e key t
      · rw [if_pos q3]; exact hk
      · rw [if_neg q3]; exact (hb t' q2).1
    · rw [u2 m (by omega)]
      obtain ⟨b1, t0, b2, b3, b4⟩ := g3 m a1 (by omega)
      refine ⟨b1, t0, b2, ?_, fun t' q2 => ?_⟩
      · rw [lk, if_neg (nz _ (by rw [b3]; exact b1))]; exact b3
      · rw [lk, if_neg (nz _ (b4 t' q2))]; exact b4 t' q2
  · rw [lk] at a2 ⊢
    by_cases q : s = slt e key t
    · refine ⟨n + 1, by omega, Nat.le_refl _, by rw [if_pos q, u1], ?_⟩
      rw [q, mu_iv_same]
    · rw [if_neg q] at a2 ⊢
      obtain ⟨m, b1, b2, b3, b4⟩ := g4 s a1 a2
      refine ⟨m, b1, by omega, by rw [u2 m b2]; exact b3, ?_⟩
      rw [mu_iv_oth _ _ (fun r => q r.2), mu_iv_sl, mu_iv_oth _ _ (by omega)]
      exact b4
  · rw [lk] at a3
    rw [lk, lk] at a4
    by_cases q : s = slt e key t
    · by_cases q2 : s' = slt e key t
      · rw [q, q2]
      · rw [if_pos q, if_neg q2] at a4
        exfalso
        obtain ⟨m, b1, b2, b3, _⟩ := g4 s' a2 (by rw [← a4]; exact hk)
        exact hfr m b1 b2 (by rw [← b3]; exact a4.symm)
    · by_cases q2 : s' = slt e key t
      · rw [if_neg q, if_pos q2] at a4
        rw [if_neg q] at a3
        exfalso
        obtain ⟨m, b1, b2, b3, _⟩ := g4 s a1 a3
        exact hfr m b1 b2 (by rw [← b3]; exact a4)
      · rw [if_neg q] at a3
        rw [if_neg q, if_neg q2] at a4
        exact g5 s s' a1 a2 a3 a4
  · by_cases q : m = n + 1
    · by_cases q2 : m' = n + 1
      · omega
      · rw [q, u1, u2 m' (by omega)] at a5; exact absurd a5.symm (hfr m' a3 (by omega))
    · by_cases q2 : m' = n + 1
      · rw [q2, u1, u2 m (by omega)] at a5; exact absurd a5 (hfr m a1 (by omega))
      · rw [u2 m (by omega), u2 m' (by omega)] at a5
        exact g6 m m' a1 (by omega) a3 (by omega) a5
def nmS (a : Nat) : Nat → Nat → Prop := fun q j => (q = a ∧ (j = 4 ∨ j = 5)) ∨ q = a + 2 ∨ q = a + 3
/-- a key gets its name -/
def nmo_post (w : mu_W) (a e n : Nat) (kf : Nat → Int64) (key : Int64) (r : Option Value) (w' : mu_W) : Prop := mu_Fi (nmS a) w w' ∧ ∃ v : Nat, r = some (.int (mI v)) ∧ ((key = 0 ∧ v = 0 ∧ HTb w' a e n kf ∧ mu_iv w' a 5 = mI 1) ∨ (key ≠ 0 ∧ mu_iv w' a 5 = mu_iv w a 5 ∧ ((1 ≤ v ∧ v ≤ n ∧ kf v = key ∧ HTb w' a e n kf) ∨ (v = n + 1 ∧ (∀ m, 1 ≤ m → m ≤ n → kf m ≠ key) ∧ HTb w' a e (n + 1) (rs_up kf (n + 1) key)))))

set_option maxHeartbeats 4000000 in
set_option maxRecDepth 100000 in
theorem c_X8_nameOf (G : mu_G) {w : mu_W} {a : Nat} (ho : CQo w a) {e n : Nat} (he : e ≤ 13) {kf : Nat → Int64} (hT : HTb w a e n kf) (hn : n < 2 ^ e) {key : Int64} : mu_Ct G M_X8_nameOf [.ref a, .long key] w (nmo_post w a e n kf key) := by
  obtain ⟨ka, ⟨r0, k1⟩, ⟨r1, k2⟩, ⟨r2, k3⟩⟩ := id ho
  have hhl := hsh_lt key
  have he2 : 2 ^ e ≤ 8192 := Nat.pow_le_pow_right (n := 2) (i := e) (j := 13) (by decide) he
  have hpp := Nat.two_pow_pos e
  refine mu_ofWA G M_X8_nameOf [.ref a, .long key, mu_no, mu_no, mu_no, mu_no] (by decide) rfl (Nat.le_of_ble_eq_true rfl) ?_
  intro X E
  have B : mu_B X G cX8_nameOf RX8 6 (mu_rm M_X8_nameOf) := E.1
  show mu_WA X G 6 _ _ 0 0 0 _ []
  refine mu_ll_1 B dX8_nameOf_0 ?_
  refine mu_lconst (v := mL 0) B dX8_nameOf_1 rfl ?_
  refine mu_lcmp B dX8_nameOf_2 ?_
  refine mu_if_ne (tgt := 13) B dX8_nameOf_3 (by decide) (fun c3 => ?_) (fun c3 => ?_)
  · rw [lg_cmp_eq] at c3
    have hkey : key ≠ 0 := c3
    have LN : ∀ t (uu : Unit), t ≤ 2 ^ e → (∀ t9, t9 < t → mu_lg w (a + 2) (slt e key t9) ≠ 0 ∧ mu_lg w (a + 2) (slt e key t9) ≠ key) → mu_WA X G 6 (mu_Q X G M_X8_nameOf (nmo_post w a e n kf key)) w 0 0 26 [.ref a, .long key, mu_no, .int (mI ((hsh key : Nat) : Int)), .int (mI t), mu_no] [] := by
      refine mu_ind (2 ^ e) (fun t (uu : Unit) => mu_WA X G 6 (mu_Q X G M_X8_nameOf (nmo_post w a e n kf key)) w 0 0 26 [.ref a, .long key, mu_no, .int (mI ((hsh key : Nat) : Int)), .int (mI t), mu_no] []) (fun t (uu : Unit) => ∀ t9, t9 < t → mu_lg w (a + 2) (slt e key t9) ≠ 0 ∧ mu_lg w (a + 2) (slt e key t9) ≠ key) ?_
      intro t uu ht hbef ih
      refine mu_il_4 B dX8_nameOf_26 ?_
      refine mu_al_0 B dX8_nameOf_28 ?_
      refine mu_getI B dX8_nameOf_29 fX8_98 rfl (by assumption) ?_
      rw [hT.1]
      refine mu_icmp_ge (tgt := 115) B dX8_nameOf_32 (by decide) (fun c32 => ?_) (fun c32 => ?_)
      · try rw [mI_le ⟨by omega, by omega⟩ ⟨by omega, by omega⟩] at c32
        try rw [mI_le ⟨by omega, by omega⟩ ⟨by omega, by omega⟩] at c32
        exfalso
        refine hT.room hn (fun s hs => ?_)
        obtain ⟨t9, h1, h2⟩ := slt_all e key hs
        rw [← h2]
        exact (hbef t9 (by omega)).1
      · try rw [mI_le ⟨by omega, by omega⟩ ⟨by omega, by omega⟩] at c32
        have hst := slt_lt e key t
        refine mu_il_3 B dX8_nameOf_35 ?_
        refine mu_il_4 B dX8_nameOf_36 ?_
        refine mu_iadd B dX8_nameOf_38 ?_
        try rw [mI_add]
        try rw [mI_add]
        rw [show ((hsh key : Nat) : Int) + (t : Int) = ((hsh key + t : Nat) : Int) by omega]
        refine mu_al_0 B dX8_nameOf_39 ?_
        refine mu_getI B dX8_nameOf_40 fX8_98 rfl (by assumption) ?_
        rw [hT.1]
        refine mu_iconst (v := mI 1) B dX8_nameOf_43 rfl ?_
        refine mu_isub B dX8_nameOf_44 ?_
        try rw [mI_sub]
        try rw [mI_sub]
        rw [show ((2 ^ e : Nat) : Int) - 1 = ((2 ^ e - 1 : Nat) : Int) by omega]
        refine mu_iand B dX8_nameOf_45 ?_
        rw [and_mask (by omega) he]
        show mu_WA X G 6 _ w 0 0 46 _ [.int (mI ((slt e key t : Nat) : Int))]
        refine mu_is_5 B dX8_nameOf_46 (by decide) rfl ?_
        refine mu_al_0 B dX8_nameOf_48 ?_
        refine mu_getR B dX8_nameOf_49 fX8_13 rfl (by assumption) (by assumption) ?_
        refine mu_il_5 B dX8_nameOf_52 ?_
        refine mu_lald B dX8_nameOf_54 (by exact k2) (mI_inN (by omega) (by decide)) ?_
        rw [mI_clampN (by omega)]
        refine mu_lconst (v := mL 0) B dX8_nameOf_55 rfl ?_
        refine mu_lcmp B dX8_nameOf_56 ?_
        refine mu_if_ne (tgt := 89) B dX8_nameOf_57 (by decide) (fun c57 => ?_) (fun c57 => ?_)
        · rw [lg_cmp_eq] at c57
          replace c57 : mu_lg w (a + 2) (slt e key t) ≠ 0 := c57
          refine mu_al_0 B dX8_nameOf_89 ?_
          refine mu_getR B dX8_nameOf_90 fX8_13 rfl (by exact ka) (by exact r1) ?_
          refine mu_il_5 B dX8_nameOf_93 ?_
          refine mu_lald B dX8_nameOf_95 (by exact k2) (mI_inN (by omega) (by decide)) ?_
          rw [mI_clampN (by omega)]
          refine mu_ll_1 B dX8_nameOf_96 ?_
          refine mu_lcmp B dX8_nameOf_97 ?_
          refine mu_if_ne (tgt := 109) B dX8_nameOf_98 (by decide) (fun c98 => ?_) (fun c98 => ?_)
          · rw [lg_cmp_eq] at c98
            refine mu_inc_4 (c := mI 1) B dX8_nameOf_109 rfl (by decide) rfl ?_
            try rw [mI_add]
            refine mu_goto (tgt := 26) B dX8_nameOf_112 (by decide) ?_
            first
              | (exfalso; exact c98 (by rw [mu_lg_si, mu_lg_sl, if_pos ⟨rfl, rfl⟩]))
              | (refine mu_fg (ih () (by omega) (fun t9 h9 => ?_)) rfl (by rw [show ((t + 1 : Nat) : Int) = (t : Int) + 1 by omega]; exact ⟨Or.inl rfl, Or.inl rfl, Or.inl rfl, Or.inl rfl, Or.inl rfl, Or.inr rfl, trivial⟩)
                 by_cases e9 : t9 = t
                 · rw [e9]; exact ⟨c57, c98⟩
                 · exact hbef t9 (by omega))
          · rw [lg_cmp_eq] at c98
            refine mu_al_0 B dX8_nameOf_101 ?_
            refine mu_getR B dX8_nameOf_102 fX8_17 rfl (by exact ka) (by exact r2) ?_
            refine mu_il_5 B dX8_nameOf_105 ?_
            refine mu_iald B dX8_nameOf_107 (by exact k3) (mI_inN (by omega) (by decide)) ?_
            rw [mI_clampN (by omega)]
            refine mu_iret E rfl (by decide) (by decide) dX8_nameOf_108 ?_
            first
              | (exact ⟨(((mu_Fi.refl _).si (Or.inl ⟨rfl, Or.inl rfl⟩)).sl (Or.inr (Or.inl rfl))).si (Or.inr (Or.inr rfl)), n + 1, by rw [mu_iv_same], Or.inr ⟨hkey, by rw [mu_iv_oth _ _ (by omega), mu_iv_sl, mu_iv_oth _ _ (by omega)], Or.inr ⟨rfl, hT.fresh hkey c57 (fun t9 q => (hbef t9 q).2), hT.add hkey (by omega) c57 hbef⟩⟩⟩)
              | (obtain ⟨m, m1, m2, m3, m4⟩ := hT.2.2.2.1 (slt e key t) hst c57
                 exact ⟨mu_Fi.refl _, m, by rw [m4], Or.inr ⟨hkey, rfl, Or.inl ⟨m1, m2, by rw [← m3]; exact c98, hT⟩⟩⟩)
        · rw [lg_cmp_eq] at c57
          replace c57 : mu_lg w (a + 2) (slt e key t) = 0 := c57
          refine mu_al_0 B dX8_nameOf_60 ?_
          refine mu_dup B dX8_nameOf_61 rfl ?_
          refine mu_getI B dX8_nameOf_62 fX8_85 rfl (by assumption) ?_
          rw [hT.2.1]
          refine mu_iconst (v := mI 1) B dX8_nameOf_65 rfl ?_
          refine mu_iadd B dX8_nameOf_66 ?_
          try rw [mI_add]
          try rw [mI_add]
          rw [show (n : Int) + 1 = ((n + 1 : Nat) : Int) by omega]
          refine mu_putI B dX8_nameOf_67 fX8_85 fwX8_4 rfl (by exact ka) ?_
          refine mu_al_0 B dX8_nameOf_70 ?_
          refine mu_getR B dX8_nameOf_71 fX8_13 rfl (by exact ka) (by exact r1) ?_
          refine mu_il_5 B dX8_nameOf_74 ?_
          refine mu_ll_1 B dX8_nameOf_76 ?_
          refine mu_last B dX8_nameOf_77 (by exact k2) (mI_inN (by omega) (by decide)) ?_
          rw [mI_clampN (by omega)]
          refine mu_al_0 B dX8_nameOf_78 ?_
          refine mu_getR B dX8_nameOf_79 fX8_17 rfl (by exact ka) (by exact r2) ?_
          refine mu_il_5 B dX8_nameOf_82 ?_
          refine mu_al_0 B dX8_nameOf_84 ?_
          refine mu_getI B dX8_nameOf_85 fX8_85 rfl (by exact ka) ?_
          rw [mu_iv_sl, mu_iv_same]
          refine mu_iast B dX8_nameOf_88 (by exact k3) (mI_inN (by omega) (by decide)) ?_
          rw [mI_clampN (by omega)]
          refine mu_al_0 B dX8_nameOf_89 ?_
          refine mu_getR B dX8_nameOf_90 fX8_13 rfl (by exact ka) (by exact r1) ?_
          refine mu_il_5 B dX8_nameOf_93 ?_
          refine mu_lald B dX8_nameOf_95 (by exact k2) (mI_inN (by omega) (by decide)) ?_
          rw [mI_clampN (by omega)]
          refine mu_ll_1 B dX8_nameOf_96 ?_
          refine mu_lcmp B dX8_nameOf_97 ?_
          refine mu_if_ne (tgt := 109) B dX8_nameOf_98 (by decide) (fun c98 => ?_) (fun c98 => ?_)
          · rw [lg_cmp_eq] at c98
            refine mu_inc_4 (c := mI 1) B dX8_nameOf_109 rfl (by decide) rfl ?_
            try rw [mI_add]
            refine mu_goto (tgt := 26) B dX8_nameOf_112 (by decide) ?_
            first
              | (exfalso; exact c98 (by rw [mu_lg_si, mu_lg_sl, if_pos ⟨rfl, rfl⟩]))
              | (refine mu_fg (ih () (by omega) (fun t9 h9 => ?_)) rfl (by rw [show ((t + 1 : Nat) : Int) = (t : Int) + 1 by omega]; exact ⟨Or.inl rfl, Or.inl rfl, Or.inl rfl, Or.inl rfl, Or.inl rfl, Or.inr rfl, trivial⟩)
                 by_cases e9 : t9 = t
                 · rw [e9]; exact ⟨c57, c98⟩
                 · exact hbef t9 (by omega))
          · rw [lg_cmp_eq] at c98
            refine mu_al_0 B dX8_nameOf_101 ?_
            refine mu_getR B dX8_nameOf_102 fX8_17 rfl (by exact ka) (by exact r2) ?_
            refine mu_il_5 B dX8_nameOf_105 ?_
            refine mu_iald B dX8_nameOf_107 (by exact k3) (mI_inN (by omega) (by decide)) ?_
            rw [mI_clampN (by omega)]
            refine mu_iret E rfl (by decide) (by decide) dX8_nameOf_108 ?_
            first
              | (exact ⟨(((mu_Fi.refl _).si (Or.inl ⟨rfl, Or.inl rfl⟩)).sl (Or.inr (Or.inl rfl))).si (Or.inr (Or.inr rfl)), n + 1, by rw [mu_iv_same], Or.inr ⟨hkey, by rw [mu_iv_oth _ _ (by omega), mu_iv_sl, mu_iv_oth _ _ (by omega)], Or.inr ⟨rfl, hT.fresh hkey c57 (fun t9 q => (hbef t9 q).2), hT.add hkey (by omega) c57 hbef⟩⟩⟩)
              | (obtain ⟨m, m1, m2, m3, m4⟩ := hT.2.2.2.1 (slt e key t) hst c57
                 exact ⟨mu_Fi.refl _, m, by rw [m4], Or.inr ⟨hkey, rfl, Or.inl ⟨m1, m2, by rw [← m3]; exact c98, hT⟩⟩⟩)
    refine mu_ll_1 B dX8_nameOf_13 ?_
    refine mu_ldc2 B kX8_101 dX8_nameOf_14 ?_
    refine mu_lmul B dX8_nameOf_17 ?_
    refine mu_bipush (v := mI 40) B dX8_nameOf_18 (by decide) ?_
    refine mu_lushr B dX8_nameOf_20 rfl ?_
    have hun : un ((key * mL (-7046029254386353131)).toUInt64 >>> ((mI 40).toInt64.toUInt64 &&& Int64.toUInt64 63)).toInt64 = hsh key := un_ush _ (k := 40) (by decide)
    refine mu_l2i B dX8_nameOf_21 rfl ?_
    rw [l2i_s (by rw [hun]; omega), hun]
    refine mu_is_3 B dX8_nameOf_22 (by decide) rfl ?_
    refine mu_iconst (v := mI 0) B dX8_nameOf_23 rfl ?_
    refine mu_is_4 B dX8_nameOf_24 (by decide) rfl ?_
    exact LN 0 () (Nat.zero_le _) (fun t9 h9 => absurd h9 (Nat.not_lt_zero _))
  · rw [lg_cmp_eq] at c3
    have hkey : key = 0 := c3
    refine mu_al_0 B dX8_nameOf_6 ?_
    refine mu_iconst (v := mI 1) B dX8_nameOf_7 rfl ?_
    refine mu_putZ B dX8_nameOf_8 fX8_65 fwX8_5 rfl (Or.inr rfl) (by assumption) ?_
    refine mu_iconst (v := mI 0) B dX8_nameOf_11 rfl ?_
    refine mu_iret E rfl (by decide) (by decide) dX8_nameOf_12 ?_
    exact ⟨(mu_Fi.refl _).si (Or.inl ⟨rfl, Or.inr rfl⟩), 0, rfl, Or.inl ⟨hkey, rfl, hT.fi (S := fun q j => q = a ∧ j = 5) ((mu_Fi.refl _).si ⟨rfl, rfl⟩) (by omega) (by omega) (fun j hh => by omega) (fun j hh => by omega), mu_iv_same _ _ _ _⟩⟩
