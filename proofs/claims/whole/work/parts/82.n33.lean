/-! ===== the class's searches: hits ===== -/
def CSo (w : mu_W) (a : Nat) : Prop := mu_kd w a = some (7, 0) ∧ (mu_rv w a 0 = some (a + 1) ∧ mu_kd w (a + 1) = some (100, 64)) ∧ (mu_rv w a 1 = some (a + 2) ∧ mu_kd w (a + 2) = some (100, 64)) ∧ (mu_rv w a 2 = some (a + 3) ∧ mu_kd w (a + 3) = some (100, 64)) ∧ (mu_rv w a 4 = some (a + 4) ∧ mu_kd w (a + 4) = some (100, 64)) ∧ (mu_rv w a 5 = some (a + 5) ∧ mu_kd w (a + 5) = some (100, 17)) ∧ (mu_rv w a 9 = some (a + 6) ∧ mu_kd w (a + 6) = some (100, 4096)) ∧ (mu_rv w a 10 = some (a + 7) ∧ mu_kd w (a + 7) = some (101, 1024))
theorem CSo.fi {S : Nat → Nat → Prop} {w w' : mu_W} {a : Nat} (h : CSo w a) (hF : mu_Fi S w w') : CSo w' a := by
  obtain ⟨h0, h1, h2, h3, h4, h5, h6, h7⟩ := h
  exact ⟨hF.kd h0, ⟨hF.rv h1.1, hF.kd h1.2⟩, ⟨hF.rv h2.1, hF.kd h2.2⟩, ⟨hF.rv h3.1, hF.kd h3.2⟩, ⟨hF.rv h4.1, hF.kd h4.2⟩, ⟨hF.rv h5.1, hF.kd h5.2⟩, ⟨hF.rv h6.1, hF.kd h6.2⟩, ⟨hF.rv h7.1, hF.kd h7.2⟩⟩
/-- the bits and the number of what was hit -/
def CHt (w : mu_W) (a : Nat) (P : Nat → Prop) : Prop := (∀ p, p < 65536 → (lb (mu_lg w (a + 7) (p / 64)) (p % 64) = true ↔ P p)) ∧ mu_iv w a 11 = mI (en_c P 65536)
def hS (a : Nat) : Nat → Nat → Prop := fun e j => (e = a ∧ j = 11) ∨ e = a + 7
theorem CHt.fi {S : Nat → Nat → Prop} {w w' : mu_W} {a : Nat} {P : Nat → Prop} (h : CHt w a P) (hF : mu_Fi S w w') (h1 : ¬ S a 11) (h2 : ∀ j, ¬ S (a + 7) j) : CHt w' a P := ⟨fun p hp => by rw [hF.lg (h2 _) rfl]; exact h.1 p hp, hF.iv h1 h.2⟩
theorem CHt.ext {w : mu_W} {a : Nat} {P Q : Nat → Prop} (h : CHt w a P) (he : ∀ p, p < 65536 → (P p ↔ Q p)) : CHt w a Q := ⟨fun p hp => (h.1 p hp).trans (he p hp), by rw [← en_eq he]; exact h.2⟩
theorem en_none (n : Nat) : en_c (fun _ => False) n = 0 := by
  induction n with
  | zero => rfl
  | succ n ih => rw [en_neg (fun h => h), ih]
theorem ush1_0 (x : Int64) {k : Nat} (hk : k < 64) : ((x.toUInt64 >>> ((mI (k : Int)).toInt64.toUInt64 &&& Int64.toUInt64 63)).toInt64 &&& mL 1 = mL 0) ↔ lb x k = false := by
  rw [show mL 0 = 0 from rfl, lb_zero]
  constructor
  · intro h
    have := h 0 (by decide)
    rw [lb_and, lb_ush _ hk, lb_1 0 (by decide), Nat.add_zero] at this
    simpa using this
  · intro h i hi
    rw [lb_and, lb_ush _ hk, lb_1 i hi]
    by_cases e : i = 0
    · rw [e, Nat.add_zero, h]; rfl
    · rw [decide_eq_false e, Bool.and_false]

set_option maxHeartbeats 4000000 in
set_option maxRecDepth 100000 in
theorem c_X7_forget (G : mu_G) {w : mu_W} {a : Nat} (ho : CSo w a) : mu_Ct G M_X7_forget [.ref a] w (fun r w' => r = none ∧ mu_Fi (hS a) w w' ∧ CHt w' a (fun _ => False)) := by
  obtain ⟨ka, ⟨r0, k1⟩, ⟨r1, k2⟩, ⟨r2, k3⟩, ⟨r4, k4⟩, ⟨r5, k5⟩, ⟨r9, k6⟩, ⟨r10, k7⟩⟩ := id ho
  refine mu_ofWA G M_X7_forget [.ref a] (by decide) rfl (Nat.le_of_ble_eq_true rfl) ?_
  intro X E
  have B : mu_B X G cX7_forget RX7 1 (mu_rm M_X7_forget) := E.1
  show mu_WA X G 1 _ _ 0 0 0 _ []
  refine mu_al_0 B dX7_forget_0 ?_
  refine mu_getR B dX7_forget_1 fX7_30 rfl (by assumption) (by assumption) ?_
  refine mu_lconst (v := mL 0) B dX7_forget_4 rfl ?_
  refine mu_cS2 B dX7_forget_5 mX7_118 ⟨⟨by decide, by decide⟩, by decide, by decide⟩ (Nat.le_of_ble_eq_true rfl) (c_J7_fillL G (N := 1024) (by exact k7) (by decide)) (fun r5 w5 q5 => ?_)
  obtain ⟨rfl, hF, hz⟩ := q5
  have ka2 := hF.kd ka
  refine mu_al_0 B dX7_forget_8 ?_
  refine mu_iconst (v := mI 0) B dX7_forget_9 rfl ?_
  refine mu_putI B dX7_forget_10 fX7_46 fwX7_11 rfl (by assumption) ?_
  refine mu_vret E rfl (by decide) (by decide) dX7_forget_13 ?_
  refine ⟨rfl, (hF.mono (fun e j hh => Or.inr hh)).si (Or.inl ⟨rfl, rfl⟩), fun p hp => ?_, ?_⟩
  · rw [show mu_lg (mu_si w5 a 11 (mI 0)) (a + 7) (p / 64) = mu_lg w5 (a + 7) (p / 64) from rfl, hz _ (by omega), show mL 0 = 0 from rfl, lb_0]
    exact ⟨fun h => absurd h (by decide), fun h => False.elim h⟩
  · rw [mu_iv_same, en_none]; rfl

set_option maxHeartbeats 4000000 in
set_option maxRecDepth 100000 in
theorem c_X7_hit (G : mu_G) {w : mu_W} {a : Nat} (ho : CSo w a) {P : Nat → Prop} (hP : CHt w a P) {p : Nat} (hp : p < 65536) (hn : ¬ P p) : mu_Ct G M_X7_hit [.ref a, .int (mI p)] w (fun r w' => r = none ∧ mu_Fi (hS a) w w' ∧ CHt w' a (fun q => P q ∨ q = p)) := by
  obtain ⟨ka, ⟨r0, k1⟩, ⟨r1, k2⟩, ⟨r2, k3⟩, ⟨r4, k4⟩, ⟨r5, k5⟩, ⟨r9, k6⟩, ⟨r10, k7⟩⟩ := id ho
  refine mu_ofWA G M_X7_hit [.ref a, .int (mI p)] (by decide) rfl (Nat.le_of_ble_eq_true rfl) ?_
  intro X E
  have B : mu_B X G cX7_hit RX7 2 (mu_rm M_X7_hit) := E.1
  show mu_WA X G 2 _ _ 0 0 0 _ []
  refine mu_il_1 B dX7_hit_0 ?_
  refine mu_if_lt (tgt := 38) B dX7_hit_1 (by decide) (fun c1 => ?_) (fun c1 => ?_)
  · try rw [mI_lt0 ⟨by omega, by omega⟩] at c1
    exfalso
    omega
  · try rw [mI_lt0 ⟨by omega, by omega⟩] at c1
    refine mu_il_1 B dX7_hit_4 ?_
    refine mu_ldc B kX7_41 dX7_hit_5 ?_
    refine mu_icmp_ge (tgt := 38) B dX7_hit_7 (by decide) (fun c7 => ?_) (fun c7 => ?_)
    · try rw [mI_le ⟨by omega, by omega⟩ ⟨by omega, by omega⟩] at c7
      exfalso
      omega
    · try rw [mI_le ⟨by omega, by omega⟩ ⟨by omega, by omega⟩] at c7
      refine mu_al_0 B dX7_hit_10 ?_
      refine mu_getR B dX7_hit_11 fX7_30 rfl (by assumption) (by assumption) ?_
      refine mu_il_1 B dX7_hit_14 ?_
      refine mu_bipush (v := mI 6) B dX7_hit_15 (by decide) ?_
      refine mu_ishr B dX7_hit_17 ?_
      rw [mI_shr6 ⟨by omega, by omega⟩, show (p : Int) / 64 = ((p / 64 : Nat) : Int) by omega]
      refine mu_dup2_11 B dX7_hit_18 rfl rfl ?_
      refine mu_lald B dX7_hit_19 (by exact k7) (mI_inN (by omega) (by decide)) ?_
      rw [mI_clampN (by omega)]
      refine mu_lconst (v := mL 1) B dX7_hit_20 rfl ?_
      refine mu_il_1 B dX7_hit_21 ?_
      refine mu_bipush (v := mI 63) B dX7_hit_22 (by decide) ?_
      refine mu_iand B dX7_hit_24 ?_
      rw [mI_and _ (m := mI 63) 6 (by decide) (by decide), show (p : Int) % 2 ^ 6 = ((p % 64 : Nat) : Int) by omega]
      refine mu_lshl B dX7_hit_25 rfl ?_
      refine mu_lor B dX7_hit_26 ?_
      refine mu_last B dX7_hit_27 (by exact k7) (mI_inN (by omega) (by decide)) ?_
      rw [mI_clampN (by omega)]
      refine mu_al_0 B dX7_hit_28 ?_
      refine mu_dup B dX7_hit_29 rfl ?_
      refine mu_getI B dX7_hit_30 fX7_46 rfl (by exact ka) ?_
      rw [mu_iv_sl, hP.2]
      refine mu_iconst (v := mI 1) B dX7_hit_33 rfl ?_
      refine mu_iadd B dX7_hit_34 ?_
      try rw [mI_add]
      try rw [mI_add]
      rw [show (en_c P 65536 : Int) + 1 = ((en_c P 65536 + 1 : Nat) : Int) by omega]
      refine mu_putI B dX7_hit_35 fX7_46 fwX7_11 rfl (by exact ka) ?_
      refine mu_vret E rfl (by decide) (by decide) dX7_hit_38 ?_
      refine ⟨rfl, ((mu_Fi.refl _).sl (Or.inr rfl)).si (Or.inl ⟨rfl, rfl⟩), fun q hq => ?_, ?_⟩
      · rw [show mu_lg (mu_si (mu_sl w (a + 7) (p / 64) _) a 11 _) (a + 7) (q / 64) = mu_lg (mu_sl w (a + 7) (p / 64) _) (a + 7) (q / 64) from rfl, mu_lg_sl]
        by_cases e : q / 64 = p / 64
        · rw [if_pos ⟨rfl, e⟩, lb_or, lb_shl _ (by omega) (by omega), Bool.or_eq_true]
          have h1 := hP.1 q hq
          rw [e] at h1
          rw [h1]
          constructor
          · rintro (h2 | h2)
            · exact Or.inl h2
            · right
              rw [Bool.and_eq_true, decide_eq_true_eq, lb_1 _ (by omega), decide_eq_true_eq] at h2
              omega
          · rintro (h2 | h2)
            · exact Or.inl h2
            · right
              rw [h2, Nat.sub_self, lb_1 0 (by decide)]
              simp
        · rw [if_neg (fun h => e h.2)]
          have h1 := hP.1 q hq
          rw [h1]
          exact ⟨Or.inl, fun h2 => h2.elim id (fun h3 => absurd (by rw [h3]) e)⟩
      · rw [mu_iv_same, en_plus hn hp]

set_option maxHeartbeats 4000000 in
set_option maxRecDepth 100000 in
theorem c_X7_isHit (G : mu_G) {w : mu_W} {a : Nat} (ho : CSo w a) {P : Nat → Prop} (hP : CHt w a P) {p : Nat} (hp : p < 65536) : mu_Ct G M_X7_isHit [.ref a, .int (mI p)] w (fun r w' => ((P p → r = some (.int (mI 1))) ∧ (¬ P p → r = some (.int (mI 0)))) ∧ w' = w) := by
  obtain ⟨ka, ⟨r0, k1⟩, ⟨r1, k2⟩, ⟨r2, k3⟩, ⟨r4, k4⟩, ⟨r5, k5⟩, ⟨r9, k6⟩, ⟨r10, k7⟩⟩ := id ho
  refine mu_ofWA G M_X7_isHit [.ref a, .int (mI p)] (by decide) rfl (Nat.le_of_ble_eq_true rfl) ?_
  intro X E
  have B : mu_B X G cX7_isHit RX7 2 (mu_rm M_X7_isHit) := E.1
  show mu_WA X G 2 _ _ 0 0 0 _ []
  refine mu_il_1 B dX7_isHit_0 ?_
  refine mu_if_lt (tgt := 35) B dX7_isHit_1 (by decide) (fun c1 => ?_) (fun c1 => ?_)
  · try rw [mI_lt0 ⟨by omega, by omega⟩] at c1
    exfalso
    omega
  · try rw [mI_lt0 ⟨by omega, by omega⟩] at c1
    refine mu_il_1 B dX7_isHit_4 ?_
    refine mu_ldc B kX7_41 dX7_isHit_5 ?_
    refine mu_icmp_ge (tgt := 35) B dX7_isHit_7 (by decide) (fun c7 => ?_) (fun c7 => ?_)
    · try rw [mI_le ⟨by omega, by omega⟩ ⟨by omega, by omega⟩] at c7
      exfalso
      omega
    · try rw [mI_le ⟨by omega, by omega⟩ ⟨by omega, by omega⟩] at c7
      refine mu_al_0 B dX7_isHit_10 ?_
      refine mu_getR B dX7_isHit_11 fX7_30 rfl (by assumption) (by assumption) ?_
      refine mu_il_1 B dX7_isHit_14 ?_
      refine mu_bipush (v := mI 6) B dX7_isHit_15 (by decide) ?_
      refine mu_ishr B dX7_isHit_17 ?_
      rw [mI_shr6 ⟨by omega, by omega⟩, show (p : Int) / 64 = ((p / 64 : Nat) : Int) by omega]
      refine mu_lald B dX7_isHit_18 (by exact k7) (mI_inN (by omega) (by decide)) ?_
      rw [mI_clampN (by omega)]
      refine mu_il_1 B dX7_isHit_19 ?_
      refine mu_bipush (v := mI 63) B dX7_isHit_20 (by decide) ?_
      refine mu_iand B dX7_isHit_22 ?_
      rw [mI_and _ (m := mI 63) 6 (by decide) (by decide), show (p : Int) % 2 ^ 6 = ((p % 64 : Nat) : Int) by omega]
      refine mu_lushr B dX7_isHit_23 rfl ?_
      refine mu_lconst (v := mL 1) B dX7_isHit_24 rfl ?_
      refine mu_land B dX7_isHit_25 ?_
      refine mu_lconst (v := mL 0) B dX7_isHit_26 rfl ?_
      refine mu_lcmp B dX7_isHit_27 ?_
      refine mu_if_eq (tgt := 35) B dX7_isHit_28 (by decide) (fun c28 => ?_) (fun c28 => ?_)
      · rw [lg_cmp_eq, ush1_0 _ (by omega)] at c28
        refine mu_iconst (v := mI 0) B dX7_isHit_35 rfl ?_
        refine mu_zret E rfl (by decide) (by decide) dX7_isHit_36 (by decide) ?_
        have h1 := hP.1 p hp
        first
          | (refine ⟨⟨fun q => ?_, fun _ => rfl⟩, rfl⟩
             rw [h1.mpr q] at c28; cases c28)
          | (refine ⟨⟨fun _ => rfl, fun q => ?_⟩, rfl⟩
             exact absurd (h1.mp (by simpa using c28)) q)
      · rw [lg_cmp_eq, ush1_0 _ (by omega)] at c28
        refine mu_iconst (v := mI 1) B dX7_isHit_31 rfl ?_
        refine mu_goto (tgt := 36) B dX7_isHit_32 (by decide) ?_
        refine mu_zret E rfl (by decide) (by decide) dX7_isHit_36 (by decide) ?_
        have h1 := hP.1 p hp
        first
          | (refine ⟨⟨fun q => ?_, fun _ => rfl⟩, rfl⟩
             rw [h1.mpr q] at c28; cases c28)
          | (refine ⟨⟨fun _ => rfl, fun q => ?_⟩, rfl⟩
             exact absurd (h1.mp (by simpa using c28)) q)

set_option maxHeartbeats 4000000 in
set_option maxRecDepth 100000 in
theorem c_X7_hitAt (G : mu_G) {w : mu_W} {a : Nat} (ho : CSo w a) {P : Nat → Prop} (hP : CHt w a P) {i : Nat} (hi : i < en_c P 65536) : mu_Ct G M_X7_hitAt [.ref a, .int (mI i)] w (fun r w' => (∃ j, j < 65536 ∧ P j ∧ en_c P j = i ∧ r = some (.int (mI (j : Nat)))) ∧ w' = w) := by
  obtain ⟨ka, ⟨r0, k1⟩, ⟨r1, k2⟩, ⟨r2, k3⟩, ⟨r4, k4⟩, ⟨r5, k5⟩, ⟨r9, k6⟩, ⟨r10, k7⟩⟩ := id ho
  have hi6 := en_le P 65536
  refine mu_ofWA G M_X7_hitAt [.ref a, .int (mI i), mu_no, mu_no, mu_no, mu_no] (by decide) rfl (Nat.le_of_ble_eq_true rfl) ?_
  intro X E
  have B : mu_B X G cX7_hitAt RX7 6 (mu_rm M_X7_hitAt) := E.1
  have LW9 : ∀ wd (bf : Nat), wd ≤ (1024 : Nat) → (en_c P (64 * wd) + bf = i) → mu_WA X G 6 (mu_Q X G M_X7_hitAt (fun r w' => (∃ j, j < 65536 ∧ P j ∧ en_c P j = i ∧ r = some (.int (mI (j : Nat)))) ∧ w' = w)) w 0 0 4 [.ref a, .int (mI i), .int (mI (bf : Nat)), .int (mI wd), mu_no, mu_no] [] := by
    refine mu_ind ((1024 : Nat)) (fun wd (bf : Nat) => mu_WA X G 6 (mu_Q X G M_X7_hitAt (fun r w' => (∃ j, j < 65536 ∧ P j ∧ en_c P j = i ∧ r = some (.int (mI (j : Nat)))) ∧ w' = w)) w 0 0 4 [.ref a, .int (mI i), .int (mI (bf : Nat)), .int (mI wd), mu_no, mu_no] []) (fun wd (bf : Nat) => en_c P (64 * wd) + bf = i) ?_
    intro wd bf hwd hbf ih
    have hword : wd < 1024 → en_c P (64 * wd + 64) = en_c P (64 * wd) + pcn 64 (un (mu_lg w (a + 7) wd)) := fun h9 => en_word 64 _ (fun q hq => by
      have := hP.1 (64 * wd + q) (by omega)
      rw [show (64 * wd + q) / 64 = wd by omega, show (64 * wd + q) % 64 = q by omega] at this
      exact this)
    have hmn := en_mono P (show 64 * wd ≤ 65536 by omega)
    refine mu_il_3 B dX7_hitAt_4 ?_
    refine mu_al_0 B dX7_hitAt_5 ?_
    refine mu_getR B dX7_hitAt_6 fX7_30 rfl (by assumption) (by assumption) ?_
    refine mu_len (ka := 1) B dX7_hitAt_9 k7 (by decide) ?_
    refine mu_icmp_ge (tgt := 91) B dX7_hitAt_10 (by decide) (fun c10 => ?_) (fun c10 => ?_)
    · try rw [mI_le ⟨by omega, by omega⟩ ⟨by omega, by omega⟩] at c10
      try rw [mI_le ⟨by omega, by omega⟩ ⟨by omega, by omega⟩] at c10
      exfalso
      obtain rfl : 1024 = wd := by omega
      rw [show 64 * 1024 = 65536 from rfl] at hbf
      omega
    · try rw [mI_le ⟨by omega, by omega⟩ ⟨by omega, by omega⟩] at c10
      refine mu_al_0 B dX7_hitAt_13 ?_
      refine mu_getR B dX7_hitAt_14 fX7_30 rfl (by assumption) (by assumption) ?_
      refine mu_il_3 B dX7_hitAt_17 ?_
      refine mu_lald B dX7_hitAt_18 k7 (mI_inN (by omega) (by decide)) ?_
      rw [mI_clampN (by omega)]
      refine mu_eS1 B dX7_hitAt_19 mX7_124 ⟨⟨by decide, by decide⟩, by decide, by decide⟩ (Nat.le_of_ble_eq_true rfl) (c_J13_bitCount G) ?_
      have hpl := pcn_le 64 (un (mu_lg w (a + 7) wd))
      refine mu_is_4 B dX7_hitAt_22 (by decide) rfl ?_
      refine mu_il_2 B dX7_hitAt_24 ?_
      refine mu_il_4 B dX7_hitAt_25 ?_
      refine mu_icmp_lt (tgt := 38) B dX7_hitAt_27 (by decide) (fun c27 => ?_) (fun c27 => ?_)
      · try rw [mI_lt ⟨by omega, by omega⟩ ⟨by omega, by omega⟩] at c27
        have LB : ∀ bt (bf : Nat), bt ≤ (64 : Nat) → (en_c P (64 * wd + bt) + bf = i) → mu_WA X G 6 (mu_Q X G M_X7_hitAt (fun r w' => (∃ j, j < 65536 ∧ P j ∧ en_c P j = i ∧ r = some (.int (mI (j : Nat)))) ∧ w' = w)) w 0 0 41 [.ref a, .int (mI i), .int (mI (bf : Nat)), .int (mI wd), .int (mI ((pcn 64 (un (mu_lg w (a + 7) wd)) : Nat) : Int)), .int (mI bt)] [] := by
          refine mu_ind ((64 : Nat)) (fun bt (bf : Nat) => mu_WA X G 6 (mu_Q X G M_X7_hitAt (fun r w' => (∃ j, j < 65536 ∧ P j ∧ en_c P j = i ∧ r = some (.int (mI (j : Nat)))) ∧ w' = w)) w 0 0 41 [.ref a, .int (mI i), .int (mI (bf : Nat)), .int (mI wd), .int (mI ((pcn 64 (un (mu_lg w (a + 7) wd)) : Nat) : Int)), .int (mI bt)] []) (fun bt (bf : Nat) => en_c P (64 * wd + bt) + bf = i) ?_
          intro bt bf hbt hbf ihb
          have hbit : bt < 64 → (lb (mu_lg w (a + 7) wd) bt = true ↔ P (64 * wd + bt)) := fun h9 => by
            have := hP.1 (64 * wd + bt) (by omega)
            rw [show (64 * wd + bt) / 64 = wd by omega, show (64 * wd + bt) % 64 = bt by omega] at this
            exact this
          refine mu_il_5 B dX7_hitAt_41 ?_
          refine mu_bipush (v := mI 64) B dX7_hitAt_43 (by decide) ?_
          refine mu_icmp_ge (tgt := 85) B dX7_hitAt_45 (by decide) (fun c45 => ?_) (fun c45 => ?_)
          · try rw [mI_le ⟨by omega, by omega⟩ ⟨by omega, by omega⟩] at c45
            try rw [mI_le ⟨by omega, by omega⟩ ⟨by omega, by omega⟩] at c45
            exfalso
            obtain rfl : 64 = bt := by omega
            have e9 := hword (by omega)
            omega
          · try rw [mI_le ⟨by omega, by omega⟩ ⟨by omega, by omega⟩] at c45
            refine mu_al_0 B dX7_hitAt_48 ?_
            refine mu_getR B dX7_hitAt_49 fX7_30 rfl (by assumption) (by assumption) ?_
            refine mu_il_3 B dX7_hitAt_52 ?_
            refine mu_lald B dX7_hitAt_53 k7 (mI_inN (by omega) (by decide)) ?_
            rw [mI_clampN (by omega)]
            refine mu_il_5 B dX7_hitAt_54 ?_
            refine mu_lushr B dX7_hitAt_56 rfl ?_
            refine mu_lconst (v := mL 1) B dX7_hitAt_57 rfl ?_
            refine mu_land B dX7_hitAt_58 ?_
            refine mu_lconst (v := mL 0) B dX7_hitAt_59 rfl ?_
            refine mu_lcmp B dX7_hitAt_60 ?_
            refine mu_if_eq (tgt := 79) B dX7_hitAt_61 (by decide) (fun c61 => ?_) (fun c61 => ?_)
            · rw [lg_cmp_eq, ush1_0 _ (by omega)] at c61
              refine mu_inc_5 (c := mI 1) B dX7_hitAt_79 rfl (by decide) rfl ?_
              try rw [mI_add]
              refine mu_goto (tgt := 41) B dX7_hitAt_82 (by decide) ?_
              first
                | (have e9 : ¬ P (64 * wd + bt) := fun q => by rw [(hbit (by omega)).mpr q] at c61; cases c61
                   refine mu_to (ihb bf (by omega) ?_) rfl (by rw [show ((bt + 1 : Nat) : Int) = (bt : Int) + 1 by omega])
                   rw [show 64 * wd + (bt + 1) = (64 * wd + bt) + 1 by omega, en_neg e9]; exact hbf)
                | (refine mu_to (ihb (bf - 1) (by omega) ?_) rfl (by rw [show ((bt + 1 : Nat) : Int) = (bt : Int) + 1 by omega])
                   rw [show 64 * wd + (bt + 1) = (64 * wd + bt) + 1 by omega, en_pos hPb]; omega)
            · rw [lg_cmp_eq, ush1_0 _ (by omega)] at c61
              have hPb : P (64 * wd + bt) := (hbit (by omega)).mp (by simpa using c61)
              refine mu_il_2 B dX7_hitAt_64 ?_
              refine mu_if_ne (tgt := 76) B dX7_hitAt_65 (by decide) (fun c65 => ?_) (fun c65 => ?_)
              · try rw [mI_eq0 ⟨by omega, by omega⟩] at c65
                refine mu_inc_2 (c := mI (-1)) B dX7_hitAt_76 rfl (by decide) rfl ?_
                try rw [mI_add]
                rw [show (bf : Int) + -1 = ((bf - 1 : Nat) : Int) by omega]
                refine mu_inc_5 (c := mI 1) B dX7_hitAt_79 rfl (by decide) rfl ?_
                try rw [mI_add]
                refine mu_goto (tgt := 41) B dX7_hitAt_82 (by decide) ?_
                first
                  | (have e9 : ¬ P (64 * wd + bt) := fun q => by rw [(hbit (by omega)).mpr q] at c61; cases c61
                     refine mu_to (ihb bf (by omega) ?_) rfl (by rw [show ((bt + 1 : Nat) : Int) = (bt : Int) + 1 by omega])
                     rw [show 64 * wd + (bt + 1) = (64 * wd + bt) + 1 by omega, en_neg e9]; exact hbf)
                  | (refine mu_to (ihb (bf - 1) (by omega) ?_) rfl (by rw [show ((bt + 1 : Nat) : Int) = (bt : Int) + 1 by omega])
                     rw [show 64 * wd + (bt + 1) = (64 * wd + bt) + 1 by omega, en_pos hPb]; omega)
              · try rw [mI_eq0 ⟨by omega, by omega⟩] at c65
                refine mu_il_3 B dX7_hitAt_68 ?_
                refine mu_bipush (v := mI 64) B dX7_hitAt_69 (by decide) ?_
                refine mu_imul B dX7_hitAt_71 ?_
                try rw [mI_mul]
                try rw [mI_mul]
                refine mu_il_5 B dX7_hitAt_72 ?_
                refine mu_iadd B dX7_hitAt_74 ?_
                try rw [mI_add]
                try rw [mI_add]
                rw [show (wd : Int) * 64 + (bt : Int) = ((64 * wd + bt : Nat) : Int) by omega]
                refine mu_iret E rfl (by decide) (by decide) dX7_hitAt_75 ?_
                exact ⟨⟨64 * wd + bt, by omega, hPb, by omega, rfl⟩, rfl⟩
        refine mu_iconst (v := mI 0) B dX7_hitAt_38 rfl ?_
        refine mu_is_5 B dX7_hitAt_39 (by decide) rfl ?_
        exact LB 0 bf (by decide) (by rw [Nat.add_zero]; exact hbf)
      · try rw [mI_lt ⟨by omega, by omega⟩ ⟨by omega, by omega⟩] at c27
        refine mu_il_2 B dX7_hitAt_30 ?_
        refine mu_il_4 B dX7_hitAt_31 ?_
        refine mu_isub B dX7_hitAt_33 ?_
        try rw [mI_sub]
        try rw [mI_sub]
        rw [show (bf : Int) - ((pcn 64 (un (mu_lg w (a + 7) wd)) : Nat) : Int) = ((bf - pcn 64 (un (mu_lg w (a + 7) wd)) : Nat) : Int) by omega]
        refine mu_is_2 B dX7_hitAt_34 (by decide) rfl ?_
        refine mu_goto (tgt := 85) B dX7_hitAt_35 (by decide) ?_
        refine mu_inc_3 (c := mI 1) B dX7_hitAt_85 rfl (by decide) rfl ?_
        try rw [mI_add]
        refine mu_goto (tgt := 4) B dX7_hitAt_88 (by decide) ?_
        refine mu_fg (ih (bf - pcn 64 (un (mu_lg w (a + 7) wd))) (by omega) ?_) rfl (by rw [show ((wd + 1 : Nat) : Int) = (wd : Int) + 1 by omega]; exact ⟨Or.inl rfl, Or.inl rfl, Or.inl rfl, Or.inl rfl, Or.inr rfl, Or.inr rfl, trivial⟩)
        have e9 := hword (by omega)
        rw [show 64 * (wd + 1) = 64 * wd + 64 by omega, e9]; omega
  show mu_WA X G 6 _ _ 0 0 0 _ []
  refine mu_il_1 B dX7_hitAt_0 ?_
  refine mu_is_2 B dX7_hitAt_1 (by decide) rfl ?_
  refine mu_iconst (v := mI 0) B dX7_hitAt_2 rfl ?_
  refine mu_is_3 B dX7_hitAt_3 (by decide) rfl ?_
  exact LW9 0 i (by decide) (by rw [show 64 * 0 = 0 from rfl]; exact Nat.zero_add i)
