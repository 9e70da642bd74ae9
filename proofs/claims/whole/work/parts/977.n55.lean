/-! ===== the class's balance: what a block changes ===== -/
def CBo (w : mu_W) (a : Nat) : Prop := mu_kd w a = some (0, 0) ∧ mu_rv w a 0 = some (a + 1) ∧ mu_kd w (a + 1) = some (107, 4) ∧ (∀ p, p < 4 → mu_rv w (a + 1) p = some (a + 2 + p) ∧ mu_kd w (a + 2 + p) = some (101, 4)) ∧ mu_rv w a 1 = some (a + 6) ∧ mu_kd w (a + 6) = some (101, 4)
theorem CBo.fi {S : Nat → Nat → Prop} {w w' : mu_W} {a : Nat} (h : CBo w a) (hF : mu_Fi S w w') : CBo w' a := ⟨hF.kd h.1, hF.rv h.2.1, hF.kd h.2.2.1, fun p hp => ⟨hF.rv (h.2.2.2.1 p hp).1, hF.kd (h.2.2.2.1 p hp).2⟩, hF.rv h.2.2.2.2.1, hF.kd h.2.2.2.2.2⟩
def EQw (w : mu_W) (a : Nat) (row : Nat → Nat → Int) : Prop := ∀ p, p < 4 → LR w (a + 2 + p) 0 4 (row p)
theorem EQw.fi {T : Nat → Nat → Prop} {w w' : mu_W} {a : Nat} {row : Nat → Nat → Int} (h : EQw w a row) (hF : mu_Fi T w w') (hn : ∀ p j, p < 4 → ¬ T (a + 2 + p) j) : EQw w' a row := fun p hp => (h p hp).fi hF (fun j _ _ => hn p j hp)
def tlc (S n v : Nat) : Nat → Nat
  | 0 => 0
  | i + 1 => tlc S n v i + (if bd S n i = v then 1 else 0)
theorem tlc_4 (S n v : Nat) : tlc S n v 4 = bn S n v := by
  rw [tlc, tlc, tlc, tlc, tlc, Nat.zero_add]
  rfl

set_option maxHeartbeats 4000000 in
set_option maxRecDepth 100000 in
theorem c_X0_isHeld (G : mu_G) {w : mu_W} {a : Nat} (ho : CBo w a) {row : Nat → Nat → Int} (hq : EQw w a row) {p : Nat} (hp : p < 4) (hb : (row p p).natAbs ≤ 4611686018427387904) : mu_Ct G M_X0_isHeld [.ref a, .int (mI p)] w (fun r w' => r = some (.int (if row p p = 0 then mI 0 else mI 1)) ∧ w' = w) := by
  obtain ⟨ka, r0, k1, hrw, r1, k6⟩ := id ho
  refine mu_ofWA G M_X0_isHeld [.ref a, .int (mI p)] (by decide) rfl (Nat.le_of_ble_eq_true rfl) ?_
  intro X E
  have B : mu_B X G cX0_isHeld RX0 2 (mu_rm M_X0_isHeld) := E.1
  show mu_WA X G 2 _ _ 0 0 0 _ []
  refine mu_al_0 B dX0_isHeld_0 ?_
  refine mu_getR B dX0_isHeld_1 fX0_11 rfl (by assumption) (by assumption) ?_
  refine mu_il_1 B dX0_isHeld_4 ?_
  refine mu_aald B dX0_isHeld_5 (by exact k1) (by simp) (mI_inN (by omega) (by decide)) (by rw [mI_clampN (by omega)]; exact (hrw p hp).1) ?_
  refine mu_il_1 B dX0_isHeld_6 ?_
  refine mu_lald B dX0_isHeld_7 (hrw p hp).2 (mI_inN (by omega) (by decide)) ?_
  rw [mI_clampN (by omega), (hq p hp).at hp]
  refine mu_lconst (v := mL 0) B dX0_isHeld_8 rfl ?_
  refine mu_lcmp B dX0_isHeld_9 ?_
  refine mu_if_eq (tgt := 17) B dX0_isHeld_10 (by decide) (fun c10 => ?_) (fun c10 => ?_)
  · rw [lg_cmp_eq, mL_eq ⟨by omega, by omega⟩ ⟨by omega, by omega⟩] at c10
    refine mu_iconst (v := mI 0) B dX0_isHeld_17 rfl ?_
    refine mu_zret E rfl (by decide) (by decide) dX0_isHeld_18 (by decide) ?_
    first
      | exact ⟨by rw [if_pos c10], rfl⟩
      | exact ⟨by rw [if_neg c10], rfl⟩
  · rw [lg_cmp_eq, mL_eq ⟨by omega, by omega⟩ ⟨by omega, by omega⟩] at c10
    refine mu_iconst (v := mI 1) B dX0_isHeld_13 rfl ?_
    refine mu_goto (tgt := 18) B dX0_isHeld_14 (by decide) ?_
    refine mu_zret E rfl (by decide) (by decide) dX0_isHeld_18 (by decide) ?_
    first
      | exact ⟨by rw [if_pos c10], rfl⟩
      | exact ⟨by rw [if_neg c10], rfl⟩

set_option maxHeartbeats 4000000 in
set_option maxRecDepth 100000 in
theorem c_X0_tallyStates (G : mu_G) {w : mu_W} {a : Nat} (ho : CBo w a) {S n : Nat} (hS : 2 ≤ S ∧ S ≤ 4) (hn : n ≤ 1000) {by_ : Int} (hby : by_ = 1 ∨ by_ = -1) {e : Nat → Int} (hr : LR w (a + 6) 0 4 e) : mu_Ct G M_X0_tallyStates [.ref a, .int (mI n), .int (mI S), .int (mI by_)] w (fun r w' => r = none ∧ mu_Fi (lr_S (a + 6) 0 4) w w' ∧ LR w' (a + 6) 0 4 (fun v => e v + by_ * (bn S n v : Int))) := by
  obtain ⟨ka, r0, k1, hrw, r1, k6⟩ := id ho
  refine mu_ofWA G M_X0_tallyStates [.ref a, .int (mI n), .int (mI S), .int (mI by_), mu_no, mu_no] (by decide) rfl (Nat.le_of_ble_eq_true rfl) ?_
  intro X E
  have B : mu_B X G cX0_tallyStates RX0 6 (mu_rm M_X0_tallyStates) := E.1
  have LT : ∀ i (s : mu_W), i ≤ (4 : Nat) → (mu_Fi (lr_S (a + 6) 0 4) w s ∧ LR s (a + 6) 0 4 (fun v => e v + by_ * (tlc S n v i : Int))) → mu_WA X G 6 (mu_Q X G M_X0_tallyStates (fun r w' => r = none ∧ mu_Fi (lr_S (a + 6) 0 4) w w' ∧ LR w' (a + 6) 0 4 (fun v => e v + by_ * (bn S n v : Int)))) s 0 0 21 [.ref a, .int (mI n), .int (mI S), .int (mI by_), .int (mI ((n / S ^ i : Nat) : Int)), .int (mI i)] [] := by
    refine mu_ind ((4 : Nat)) (fun i (s : mu_W) => mu_WA X G 6 (mu_Q X G M_X0_tallyStates (fun r w' => r = none ∧ mu_Fi (lr_S (a + 6) 0 4) w w' ∧ LR w' (a + 6) 0 4 (fun v => e v + by_ * (bn S n v : Int)))) s 0 0 21 [.ref a, .int (mI n), .int (mI S), .int (mI by_), .int (mI ((n / S ^ i : Nat) : Int)), .int (mI i)] []) (fun i (s : mu_W) => mu_Fi (lr_S (a + 6) 0 4) w s ∧ LR s (a + 6) 0 4 (fun v => e v + by_ * (tlc S n v i : Int))) ?_
    intro i s hi ⟨hFs, hR⟩ ih
    have hdl := Nat.div_le_self n (S ^ i)
    have hdp : (0 : Int) ≤ ((n / S ^ i : Nat) : Int) := Int.natCast_nonneg _
    refine mu_il_5 B dX0_tallyStates_21 ?_
    refine mu_iconst (v := mI 4) B dX0_tallyStates_23 rfl ?_
    refine mu_icmp_ge (tgt := 53) B dX0_tallyStates_24 (by decide) (fun c24 => ?_) (fun c24 => ?_)
    · try rw [mI_le ⟨by omega, by omega⟩ ⟨by omega, by omega⟩] at c24
      try rw [mI_le ⟨by omega, by omega⟩ ⟨by omega, by omega⟩] at c24
      obtain rfl : 4 = i := by omega
      refine mu_vret E rfl (by decide) (by decide) dX0_tallyStates_53 ?_
      refine ⟨rfl, hFs, fun v hv => ?_⟩
      rw [hR v hv]
      show mL (e v + by_ * (tlc S n v 4 : Int)) = mL (e v + by_ * (bn S n v : Int))
      rw [tlc_4]
    · try rw [mI_le ⟨by omega, by omega⟩ ⟨by omega, by omega⟩] at c24
      have hbl : bd S n i < S := Nat.mod_lt _ (by omega)
      refine mu_al_0 B dX0_tallyStates_27 ?_
      refine mu_getR B dX0_tallyStates_28 fX0_14 rfl (hFs.kd ka) (hFs.rv r1) ?_
      refine mu_il_4 B dX0_tallyStates_31 ?_
      refine mu_il_2 B dX0_tallyStates_33 ?_
      refine mu_irem B dX0_tallyStates_34 ?_ ?_
      · exact mu_ne (by omega) (by omega)
      rw [mI_rem (by omega) (by omega) (by omega) (by omega), ← Int.natCast_emod, show n / S ^ i % S = bd S n i from rfl]
      refine mu_dup2_11 B dX0_tallyStates_35 rfl rfl ?_
      refine mu_lald B dX0_tallyStates_36 (hFs.kd k6) (mI_inN (by omega) (by decide)) ?_
      rw [mI_clampN (by omega), hR.at (by omega)]
      refine mu_il_3 B dX0_tallyStates_37 ?_
      refine mu_i2l B dX0_tallyStates_38 rfl ?_
      rw [mI_i2l ⟨by omega, by omega⟩]
      refine mu_ladd B dX0_tallyStates_39 ?_
      try rw [mL_add]
      refine mu_last B dX0_tallyStates_40 (hFs.kd k6) (mI_inN (by omega) (by decide)) ?_
      rw [mI_clampN (by omega)]
      refine mu_il_4 B dX0_tallyStates_41 ?_
      refine mu_il_2 B dX0_tallyStates_43 ?_
      refine mu_idiv B dX0_tallyStates_44 ?_ ?_
      · exact mu_ne (by omega) (by omega)
      rw [mI_div (by omega) (by omega) (by omega) (by omega), ← Int.natCast_ediv, Nat.div_div_eq_div_mul, ← Nat.pow_succ]
      refine mu_is_4 B dX0_tallyStates_45 (by decide) rfl ?_
      refine mu_inc_5 (c := mI 1) B dX0_tallyStates_47 rfl (by decide) rfl ?_
      try rw [mI_add]
      refine mu_goto (tgt := 21) B dX0_tallyStates_50 (by decide) ?_
      refine mu_to (ih _ (by omega) ⟨hFs.sl ⟨rfl, Nat.zero_le _, by omega⟩, hR.set (fun q hq => ?_)⟩) rfl (by rw [show ((i + 1 : Nat) : Int) = (i : Int) + 1 by omega])
      rw [tlc]
      by_cases e9 : q = bd S n i
      · rw [if_pos e9, if_pos e9.symm, e9, Int.natCast_add, Int.mul_add]; simp only [Int.add_assoc]; congr 1; congr 1; exact (Int.mul_one by_)
      · rw [if_neg e9, if_neg (fun h => e9 h.symm), Nat.add_zero]
  show mu_WA X G 6 _ _ 0 0 0 _ []
  refine mu_il_2 B dX0_tallyStates_0 ?_
  refine mu_iconst (v := mI 2) B dX0_tallyStates_1 rfl ?_
  refine mu_icmp_lt (tgt := 14) B dX0_tallyStates_2 (by decide) (fun c2 => ?_) (fun c2 => ?_)
  · try rw [mI_lt ⟨by omega, by omega⟩ ⟨by omega, by omega⟩] at c2
    exfalso
    omega
  · try rw [mI_lt ⟨by omega, by omega⟩ ⟨by omega, by omega⟩] at c2
    refine mu_il_2 B dX0_tallyStates_5 ?_
    refine mu_iconst (v := mI 4) B dX0_tallyStates_6 rfl ?_
    refine mu_icmp_gt (tgt := 14) B dX0_tallyStates_7 (by decide) (fun c7 => ?_) (fun c7 => ?_)
    · try rw [mI_lt ⟨by omega, by omega⟩ ⟨by omega, by omega⟩] at c7
      exfalso
      omega
    · try rw [mI_lt ⟨by omega, by omega⟩ ⟨by omega, by omega⟩] at c7
      refine mu_il_1 B dX0_tallyStates_10 ?_
      refine mu_if_ge (tgt := 15) B dX0_tallyStates_11 (by decide) (fun c11 => ?_) (fun c11 => ?_)
      · try rw [mI_ge0 ⟨by omega, by omega⟩] at c11
        refine mu_il_1 B dX0_tallyStates_15 ?_
        refine mu_is_4 B dX0_tallyStates_16 (by decide) rfl ?_
        refine mu_iconst (v := mI 0) B dX0_tallyStates_18 rfl ?_
        refine mu_is_5 B dX0_tallyStates_19 (by decide) rfl ?_
        exact mu_to (LT 0 w (by decide) ⟨mu_Fi.refl _, fun v hv => by rw [hr v hv]; show mL (e v) = mL (e v + by_ * ((0 : Nat) : Int)); rw [show by_ * ((0 : Nat) : Int) = 0 from Int.mul_zero by_, Int.add_zero]⟩) rfl (by rw [Nat.pow_zero, Nat.div_one]; rfl)
      · try rw [mI_ge0 ⟨by omega, by omega⟩] at c11
        exfalso
        omega

theorem bn_out {S n v : Nat} (hS : 0 < S) (hv : S ≤ v) : bn S n v = 0 := by
  have h : ∀ i, ¬ bd S n i = v := fun i e => by have := Nat.mod_lt (n / S ^ i) hS; unfold bd at e; omega
  unfold bn
  rw [if_neg (h 0), if_neg (h 1), if_neg (h 2), if_neg (h 3)]
theorem bn_le (S n v : Nat) : bn S n v ≤ 4 := by
  unfold bn
  (repeat' split) <;> omega
theorem be_out {r : mu_RS} (hS : 0 < rs_S r) {k v : Nat} (hv : rs_S r ≤ v) : be_e r k v = 0 := by
  unfold be_e
  rw [bn_out hS hv, bn_out hS hv]; rfl
theorem be_bd (r : mu_RS) (k v : Nat) : (be_e r k v).natAbs ≤ 4 := by
  unfold be_e
  have := bn_le (rs_S r) k v
  have := bn_le (rs_S r) (rs_be r k) v
  omega
theorem sm_more {f : Nat → Int} {n : Nat} : ∀ d, (∀ v, n ≤ v → f v = 0) → sm f (n + d) = sm f n
  | 0, _ => rfl
  | d + 1, h => by
    rw [← Nat.add_assoc, sm, sm_more d h, h (n + d) (by omega), Int.add_zero]
theorem sm_4 {f : Nat → Int} {S : Nat} (hS : S ≤ 4) (h : ∀ v, S ≤ v → f v = 0) : sm f 4 = sm f S := by
  have := sm_more (f := f) (n := S) (4 - S) h
  rw [show S + (4 - S) = 4 by omega] at this
  exact this
theorem be_sum {r : mu_RS} (hS : 2 ≤ rs_S r ∧ rs_S r ≤ 4) (k : Nat) : sm (be_e r k) 4 = 0 := by
  rw [sm_4 hS.2 (fun v hv => be_out (by omega) hv), sm_ext (fun v _ => (pe_4 r k v).symm)]
  exact pe_sum (by omega) 4
theorem dt_4 {S : Nat} (hS : S ≤ 4) {e x : Nat → Int} (h : ∀ v, S ≤ v → e v = 0) : dt 4 e x = dt S e x := sm_4 hS (fun v hv => by rw [h v hv, Int.zero_mul])
/-- the bounds of the equations -/
def bB (p : Nat) : Nat := if p = 3 then 4 else if p = 2 then 32 else if p = 1 then 2048 else 8388608
theorem bB_st : ∀ p, p < 4 → 1 ≤ p → 2 * (bB p * bB p) ≤ bB (p - 1) ∧ bB p ≤ bB (p - 1) ∧ 4 ≤ bB p := by decide
theorem bB_all : ∀ p, p < 4 → 4 ≤ bB p ∧ bB p ≤ 8388608 := by decide
/-- the equations, one for each last state that counts -/
def EQI (r : mu_RS) (K : Nat) (row : Nat → Nat → Int) : Prop := (∀ p, p < 4 → row p p = 0 → ∀ c, c < 4 → row p c = 0) ∧ (∀ p c, p < 4 → c < 4 → (p < c ∨ rs_S r ≤ c) → row p c = 0) ∧ (∀ p, p < 4 → sm (row p) 4 = 0) ∧ (∀ p c, p < 4 → c < 4 → (row p c).natAbs ≤ bB p) ∧ ∀ x, WS r K x ↔ ∀ p, p < 4 → dt 4 (row p) x = 0
/-- the change, after the equations above p -/
def EI (row : Nat → Nat → Int) (e0 : Nat → Int) (p : Nat) (e : Nat → Int) : Prop := (∀ c, c < 4 → p ≤ c → e c = 0) ∧ sm e 4 = 0 ∧ (∀ c, c < 4 → (e c).natAbs ≤ bB (p - 1)) ∧ ∀ x, (∀ q, q < 4 → dt 4 (row q) x = 0) → (dt 4 e x = 0 ↔ dt 4 e0 x = 0)
theorem EI.skip {row : Nat → Nat → Int} {e0 e : Nat → Int} {p : Nat} (h : EI row e0 (p + 1) e) (hp : p < 4) (h0 : e p = 0) : EI row e0 p e := by
  obtain ⟨h1, h2, h3, h4⟩ := h
  refine ⟨fun c hc hpc => ?_, h2, fun c hc => ?_, h4⟩
  · by_cases q : c = p
    · rw [q]; exact h0
    · exact h1 c hc (by omega)
  · have := h3 c hc
    rw [Nat.add_sub_cancel] at this
    by_cases q : p = 0
    · rw [q] at this ⊢; exact this
    · have := (bB_st p hp (by omega)).2.1; omega
theorem EI.cancel {r : mu_RS} {K : Nat} {row : Nat → Nat → Int} (hQ : EQI r K row) {e0 e : Nat → Int} {p : Nat} (h : EI row e0 (p + 1) e) (hp : p < 4) (hp1 : 1 ≤ p) (hd : row p p ≠ 0) : EI row e0 p (wo 4 e (row p) p) := by
  obtain ⟨h1, h2, h3, h4⟩ := h
  have hb := bB_st p hp hp1
  rw [Nat.add_sub_cancel] at h3
  refine ⟨fun c hc hpc => ?_, wo_sum h2 (hQ.2.2.1 p hp), fun c hc => ?_, fun x hx => ?_⟩
  · by_cases q : c = p
    · rw [q]; exact wo_c hp
    · exact wo_0 hc (h1 c hc (by omega)) (fun _ => hQ.2.1 p c hp hc (Or.inl (by omega)))
  · have := wo_bd (s := 4) (e := e) (d := row p) (c := p) (A := bB p) (B := bB p) hp (by omega) h3 (fun q hq => hQ.2.2.2.1 p q hp hq) c hc
    omega
  · rw [wo_dt hd (hx p hp)]; exact h4 x hx
theorem EI.zero {row : Nat → Nat → Int} {e0 e : Nat → Int} (h : EI row e0 1 e) : e 0 = 0 := by
  obtain ⟨h1, h2, h3, h4⟩ := h
  have : sm e 4 = e 0 + e 1 + e 2 + e 3 := by
    show 0 + e 0 + e 1 + e 2 + e 3 = _
    omega
  have a1 := h1 1 (by decide) (by decide)
  have a2 := h1 2 (by decide) (by decide)
  have a3 := h1 3 (by decide) (by decide)
  omega
theorem EQI.skip {r : mu_RS} (hS : 2 ≤ rs_S r ∧ rs_S r ≤ 4) {K : Nat} {row : Nat → Nat → Int} (hQ : EQI r K row) {e : Nat → Int} (h : EI row (be_e r K) 0 e) : EQI r (K + 1) row := by
  refine ⟨hQ.1, hQ.2.1, hQ.2.2.1, hQ.2.2.2.1, fun x => ?_⟩
  rw [WS_succ, hQ.2.2.2.2 x]
  constructor
  · exact fun q => q.1
  · intro q
    refine ⟨q, ?_⟩
    rw [← dt_4 hS.2 (fun v hv => be_out (by omega) hv), ← (h.2.2.2 x q)]
    exact sm_zero (fun v hv => by rw [h.1 v hv (Nat.zero_le _), Int.zero_mul])
theorem EQI.add {r : mu_RS} (hS : 2 ≤ rs_S r ∧ rs_S r ≤ 4) {K : Nat} {row : Nat → Nat → Int} (hQ : EQI r K row) {e : Nat → Int} {p : Nat} (h : EI row (be_e r K) (p + 1) e) (hp : p < rs_S r) (hz : row p p = 0) (hne : e p ≠ 0) {row' : Nat → Nat → Int} (h1 : ∀ q, q ≠ p → row' q = row q) (h2 : row' p = e) : EQI r (K + 1) row' := by
  have hp4 : p < 4 := by omega
  obtain ⟨g1, g2, g3, g4⟩ := h
  rw [Nat.add_sub_cancel] at g3
  refine ⟨fun q hq h0 => ?_, fun q c hq hc hh => ?_, fun q hq => ?_, fun q c hq hc => ?_, fun x => ?_⟩
  · by_cases e9 : q = p
    · rw [e9, h2] at h0; exact absurd h0 hne
    · rw [h1 q e9] at h0 ⊢; exact hQ.1 q hq h0
  · by_cases e9 : q = p
    · rw [e9, h2]; exact g1 c hc (by omega)
    · rw [h1 q e9]; exact hQ.2.1 q c hq hc hh
  · by_cases e9 : q = p
    · rw [e9, h2]; exact g2
    · rw [h1 q e9]; exact hQ.2.2.1 q hq
  · by_cases e9 : q = p
    · rw [e9, h2]; exact g3 c hc
    · rw [h1 q e9]; exact hQ.2.2.2.1 q c hq hc
  · rw [WS_succ, hQ.2.2.2.2 x, ← dt_4 hS.2 (fun v hv => be_out (by omega) hv)]
    have hr0 : ∀ x, dt 4 (row p) x = 0 := fun x => sm_zero (fun v hv => by rw [hQ.1 p hp4 hz v hv, Int.zero_mul])
    constructor
    · rintro ⟨q1, q2⟩ q hq
      by_cases e9 : q = p
      · rw [e9, h2]; exact (g4 x q1).mpr q2
      · rw [h1 q e9]; exact q1 q hq
    · intro q
      have q1 : ∀ p', p' < 4 → dt 4 (row p') x = 0 := fun p' hp' => by
        by_cases e9 : p' = p
        · rw [e9]; exact hr0 x
        · have := q p' hp'; rw [h1 p' e9] at this; exact this
      refine ⟨q1, (g4 x q1).mp ?_⟩
      have := q p hp4
      rw [h2] at this
      exact this
theorem EI.start {r : mu_RS} (hS : 2 ≤ rs_S r ∧ rs_S r ≤ 4) (row : Nat → Nat → Int) (K : Nat) : EI row (be_e r K) (rs_S r) (be_e r K) := ⟨fun c _ hc => be_out (by omega) hc, be_sum hS K, fun c _ => by have := be_bd r K c; have := (bB_all (rs_S r - 1) (by omega)).1; omega, fun x _ => Iff.rfl⟩
