theorem en_ext {P Q : Nat → Prop} : ∀ {n : Nat}, (∀ v, v < n → (P v ↔ Q v)) → en_c P n = en_c Q n
  | 0, _ => rfl
  | n + 1, h => by
    have ih := en_ext (n := n) (fun v hv => h v (by omega))
    by_cases q : P n
    · rw [en_pos q, en_pos ((h n (by omega)).mp q), ih]
    · rw [en_neg q, en_neg (fun q2 => q ((h n (by omega)).mpr q2)), ih]
theorem en_not (P : Nat → Prop) : ∀ n, en_c P n + en_c (fun v => ¬ P v) n = n
  | 0 => rfl
  | n + 1 => by
    have ih := en_not P n
    by_cases q : P n
    · rw [en_pos q, en_neg (P := fun v => ¬ P v) (fun q2 => q2 q)]; omega
    · rw [en_neg q, en_pos (P := fun v => ¬ P v) q]; omega
theorem en_add {P : Nat → Prop} {a : Nat} (ha : ¬ P a) : ∀ n, en_c (fun v => P v ∨ v = a) n = en_c P n + (if a < n then 1 else 0)
  | 0 => by rw [if_neg (by omega)]; rfl
  | n + 1 => by
    have ih := en_add ha n
    by_cases q : n = a
    · subst q
      rw [en_pos (P := fun v => P v ∨ v = n) (Or.inr rfl), en_neg ha, ih, if_neg (by omega), if_pos (by omega)]
    · by_cases q2 : P n
      · rw [en_pos (P := fun v => P v ∨ v = a) (Or.inl q2), en_pos q2, ih]
        by_cases q3 : a < n
        · rw [if_pos q3, if_pos (by omega)]
        · rw [if_neg q3, if_neg (by omega)]
      · rw [en_neg (P := fun v => P v ∨ v = a) (fun h => h.elim q2 q), en_neg q2, ih]
        by_cases q3 : a < n
        · rw [if_pos q3, if_pos (by omega)]
        · rw [if_neg q3, if_neg (by omega)]
theorem en_img {pv : Nat → Nat} {S : Nat} : ∀ rr, (∀ i, i < rr → pv i < S) → (∀ i j, i < rr → j < rr → pv i = pv j → i = j) → en_c (fun c => ∃ i, i < rr ∧ pv i = c) S = rr
  | 0, _, _ => en_z (fun v _ ⟨i, hi, _⟩ => absurd hi (Nat.not_lt_zero i))
  | rr + 1, h1, h2 => by
    have ih := en_img (pv := pv) (S := S) rr (fun i hi => h1 i (by omega)) (fun i j hi hj => h2 i j (by omega) (by omega))
    have hn : ¬ ∃ i, i < rr ∧ pv i = pv rr := fun ⟨i, hi, e⟩ => by have := h2 i rr (by omega) (by omega) e; omega
    have e : en_c (fun c => ∃ i, i < rr + 1 ∧ pv i = c) S = en_c (fun c => (fun c => ∃ i, i < rr ∧ pv i = c) c ∨ c = pv rr) S := en_ext (fun v _ => ⟨fun ⟨i, hi, e⟩ => by by_cases q : i = rr; (rw [q] at e; exact Or.inr e.symm); exact Or.inl ⟨i, by omega, e⟩, fun q => q.elim (fun ⟨i, hi, e⟩ => ⟨i, by omega, e⟩) (fun e => ⟨rr, by omega, e.symm⟩)⟩)
    rw [e, en_add (P := fun c => ∃ i, i < rr ∧ pv i = c) hn S, ih, if_pos (h1 rr (by omega))]
def PVr (rr : Nat) (pv : Nat → Nat) : Nat → Prop := fun c => ∃ i, i < rr ∧ pv i = c
theorem RSY.red {r : mu_RS} {rr : Nat} {pv : Nat → Nat} {Rw : Nat → Nat → Int} (h : RSY r (rs_N r) rr pv Rw) : ∃ row : Nat → Nat → Int, RED (rs_S r) (PVr rr pv) row ∧ (∀ i, i < rr → row (pv i) = Rw i) ∧ ∀ x, CW r x ↔ SOL (rs_S r) (PVr rr pv) row x := by
  have hex : ∀ c, ∃ f : Nat → Int, ∀ i, i < rr → pv i = c → f = Rw i := fun c => by
    by_cases q : ∃ i, i < rr ∧ pv i = c
    · obtain ⟨i, hi, e⟩ := q
      exact ⟨Rw i, fun j hj e2 => by rw [h.inj hi hj (e.trans e2.symm)]⟩
    · exact ⟨fun _ => 0, fun i hi e => absurd ⟨i, hi, e⟩ q⟩
  obtain ⟨row, hrow⟩ : ∃ row : Nat → Nat → Int, ∀ i, i < rr → row (pv i) = Rw i := ⟨fun c => Classical.choose (hex c), fun i hi => Classical.choose_spec (hex (pv i)) i hi rfl⟩
  refine ⟨row, fun p ⟨i, hi, e⟩ => ?_, hrow, fun x => ?_⟩
  · subst e
    obtain ⟨⟨g0, g1⟩, g2, g3, g4, -⟩ := h.2.1 i hi
    rw [hrow i hi]
    refine ⟨g1, g2, g3, fun q hq ⟨j, hj, e⟩ hne => ?_⟩
    subst e
    exact g4 j hj (fun w => hne (by rw [w]))
  · unfold CW
    rw [h.2.2 x]
    constructor
    · rintro q p ⟨i, hi, e⟩
      subst e
      rw [hrow i hi]
      exact q i hi
    · intro q i hi
      have := q (pv i) ⟨i, hi, rfl⟩
      rw [hrow i hi] at this
      exact this
theorem RSY.free {r : mu_RS} {rr : Nat} {pv : Nat → Nat} {Rw : Nat → Nat → Int} (h : RSY r (rs_N r) rr pv Rw) {l : Nat} (hl : l < rs_S r) : FREE (CW r) l ↔ ¬ PVr rr pv l := by
  obtain ⟨row, h1, h2, h3⟩ := h.red
  exact h1.free h3 hl
theorem RSY.count {r : mu_RS} {rr : Nat} {pv : Nat → Nat} {Rw : Nat → Nat → Int} (h : RSY r (rs_N r) rr pv Rw) : en_c (FREE (CW r)) (rs_S r) + rr = rs_S r := by
  have e1 : en_c (FREE (CW r)) (rs_S r) = en_c (fun v => ¬ PVr rr pv v) (rs_S r) := en_ext (fun v hv => h.free hv)
  have e2 := en_not (PVr rr pv) (rs_S r)
  have e3 := en_img (pv := pv) (S := rs_S r) rr (fun i hi => (h.2.1 i hi).1.2) (fun i j hi hj e => h.inj hi hj e)
  have e4 : en_c (PVr rr pv) (rs_S r) = rr := e3
  omega
/-- the common multiple of the first i pivots -/
def wl (pv : Nat → Nat) (Rw : Nat → Nat → Int) : Nat → Nat
  | 0 => 1
  | i + 1 => wl pv Rw i / Nat.gcd (wl pv Rw i) (Rw i (pv i)).natAbs * (Rw i (pv i)).natAbs
theorem wl_ok {pv : Nat → Nat} {Rw : Nat → Nat → Int} {B : Nat} : ∀ i, (∀ j, j < i → Rw j (pv j) ≠ 0 ∧ (Rw j (pv j)).natAbs ≤ B) → 1 ≤ wl pv Rw i ∧ wl pv Rw i ≤ B ^ i ∧ ∀ j, j < i → (Rw j (pv j)).natAbs ∣ wl pv Rw i
  | 0, _ => ⟨Nat.le_refl _, Nat.le_refl _, fun j hj => absurd hj (Nat.not_lt_zero j)⟩
  | i + 1, h => by
    obtain ⟨h1, h2, h3⟩ := wl_ok i (fun j hj => h j (by omega))
    obtain ⟨g1, g2⟩ := h i (by omega)
    rw [wl]
    have g3 : 1 ≤ (Rw i (pv i)).natAbs := by omega
    generalize wl pv Rw i = W at *
    generalize hg : (Rw i (pv i)).natAbs = g at *
    have hd1 := Nat.gcd_dvd_left W g
    have hd2 := Nat.gcd_dvd_right W g
    have hdp : 0 < Nat.gcd W g := Nat.gcd_pos_of_pos_left g (by omega)
    have hq : 1 ≤ W / Nat.gcd W g := Nat.div_pos (Nat.le_of_dvd (by omega) hd1) hdp
    have hWd : W ∣ W / Nat.gcd W g * g := by
      obtain ⟨t, ht⟩ := hd2
      refine ⟨t, ?_⟩
      have e1 : W / Nat.gcd W g * (Nat.gcd W g * t) = W * t := by rw [← Nat.mul_assoc, Nat.div_mul_cancel hd1]
      rw [← ht] at e1
      exact e1
    refine ⟨?_, ?_, fun j hj => ?_⟩
    · have := Nat.mul_le_mul hq g3; omega
    · rw [Nat.pow_succ]; exact Nat.mul_le_mul (Nat.le_trans (Nat.div_le_self _ _) h2) g2
    · by_cases e : j = i
      · rw [e, hg]; exact Nat.dvd_mul_left _ _
      · exact Nat.dvd_trans (h3 j (by omega)) hWd

def wt_S (m : Nat) : Nat → Nat → Prop := wk_S m
def wts_post (w : mu_W) (m nr : Nat) (rs : Nat → mu_RS) (z : Int) (r : Option Value) (w' : mu_W) : Prop := mu_Fi (wk_S m) w w' ∧ (¬ (0 ≤ z ∧ z < nr) → r = some (.int (mI (-1)))) ∧ (0 ≤ z ∧ z < nr → (¬ rs_nb (rs z.toNat) = 0 → r = some (.int (mI (-2)))) ∧ (rs_nb (rs z.toNat) = 0 → ∃ D, WTn (rs z.toNat) D ∧ r = some (.int (mI (D : Nat)))))

set_option maxHeartbeats 4000000 in
set_option maxRecDepth 100000 in
theorem c_X12_weights (G : mu_G) {w : mu_W} {m : Nat} (hm : mo_ok w m) {nr : Nat} {rs : Nat → mu_RS} (hru : MRu w m nr rs) {z : Int} (hz : mi_ok z) : mu_Ct G M_X12_weights [.ref m, .int (mI z)] w (fun r w' => wts_post w m nr rs z r w') := by
  have hk0 := hm.1
  have hnr := hru.1
  obtain ⟨hz1, hz2⟩ := id hz
  refine mu_ofWA G M_X12_weights [.ref m, .int (mI z)] (by decide) rfl (Nat.le_of_ble_eq_true rfl) ?_
  intro X E
  have B : mu_B X G cX12_weights RX12 2 (mu_rm M_X12_weights) := E.1
  show mu_WA X G 2 _ _ 0 0 0 _ []
  refine mu_al_0 B dX12_weights_0 ?_
  refine mu_il_1 B dX12_weights_1 ?_
  refine mu_eV1 B dX12_weights_2 mX12_161 ⟨⟨by decide, by decide⟩, by decide, by decide⟩ (Nat.le_of_ble_eq_true rfl) (by assumption) (c_X12_isRule G hm (n := nr) hru.2.1 hru.1 hz) ?_
  refine mu_if_ne (tgt := 10) B dX12_weights_5 (by decide) (fun c5 => ?_) (fun c5 => ?_)
  · have z5 := mu_bt c5
    obtain ⟨k, hk⟩ : ∃ k : Nat, z = k := ⟨z.toNat, by omega⟩
    subst hk
    obtain ⟨u1, u2, u3, u4, u5, u6⟩ := hru.2.2 k (by omega)
    have hnb := (rs_nb_bd u1).1
    refine mu_al_0 B dX12_weights_10 ?_
    refine mu_il_1 B dX12_weights_11 ?_
    refine mu_eV1 B dX12_weights_12 mX12_158 ⟨⟨by decide, by decide⟩, by decide, by decide⟩ (Nat.le_of_ble_eq_true rfl) (by assumption) (c_X12_isBlocks G hm (k := k) (a := (rs_nb (rs k) : Int)) u4 (by omega) ⟨by omega, by omega⟩) ?_
    refine mu_if_ne (tgt := 21) B dX12_weights_15 (by decide) (fun c15 => ?_) (fun c15 => ?_)
    · have z15 := mu_bt c15
      refine mu_al_0 B dX12_weights_21 ?_
      refine mu_il_1 B dX12_weights_22 ?_
      refine mu_cV1 B dX12_weights_23 mX12_359 ⟨⟨by decide, by decide⟩, by decide, by decide⟩ (Nat.le_of_ble_eq_true rfl) (by assumption) (c_X12_work G hm hru (k0 := k) (by omega) (by omega)) (fun r23 w23 q23 => ?_)
      obtain ⟨rfl, hF, rr, pv, Rw, hsy, hwk⟩ := q23
      have hm1 := hm.fi hF
      have hk9 := hm1.1
      obtain ⟨r6, k6⟩ := mo_6 hm1
      have hru1 := wk_ru hru hF
      have u6a := (hru1.2.2 k (by omega)).2.2.2.2.2 (by omega)
      have hcnt := hsy.count
      show mu_WA X G 2 _ w23 0 0 26 _ []
      refine mu_al_0 B dX12_weights_26 ?_
      refine mu_getR B dX12_weights_27 fX12_20 rfl (by assumption) (by assumption) ?_
      refine mu_il_1 B dX12_weights_30 ?_
      refine mu_iald B dX12_weights_31 (by assumption) (mI_inN (by omega) (by decide)) ?_
      rw [mI_clampN (by omega), u6a.1]
      refine mu_al_0 B dX12_weights_32 ?_
      refine mu_getI B dX12_weights_33 fX12_348 rfl (by assumption) ?_
      rw [hwk.1]
      refine mu_isub B dX12_weights_36 ?_
      try rw [mI_sub]
      refine mu_iret E rfl (by decide) (by decide) dX12_weights_37 ?_
      refine ⟨hF, fun hh => absurd z5 hh, fun _ => ⟨fun hh => by rw [Int.toNat_natCast] at hh; exact absurd (by omega) hh, fun _ => ⟨en_c (FREE (CW (rs k))) (rs_S (rs k)), by rw [Int.toNat_natCast]; rfl, ?_⟩⟩⟩
      congr 3
      omega
    · have z15 := mu_bf c15
      refine mu_bipush (v := mI (-2)) B dX12_weights_18 (by decide) ?_
      refine mu_iret E rfl (by decide) (by decide) dX12_weights_20 ?_
      exact ⟨mu_Fi.refl _, fun hh => absurd z5 hh, fun _ => ⟨fun _ => rfl, fun hh => by rw [Int.toNat_natCast] at hh; exact absurd z15 (by omega)⟩⟩
  · have z5 := mu_bf c5
    refine mu_iconst (v := mI (-1)) B dX12_weights_8 rfl ?_
    refine mu_iret E rfl (by decide) (by decide) dX12_weights_9 ?_
    exact ⟨mu_Fi.refl _, fun _ => rfl, fun hh => absurd hh z5⟩

theorem mL_i32 (z : Int) : (mL z).toInt32 = mI z := by unfold mL mI; simp
def wt_post (w : mu_W) (m nr : Nat) (rs : Nat → mu_RS) (z y v : Int) (r : Option Value) (w' : mu_W) : Prop := mu_Fi (wk_S m) w w' ∧ (¬ ((0 ≤ z ∧ z < nr) ∧ rs_nb (rs z.toNat) = 0 ∧ 0 ≤ y ∧ 0 ≤ v ∧ v < rs_S (rs z.toNat)) → r = some (.int (mI 0))) ∧ ((0 ≤ z ∧ z < nr) ∧ rs_nb (rs z.toNat) = 0 ∧ 0 ≤ y ∧ 0 ≤ v ∧ v < rs_S (rs z.toNat) → ∃ a, WTv (rs z.toNat) y.toNat v.toNat a ∧ r = some (.int (mI a)))
theorem RSY.row_le {r : mu_RS} {K rr : Nat} {pv : Nat → Nat} {Rw : Nat → Nat → Int} (h : RSY r K rr pv Rw) (hS : rs_S r ≤ 4) : ∀ i, i ≤ rr → 1 ≤ wl pv Rw i ∧ wl pv Rw i ≤ 65536 ∧ ∀ j, j < i → (Rw j (pv j)).natAbs ∣ wl pv Rw i := fun i hi => by
  obtain ⟨h1, h2, h3⟩ := wl_ok (pv := pv) (Rw := Rw) (B := bdk rr) i (fun j hj => ⟨(h.2.1 j (by omega)).2.1, (h.2.1 j (by omega)).2.2.2.2.2.2 _ (h.2.1 j (by omega)).1.2⟩)
  refine ⟨h1, Nat.le_trans h2 ?_, h3⟩
  have hr := h.1
  rcases (show rr = 0 ∨ rr = 1 ∨ rr = 2 ∨ rr = 3 by omega) with rfl | rfl | rfl | rfl <;> rcases (show i = 0 ∨ i = 1 ∨ i = 2 ∨ i = 3 by omega) with rfl | rfl | rfl | rfl <;> first | decide | omega

set_option maxHeartbeats 4000000 in
set_option maxRecDepth 100000 in
theorem c_X12_weight (G : mu_G) {w : mu_W} {m : Nat} (hm : mo_ok w m) {nr : Nat} {rs : Nat → mu_RS} (hru : MRu w m nr rs) {z y v : Int} (hz : mi_ok z) (hy : mi_ok y) (hv : mi_ok v) : mu_Ct G M_X12_weight [.ref m, .int (mI z), .int (mI y), .int (mI v)] w (fun r w' => wt_post w m nr rs z y v r w') := by
  have hk0 := hm.1
  have hnr := hru.1
  obtain ⟨hz1, hz2⟩ := id hz
  obtain ⟨hy1, hy2⟩ := hy
  obtain ⟨hv1, hv2⟩ := hv
  refine mu_ofWA G M_X12_weight [.ref m, .int (mI z), .int (mI y), .int (mI v), mu_no, mu_no, mu_no, mu_no, mu_no, mu_no, mu_no, mu_no] (by decide) rfl (Nat.le_of_ble_eq_true rfl) ?_
  intro X E
  have B : mu_B X G cX12_weight RX12 12 (mu_rm M_X12_weight) := E.1
  show mu_WA X G 12 _ _ 0 0 0 _ []
  refine mu_al_0 B dX12_weight_0 ?_
  refine mu_il_1 B dX12_weight_1 ?_
  refine mu_eV1 B dX12_weight_2 mX12_161 ⟨⟨by decide, by decide⟩, by decide, by decide⟩ (Nat.le_of_ble_eq_true rfl) (by assumption) (c_X12_isRule G hm (n := nr) hru.2.1 hru.1 hz) ?_
  refine mu_if_eq (tgt := 34) B dX12_weight_5 (by decide) (fun c5 => ?_) (fun c5 => ?_)
  · have z5 := mu_bf c5
    refine mu_iconst (v := mI 0) B dX12_weight_34 rfl ?_
    refine mu_iret E rfl (by decide) (by decide) dX12_weight_35 ?_
    refine ⟨mu_Fi.refl _, fun _ => rfl, fun hh => ?_⟩
    first
      | exact absurd hh.1 z5
      | (rw [Int.toNat_natCast] at hh; exfalso; omega)
  · have z5 := mu_bt c5
    obtain ⟨k, hk⟩ : ∃ k : Nat, z = k := ⟨z.toNat, by omega⟩
    subst hk
    obtain ⟨u1, u2, u3, u4, u5, u6⟩ := hru.2.2 k (by omega)
    have hnb := (rs_nb_bd u1).1
    obtain ⟨r6, k6⟩ := mo_6 hm
    refine mu_al_0 B dX12_weight_8 ?_
    refine mu_il_1 B dX12_weight_9 ?_
    refine mu_eV1 B dX12_weight_10 mX12_158 ⟨⟨by decide, by decide⟩, by decide, by decide⟩ (Nat.le_of_ble_eq_true rfl) (by assumption) (c_X12_isBlocks G hm (k := k) (a := (rs_nb (rs k) : Int)) u4 (by omega) ⟨by omega, by omega⟩) ?_
    refine mu_if_eq (tgt := 34) B dX12_weight_13 (by decide) (fun c13 => ?_) (fun c13 => ?_)
    · have z13 := mu_bf c13
      refine mu_iconst (v := mI 0) B dX12_weight_34 rfl ?_
      refine mu_iret E rfl (by decide) (by decide) dX12_weight_35 ?_
      refine ⟨mu_Fi.refl _, fun _ => rfl, fun hh => ?_⟩
      first
        | exact absurd hh.1 z5
        | (rw [Int.toNat_natCast] at hh; exfalso; omega)
    · have z13 := mu_bt c13
      have u6b := u6 (by omega)
      have hS := rs_S_bd u1 (by omega)
      refine mu_il_2 B dX12_weight_16 ?_
      refine mu_if_lt (tgt := 34) B dX12_weight_17 (by decide) (fun c17 => ?_) (fun c17 => ?_)
      · try rw [mI_lt0 ⟨by omega, by omega⟩] at c17
        refine mu_iconst (v := mI 0) B dX12_weight_34 rfl ?_
        refine mu_iret E rfl (by decide) (by decide) dX12_weight_35 ?_
        refine ⟨mu_Fi.refl _, fun _ => rfl, fun hh => ?_⟩
        first
          | exact absurd hh.1 z5
          | (rw [Int.toNat_natCast] at hh; exfalso; omega)
      · try rw [mI_lt0 ⟨by omega, by omega⟩] at c17
        refine mu_il_3 B dX12_weight_20 ?_
        refine mu_if_lt (tgt := 34) B dX12_weight_21 (by decide) (fun c21 => ?_) (fun c21 => ?_)
        · try rw [mI_lt0 ⟨by omega, by omega⟩] at c21
          refine mu_iconst (v := mI 0) B dX12_weight_34 rfl ?_
          refine mu_iret E rfl (by decide) (by decide) dX12_weight_35 ?_
          refine ⟨mu_Fi.refl _, fun _ => rfl, fun hh => ?_⟩
          first
            | exact absurd hh.1 z5
            | (rw [Int.toNat_natCast] at hh; exfalso; omega)
        · try rw [mI_lt0 ⟨by omega, by omega⟩] at c21
          refine mu_il_3 B dX12_weight_24 ?_
          refine mu_al_0 B dX12_weight_25 ?_
          refine mu_getR B dX12_weight_26 fX12_20 rfl (by assumption) (by assumption) ?_
          refine mu_il_1 B dX12_weight_29 ?_
          refine mu_iald B dX12_weight_30 (by assumption) (mI_inN (by omega) (by decide)) ?_
          rw [mI_clampN (by omega), u6b.1]
          refine mu_icmp_lt (tgt := 36) B dX12_weight_31 (by decide) (fun c31 => ?_) (fun c31 => ?_)
          · try rw [mI_lt ⟨by omega, by omega⟩ ⟨by omega, by omega⟩] at c31
            obtain ⟨kk, hkk⟩ : ∃ n : Nat, y = n := ⟨y.toNat, by omega⟩
            subst hkk
            obtain ⟨v, hvv⟩ : ∃ n : Nat, v = n := ⟨v.toNat, by omega⟩
            subst hvv
            have hcond : (0 ≤ (k : Int) ∧ (k : Int) < nr) ∧ rs_nb (rs (k : Int).toNat) = 0 ∧ 0 ≤ (kk : Int) ∧ 0 ≤ (v : Int) ∧ (v : Int) < rs_S (rs (k : Int).toNat) := by rw [Int.toNat_natCast]; omega
            refine mu_al_0 B dX12_weight_36 ?_
            refine mu_il_1 B dX12_weight_37 ?_
            refine mu_cV1 B dX12_weight_38 mX12_359 ⟨⟨by decide, by decide⟩, by decide, by decide⟩ (Nat.le_of_ble_eq_true rfl) (by assumption) (c_X12_work G hm hru (k0 := k) (by omega) (by omega)) (fun r38 w38 q38 => ?_)
            obtain ⟨rfl, hF, rr, pv, Rw, hsy, hwk⟩ := q38
            have hm1 := hm.fi hF
            have hk1 := hm1.1
            obtain ⟨r6b, k6b⟩ := mo_6 hm1
            obtain ⟨r58, k58⟩ := mo_58 hm1
            have hru1 := wk_ru hru hF
            have u6a := (hru1.2.2 k (by omega)).2.2.2.2.2 (by omega)
            have hrS := hsy.1
            show mu_WA X G 12 _ w38 0 0 41 _ []
            refine mu_al_0 B dX12_weight_41 ?_
            refine mu_getR B dX12_weight_42 fX12_20 rfl hk1 r6b ?_
            refine mu_il_1 B dX12_weight_45 ?_
            refine mu_iald B dX12_weight_46 k6b (mI_inN (by omega) (by decide)) ?_
            rw [mI_clampN (by omega), u6a.1]
            generalize hw38 : w38 = s at *
            obtain ⟨k0, hk0e⟩ : ∃ k0, k0 = k := ⟨_, rfl⟩
            subst hk0e
            refine mu_is_4 B dX12_weight_47 (by decide) rfl ?_
            refine mu_iconst (v := mI 0) B dX12_weight_49 rfl ?_
            refine mu_is_5 B dX12_weight_50 (by decide) rfl ?_
            refine mu_il_2 B dX12_weight_52 ?_
            refine mu_is_6 B dX12_weight_53 (by decide) rfl ?_
            have LLl : ∀ l (u9 : Unit), l ≤ (rs_S (rs k0)) → (en_c (FREE (CW (rs k0))) l ≤ kk) → mu_WA X G 12 (mu_Q X G M_X12_weight (wt_post w m nr rs (k0 : Int) (kk : Int) (v : Int))) s 0 0 55 [.ref m, .int (mI k0), .int (mI kk), .int (mI v), .int (mI (rs_S (rs k0))), .int (mI l), .int (mI ((kk : Int) - (en_c (FREE (CW (rs k0))) l : Int))), mu_no, mu_no, mu_no, mu_no, mu_no] [] := by
              refine mu_ind ((rs_S (rs k0))) (fun l (u9 : Unit) => mu_WA X G 12 (mu_Q X G M_X12_weight (wt_post w m nr rs (k0 : Int) (kk : Int) (v : Int))) s 0 0 55 [.ref m, .int (mI k0), .int (mI kk), .int (mI v), .int (mI (rs_S (rs k0))), .int (mI l), .int (mI ((kk : Int) - (en_c (FREE (CW (rs k0))) l : Int))), mu_no, mu_no, mu_no, mu_no, mu_no] []) (fun l (u9 : Unit) => en_c (FREE (CW (rs k0))) l ≤ kk) ?_
              intro l u9 hl9 hle ihl
              refine mu_il_5 B dX12_weight_55 ?_
              refine mu_il_4 B dX12_weight_57 ?_
              refine mu_icmp_ge (tgt := 103) B dX12_weight_59 (by decide) (fun c59 => ?_) (fun c59 => ?_)
              · try rw [mI_le ⟨by omega, by omega⟩ ⟨by omega, by omega⟩] at c59
                obtain rfl : (rs_S (rs k0)) = l := by omega
                refine mu_il_5 B dX12_weight_103 ?_
                refine mu_il_4 B dX12_weight_105 ?_
                refine mu_icmp_ne (tgt := 112) B dX12_weight_107 (by decide) (fun c107 => ?_) (fun c107 => ?_)
                · try rw [mI_eq ⟨by omega, by omega⟩ ⟨by omega, by omega⟩] at c107
                  try rw [mI_eq ⟨by omega, by omega⟩ ⟨by omega, by omega⟩] at c107
                  first
                    | exact absurd rfl c107
                    | have hl : l < (rs_S (rs k0)) := by omega
                      have hlf := hpv
                      have hfree := hnf
                      have hlk : en_c (FREE (CW (rs k0))) l = kk := by omega
                      have hwl := hsy.row_le (by omega) rr (Nat.le_refl _)
                      have K281 : ∀ (s : mu_W) (y : Nat → Int), mu_Fi (wk_S m) w s → WK s m (rs_S (rs k0)) rr pv Rw → LR s (m + 36) 0 (rs_S (rs k0)) y → y l = (wl pv Rw rr : Int) → (∀ j, j < rr → Rw j (pv j) * y (pv j) = -(Rw j l * (wl pv Rw rr : Int)) ∧ (y (pv j)).natAbs ≤ 16777216) → (∀ c, c < (rs_S (rs k0)) → c ≠ l → ¬ PVr rr pv c → y c = 0) → ∀ (u6 : Value) (u9 u10 : Value), mu_WA X G 12 (mu_Q X G M_X12_weight (wt_post w m nr rs (k0 : Int) (kk : Int) (v : Int))) s 0 0 281 [.ref m, .int (mI k0), .int (mI kk), .int (mI v), .int (mI (rs_S (rs k0))), .int (mI l), u6, .long (mL (wl pv Rw rr : Int)), mu_no, u9, u10, mu_no] [] := by
                        intro s y hF hwk hy1 hy2 hy3 hy4 u6 u9 u10
                        have hm1 := hm.fi hF
                        have hk1 := hm1.1
                        obtain ⟨r55, k55⟩ := mo_55 hm1
                        obtain ⟨r57, k57⟩ := mo_57 hm1
                        obtain ⟨r58, k58⟩ := mo_58 hm1
                        obtain ⟨r59, k59⟩ := mo_59 hm1
                        have hyb : ∀ c, c < (rs_S (rs k0)) → (y c).natAbs ≤ 16777216 := fun c hc => by
                          by_cases e1 : c = l
                          · rw [e1, hy2]; omega
                          · by_cases e2 : PVr rr pv c
                            · obtain ⟨j, hj, e3⟩ := e2; rw [← e3]; exact (hy3 j hj).2
                            · rw [hy4 c hc e1 e2]; decide
                        refine mu_al_0 B dX12_weight_281 ?_
                        refine mu_al_0 B dX12_weight_282 ?_
                        refine mu_getR B dX12_weight_283 fX12_121 rfl (by assumption) (by assumption) ?_
                        refine mu_iconst (v := mI 0) B dX12_weight_286 rfl ?_
                        refine mu_il_4 B dX12_weight_287 ?_
                        refine mu_cV3 B dX12_weight_289 mX12_355 ⟨⟨by decide, by decide⟩, by decide, by decide⟩ (Nat.le_of_ble_eq_true rfl) (by assumption) (c_X12_lighter G (m := m) (a := m + 36) (N := 4) (fr := 0) (s := (rs_S (rs k0))) k59 (by omega) (by omega) (by omega) hy1 (fun c hc => Nat.le_trans (hyb c hc) (by decide))) (fun r289 w289 q289 => ?_)
                        obtain ⟨rfl, hF2, hL2⟩ := q289
                        have hFa := hF.trans (lr_wk hF2 (by omega))
                        have hm2 := hm.fi hFa
                        have hk2 := hm2.1
                        obtain ⟨r59b, k59b⟩ := mo_59 hm2
                        show mu_WA X G 12 _ w289 0 0 292 _ []
                        refine mu_al_0 B dX12_weight_292 ?_
                        refine mu_getR B dX12_weight_293 fX12_121 rfl hk2 r59b ?_
                        refine mu_il_3 B dX12_weight_296 ?_
                        refine mu_lald B dX12_weight_297 k59b (mI_inN (by omega) (by decide)) ?_
                        rw [mI_clampN (by omega)]
                        have e0 := hL2 v (by omega)
                        rw [Nat.zero_add] at e0
                        rw [e0]
                        refine mu_l2i B dX12_weight_298 rfl ?_
                        rw [mL_i32]
                        refine mu_iret E rfl (by decide) (by decide) dX12_weight_299 ?_
                        refine ⟨hFa, fun hh => absurd hcond hh, fun _ => ⟨lt (rs_S (rs k0)) y v, ?_, rfl⟩⟩
                        rw [Int.toNat_natCast, Int.toNat_natCast, Int.toNat_natCast]
                        obtain ⟨row, h1, h2, h3⟩ := hsy.red
                        refine Or.inl ⟨l, lt (rs_S (rs k0)) y, hl, hfree, hlk, h1.bas h3 hl hlf (W := (wl pv Rw rr : Int)) (by omega) hy2 (fun p ⟨j, hj, e⟩ => ?_) hy4, rfl⟩
                        subst e
                        rw [h2 j hj]
                        exact (hy3 j hj).1
                      have LYy : ∀ (u6 : Int32), ∀ i (s : mu_W), i ≤ rr → (mu_Fi (wk_S m) w s ∧ WK s m (rs_S (rs k0)) rr pv Rw ∧ ∃ y : Nat → Int, LR s (m + 36) 0 (rs_S (rs k0)) y ∧ y l = (wl pv Rw rr : Int) ∧ (∀ j, j < i → Rw j (pv j) * y (pv j) = -(Rw j l * (wl pv Rw rr : Int)) ∧ (y (pv j)).natAbs ≤ 16777216) ∧ ∀ c, c < (rs_S (rs k0)) → c ≠ l → ¬ PVr i pv c → y c = 0) → mu_WA X G 12 (mu_Q X G M_X12_weight (wt_post w m nr rs (k0 : Int) (kk : Int) (v : Int))) s 0 0 220 [.ref m, .int (mI k0), .int (mI kk), .int (mI v), .int (mI (rs_S (rs k0))), .int (mI l), .int u6, .long (mL (wl pv Rw rr : Int)), mu_no, .int (mI i), mu_no, mu_no] [] := by
                        intro u6
                        refine mu_ind (rr) (fun i (s : mu_W) => mu_WA X G 12 (mu_Q X G M_X12_weight (wt_post w m nr rs (k0 : Int) (kk : Int) (v : Int))) s 0 0 220 [.ref m, .int (mI k0), .int (mI kk), .int (mI v), .int (mI (rs_S (rs k0))), .int (mI l), .int u6, .long (mL (wl pv Rw rr : Int)), mu_no, .int (mI i), mu_no, mu_no] []) (fun i (s : mu_W) => mu_Fi (wk_S m) w s ∧ WK s m (rs_S (rs k0)) rr pv Rw ∧ ∃ y : Nat → Int, LR s (m + 36) 0 (rs_S (rs k0)) y ∧ y l = (wl pv Rw rr : Int) ∧ (∀ j, j < i → Rw j (pv j) * y (pv j) = -(Rw j l * (wl pv Rw rr : Int)) ∧ (y (pv j)).natAbs ≤ 16777216) ∧ ∀ c, c < (rs_S (rs k0)) → c ≠ l → ¬ PVr i pv c → y c = 0) ?_
                        rintro i s hi ⟨hF, hwk, y, hy1, hy2, hy3, hy4⟩ ihi
                        have hm1 := hm.fi hF
                        have hk1 := hm1.1
                        obtain ⟨r55, k55⟩ := mo_55 hm1
                        obtain ⟨r57, k57⟩ := mo_57 hm1
                        obtain ⟨r58, k58⟩ := mo_58 hm1
                        obtain ⟨r59, k59⟩ := mo_59 hm1
                        refine mu_il_9 B dX12_weight_220 ?_
                        refine mu_al_0 B dX12_weight_222 ?_
                        refine mu_getI B dX12_weight_223 fX12_348 rfl (by assumption) ?_
                        rw [hwk.1]
                        refine mu_icmp_ge (tgt := 281) B dX12_weight_226 (by decide) (fun c226 => ?_) (fun c226 => ?_)
                        · try rw [mI_le ⟨by omega, by omega⟩ ⟨by omega, by omega⟩] at c226
                          obtain rfl : rr = i := by omega
                          refine K281 s y hF hwk hy1 hy2 hy3 hy4 _ _ _
                        · try rw [mI_le ⟨by omega, by omega⟩ ⟨by omega, by omega⟩] at c226
                          have hi9 : i < rr := by omega
                          obtain ⟨⟨g0, g1⟩, g2, g3, g4, g5, g6, g7⟩ := hsy.2.1 i hi9
                          obtain ⟨p1, p2⟩ := hwk.2.1 i hi9
                          have hgl := g7 l hl
                          have hgp := g7 (pv i) g1
                          have hb9 := bdk_le rr
                          have hpl : pv i ≠ l := fun e9 => hlf ⟨i, hi9, e9⟩
                          obtain ⟨q, hq⟩ : ∃ q : Int, Rw i (pv i) * q = (wl pv Rw rr : Int) := by obtain ⟨t, ht⟩ := Int.natAbs_dvd.mp (Int.natCast_dvd_natCast.mpr (hwl.2.2 i hi9)); exact ⟨t, ht.symm⟩
                          have hqe : (Rw i (pv i)).natAbs * q.natAbs = wl pv Rw rr := by rw [← Int.natAbs_mul, hq, Int.natAbs_natCast]
                          have hqf : q.natAbs ≤ (Rw i (pv i)).natAbs * q.natAbs := Nat.le_mul_of_pos_left _ (by omega)
                          have hqb : q.natAbs ≤ 65536 := by omega
                          refine mu_al_0 B dX12_weight_229 ?_
                          refine mu_getR B dX12_weight_230 fX12_121 rfl (by assumption) (by assumption) ?_
                          refine mu_al_0 B dX12_weight_233 ?_
                          refine mu_getR B dX12_weight_234 fX12_115 rfl (by assumption) (by assumption) ?_
                          refine mu_il_9 B dX12_weight_237 ?_
                          refine mu_iald B dX12_weight_239 (by assumption) (mI_inN (by omega) (by decide)) ?_
                          rw [mI_clampN (by omega), p1]
                          refine mu_al_0 B dX12_weight_240 ?_
                          refine mu_getR B dX12_weight_241 fX12_111 rfl (by assumption) (by assumption) ?_
                          refine mu_iconst (v := mI 4) B dX12_weight_244 rfl ?_
                          refine mu_il_9 B dX12_weight_245 ?_
                          refine mu_imul B dX12_weight_247 ?_
                          try rw [mI_mul]
                          try rw [mI_mul]
                          rw [show (4 : Int) * (i : Int) = ((4 * i : Nat) : Int) by omega]
                          refine mu_il_5 B dX12_weight_248 ?_
                          refine mu_iadd B dX12_weight_250 ?_
                          try rw [mI_add]
                          try rw [mI_add]
                          rw [← Int.natCast_add]
                          refine mu_lald B dX12_weight_251 (by assumption) (mI_inN (by omega) (by decide)) ?_
                          rw [mI_clampN (by omega), p2 l hl]
                          refine mu_lneg B dX12_weight_252 ?_
                          try rw [mL_neg]
                          refine mu_ll_7 B dX12_weight_253 ?_
                          refine mu_al_0 B dX12_weight_255 ?_
                          refine mu_getR B dX12_weight_256 fX12_111 rfl (by assumption) (by assumption) ?_
                          refine mu_iconst (v := mI 4) B dX12_weight_259 rfl ?_
                          refine mu_il_9 B dX12_weight_260 ?_
                          refine mu_imul B dX12_weight_262 ?_
                          try rw [mI_mul]
                          try rw [mI_mul]
                          rw [show (4 : Int) * (i : Int) = ((4 * i : Nat) : Int) by omega]
                          refine mu_al_0 B dX12_weight_263 ?_
                          refine mu_getR B dX12_weight_264 fX12_115 rfl (by assumption) (by assumption) ?_
                          refine mu_il_9 B dX12_weight_267 ?_
                          refine mu_iald B dX12_weight_269 (by assumption) (mI_inN (by omega) (by decide)) ?_
                          rw [mI_clampN (by omega), p1]
                          refine mu_iadd B dX12_weight_270 ?_
                          try rw [mI_add]
                          try rw [mI_add]
                          rw [← Int.natCast_add]
                          refine mu_lald B dX12_weight_271 (by assumption) (mI_inN (by omega) (by decide)) ?_
                          rw [mI_clampN (by omega), p2 (pv i) g1]
                          refine mu_ldiv B dX12_weight_272 ?_ ?_
                          · exact mL_ne (by omega) ⟨by omega, by omega⟩
                          rw [← hq, mL_divx (by omega) (by rw [hq]; exact ⟨by omega, by omega⟩) ⟨by omega, by omega⟩]
                          refine mu_lmul B dX12_weight_273 ?_
                          try rw [mL_mul]
                          refine mu_last B dX12_weight_274 (by assumption) (mI_inN (by omega) (by decide)) ?_
                          rw [mI_clampN (by omega)]
                          refine mu_inc_9 (c := mI 1) B dX12_weight_275 rfl (by decide) rfl ?_
                          try rw [mI_add]
                          refine mu_goto (tgt := 220) B dX12_weight_278 (by decide) ?_
                          refine mu_fg (ihi _ (by omega) ⟨hF.sl (Or.inr ⟨by omega, by omega⟩), ⟨hwk.1, fun j hj => ⟨(hwk.2.1 j hj).1, fun c9 h9 => (mu_lg_oth _ _ (by omega)).trans ((hwk.2.1 j hj).2 c9 h9)⟩, hwk.2.2⟩, fun c9 => if c9 = pv i then -Rw i l * q else y c9, fun c9 h9 => ?_, ?_, fun j hj => ?_, fun c9 h9 h8 h7 => ?_⟩) rfl (by rw [show ((i + 1 : Nat) : Int) = (i : Int) + 1 by omega, ← hq]; exact ⟨Or.inl rfl, Or.inl rfl, Or.inl rfl, Or.inl rfl, Or.inl rfl, Or.inl rfl, Or.inl rfl, Or.inl rfl, Or.inl rfl, Or.inl rfl, Or.inr rfl, Or.inr rfl, trivial⟩)
                          · rw [Nat.zero_add]
                            dsimp only
                            by_cases e9 : c9 = pv i
                            · rw [if_pos e9, e9, mu_lg_same]
                            · rw [if_neg e9, mu_lg_oth _ _ (by omega)]; have := hy1 c9 h9; rw [Nat.zero_add] at this; exact this
                          · dsimp only; rw [if_neg (fun e9 => hpl e9.symm)]; exact hy2
                          · dsimp only
                            by_cases e9 : j = i
                            · rw [e9, if_pos rfl]
                              refine ⟨by rw [← hq, Int.neg_mul, Int.mul_neg]; congr 1; ac_rfl, ?_⟩
                              rw [Int.natAbs_mul, Int.natAbs_neg]
                              exact Nat.le_trans (Nat.mul_le_mul (Nat.le_trans hgl hb9) hqb) (by decide)
                            · have e8 : pv j ≠ pv i := fun e7 => e9 (hsy.inj (by omega) hi9 e7)
                              rw [if_neg e8]
                              exact hy3 j (by omega)
                          · dsimp only
                            by_cases e9 : c9 = pv i
                            · exact absurd ⟨i, by omega, e9.symm⟩ h7
                            · rw [if_neg e9]; exact hy4 c9 h9 h8 (fun ⟨j, h1, h2⟩ => h7 ⟨j, by omega, h2⟩)
                      have LZz : ∀ u6 : Int32, ∀ i (s : mu_W), i ≤ (rs_S (rs k0)) → (mu_Fi (wk_S m) w s ∧ WK s m (rs_S (rs k0)) rr pv Rw ∧ ∀ c, c < i → mu_lg s (m + 36) c = mL 0) → mu_WA X G 12 (mu_Q X G M_X12_weight (wt_post w m nr rs (k0 : Int) (kk : Int) (v : Int))) s 0 0 187 [.ref m, .int (mI k0), .int (mI kk), .int (mI v), .int (mI (rs_S (rs k0))), .int (mI l), .int u6, .long (mL (wl pv Rw rr : Int)), mu_no, .int (mI i), mu_no, mu_no] [] := by
                        intro u6
                        refine mu_ind ((rs_S (rs k0))) (fun i (s : mu_W) => mu_WA X G 12 (mu_Q X G M_X12_weight (wt_post w m nr rs (k0 : Int) (kk : Int) (v : Int))) s 0 0 187 [.ref m, .int (mI k0), .int (mI kk), .int (mI v), .int (mI (rs_S (rs k0))), .int (mI l), .int u6, .long (mL (wl pv Rw rr : Int)), mu_no, .int (mI i), mu_no, mu_no] []) (fun i (s : mu_W) => mu_Fi (wk_S m) w s ∧ WK s m (rs_S (rs k0)) rr pv Rw ∧ ∀ c, c < i → mu_lg s (m + 36) c = mL 0) ?_
                        rintro i s hi ⟨hF, hwk, hz0⟩ ihi
                        have hm1 := hm.fi hF
                        have hk1 := hm1.1
                        obtain ⟨r55, k55⟩ := mo_55 hm1
                        obtain ⟨r57, k57⟩ := mo_57 hm1
                        obtain ⟨r58, k58⟩ := mo_58 hm1
                        obtain ⟨r59, k59⟩ := mo_59 hm1
                        refine mu_il_9 B dX12_weight_187 ?_
                        refine mu_il_4 B dX12_weight_189 ?_
                        refine mu_icmp_ge (tgt := 208) B dX12_weight_191 (by decide) (fun c191 => ?_) (fun c191 => ?_)
                        · try rw [mI_le ⟨by omega, by omega⟩ ⟨by omega, by omega⟩] at c191
                          obtain rfl : (rs_S (rs k0)) = i := by omega
                          refine mu_al_0 B dX12_weight_208 ?_
                          refine mu_getR B dX12_weight_209 fX12_121 rfl (by assumption) (by assumption) ?_
                          refine mu_il_5 B dX12_weight_212 ?_
                          refine mu_ll_7 B dX12_weight_214 ?_
                          refine mu_last B dX12_weight_216 (by assumption) (mI_inN (by omega) (by decide)) ?_
                          rw [mI_clampN (by omega)]
                          refine mu_iconst (v := mI 0) B dX12_weight_217 rfl ?_
                          refine mu_is_9 B dX12_weight_218 (by decide) rfl ?_
                          refine mu_fg (LYy _ 0 _ (Nat.zero_le _) ⟨hF.sl (Or.inr ⟨by omega, by omega⟩), ⟨hwk.1, fun j hj => ⟨(hwk.2.1 j hj).1, fun c9 h9 => (mu_lg_oth _ _ (by omega)).trans ((hwk.2.1 j hj).2 c9 h9)⟩, hwk.2.2⟩, fun c9 => if c9 = l then (wl pv Rw rr : Int) else 0, fun c9 h9 => ?_, by dsimp only; rw [if_pos rfl], fun j hj => absurd hj (Nat.not_lt_zero j), fun c9 h9 h8 _ => by dsimp only; rw [if_neg h8]⟩) rfl (⟨Or.inl rfl, Or.inl rfl, Or.inl rfl, Or.inl rfl, Or.inl rfl, Or.inl rfl, Or.inl rfl, Or.inl rfl, Or.inl rfl, Or.inl rfl, Or.inr rfl, Or.inr rfl, trivial⟩)
                          rw [Nat.zero_add]
                          dsimp only
                          by_cases e9 : c9 = l
                          · rw [if_pos e9, e9, mu_lg_same]
                          · rw [if_neg e9, mu_lg_oth _ _ (by omega)]; exact hz0 c9 h9
                        · try rw [mI_le ⟨by omega, by omega⟩ ⟨by omega, by omega⟩] at c191
                          refine mu_al_0 B dX12_weight_194 ?_
                          refine mu_getR B dX12_weight_195 fX12_121 rfl (by assumption) (by assumption) ?_
                          refine mu_il_9 B dX12_weight_198 ?_
                          refine mu_lconst (v := mL 0) B dX12_weight_200 rfl ?_
                          refine mu_last B dX12_weight_201 (by assumption) (mI_inN (by omega) (by decide)) ?_
                          rw [mI_clampN (by omega)]
                          refine mu_inc_9 (c := mI 1) B dX12_weight_202 rfl (by decide) rfl ?_
                          try rw [mI_add]
                          refine mu_goto (tgt := 187) B dX12_weight_205 (by decide) ?_
                          refine mu_fg (ihi _ (by omega) ⟨hF.sl (Or.inr ⟨by omega, by omega⟩), ⟨hwk.1, fun j hj => ⟨(hwk.2.1 j hj).1, fun c9 h9 => (mu_lg_oth _ _ (by omega)).trans ((hwk.2.1 j hj).2 c9 h9)⟩, hwk.2.2⟩, fun c9 h9 => ?_⟩) rfl (by rw [show ((i + 1 : Nat) : Int) = (i : Int) + 1 by omega]; exact ⟨Or.inl rfl, Or.inl rfl, Or.inl rfl, Or.inl rfl, Or.inl rfl, Or.inl rfl, Or.inl rfl, Or.inl rfl, Or.inl rfl, Or.inl rfl, Or.inr rfl, Or.inr rfl, trivial⟩)
                          by_cases e9 : c9 = i
                          · rw [e9, mu_lg_same]
                          · rw [mu_lg_oth _ _ (by omega)]; exact hz0 c9 (by omega)
                      have LWw : ∀ u6 : Int32, ∀ i (u9 : Unit), i ≤ rr → (True) → mu_WA X G 12 (mu_Q X G M_X12_weight (wt_post w m nr rs (k0 : Int) (kk : Int) (v : Int))) s 0 0 118 [.ref m, .int (mI k0), .int (mI kk), .int (mI v), .int (mI (rs_S (rs k0))), .int (mI l), .int u6, .long (mL (wl pv Rw i : Int)), mu_no, .int (mI i), mu_no, mu_no] [] := by
                        intro u6
                        refine mu_ind (rr) (fun i (u9 : Unit) => mu_WA X G 12 (mu_Q X G M_X12_weight (wt_post w m nr rs (k0 : Int) (kk : Int) (v : Int))) s 0 0 118 [.ref m, .int (mI k0), .int (mI kk), .int (mI v), .int (mI (rs_S (rs k0))), .int (mI l), .int u6, .long (mL (wl pv Rw i : Int)), mu_no, .int (mI i), mu_no, mu_no] []) (fun i (u9 : Unit) => True) ?_
                        intro i u9 hi _ ihi
                        have hm1 := hm.fi hF
                        have hk1 := hm1.1
                        obtain ⟨r55, k55⟩ := mo_55 hm1
                        obtain ⟨r57, k57⟩ := mo_57 hm1
                        obtain ⟨r58, k58⟩ := mo_58 hm1
                        obtain ⟨r59, k59⟩ := mo_59 hm1
                        refine mu_il_9 B dX12_weight_118 ?_
                        refine mu_al_0 B dX12_weight_120 ?_
                        refine mu_getI B dX12_weight_121 fX12_348 rfl (by assumption) ?_
                        rw [hwk.1]
                        refine mu_icmp_ge (tgt := 184) B dX12_weight_124 (by decide) (fun c124 => ?_) (fun c124 => ?_)
                        · try rw [mI_le ⟨by omega, by omega⟩ ⟨by omega, by omega⟩] at c124
                          obtain rfl : rr = i := by omega
                          refine mu_iconst (v := mI 0) B dX12_weight_184 rfl ?_
                          refine mu_is_9 B dX12_weight_185 (by decide) rfl ?_
                          exact LZz _ 0 s (Nat.zero_le _) ⟨hF, hwk, fun c hc => absurd hc (Nat.not_lt_zero c)⟩
                        · try rw [mI_le ⟨by omega, by omega⟩ ⟨by omega, by omega⟩] at c124
                          have hi9 : i < rr := by omega
                          obtain ⟨⟨g0, g1⟩, g2, g3, g4, g5, g6, g7⟩ := hsy.2.1 i hi9
                          obtain ⟨p1, p2⟩ := hwk.2.1 i hi9
                          have hgp := g7 (pv i) g1
                          have hb9 := bdk_le rr
                          have hwi := hsy.row_le (by omega) i (by omega)
                          have hwi2 := hsy.row_le (by omega) (i + 1) (by omega)
                          refine mu_al_0 B dX12_weight_127 ?_
                          refine mu_getR B dX12_weight_128 fX12_111 rfl (by assumption) (by assumption) ?_
                          refine mu_iconst (v := mI 4) B dX12_weight_131 rfl ?_
                          refine mu_il_9 B dX12_weight_132 ?_
                          refine mu_imul B dX12_weight_134 ?_
                          try rw [mI_mul]
                          try rw [mI_mul]
                          rw [show (4 : Int) * (i : Int) = ((4 * i : Nat) : Int) by omega]
                          refine mu_al_0 B dX12_weight_135 ?_
                          refine mu_getR B dX12_weight_136 fX12_115 rfl (by assumption) (by assumption) ?_
                          refine mu_il_9 B dX12_weight_139 ?_
                          refine mu_iald B dX12_weight_141 (by assumption) (mI_inN (by omega) (by decide)) ?_
                          rw [mI_clampN (by omega), p1]
                          refine mu_iadd B dX12_weight_142 ?_
                          try rw [mI_add]
                          try rw [mI_add]
                          rw [← Int.natCast_add]
                          refine mu_lald B dX12_weight_143 (by assumption) (mI_inN (by omega) (by decide)) ?_
                          rw [mI_clampN (by omega), p2 (pv i) g1]
                          refine mu_ls_10 B dX12_weight_144 (by decide) rfl ?_
                          have K161 : ∀ (z : Int) (u10 : Int64), z = ((Rw i (pv i)).natAbs : Int) → mu_WA X G 12 (mu_Q X G M_X12_weight (wt_post w m nr rs (k0 : Int) (kk : Int) (v : Int))) s 0 0 161 [.ref m, .int (mI k0), .int (mI kk), .int (mI v), .int (mI (rs_S (rs k0))), .int (mI l), .int u6, .long (mL (wl pv Rw i : Int)), mu_no, .int (mI i), .long u10, mu_no] [.long (mL z)] := by
                            intro z u10 hz9
                            rw [hz9]
                            refine mu_ls_10 B dX12_weight_161 (by decide) rfl ?_
                            refine mu_ll_7 B dX12_weight_163 ?_
                            refine mu_ll_7 B dX12_weight_165 ?_
                            refine mu_ll_10 B dX12_weight_167 ?_
                            refine mu_eS2 B dX12_weight_169 mX12_344 ⟨⟨by decide, by decide⟩, by decide, by decide⟩ (Nat.le_of_ble_eq_true rfl) (c_X12_common G (a := (wl pv Rw i : Int)) (b := ((Rw i (pv i)).natAbs : Int)) (by rw [Int.natAbs_natCast]; omega) (by rw [Int.natAbs_natCast]; omega)) ?_
                            rw [Int.natAbs_natCast, Int.natAbs_natCast]
                            have hgp1 : 0 < (Nat.gcd (wl pv Rw i) (Rw i (pv i)).natAbs) := Nat.gcd_pos_of_pos_left _ (by omega)
                            have hgp2 : (Nat.gcd (wl pv Rw i) (Rw i (pv i)).natAbs) ≤ wl pv Rw i := Nat.gcd_le_left _ (by omega)
                            refine mu_ldiv B dX12_weight_172 ?_ ?_
                            · exact mL_ne (by omega) ⟨by omega, by omega⟩
                            rw [mL_div ⟨by omega, by omega⟩ ⟨by omega, by omega⟩]
                            rw [show ((wl pv Rw i : Nat) : Int).tdiv (((Nat.gcd (wl pv Rw i) (Rw i (pv i)).natAbs) : Nat) : Int) = ((wl pv Rw i / (Nat.gcd (wl pv Rw i) (Rw i (pv i)).natAbs) : Nat) : Int) from rfl]
                            refine mu_ll_10 B dX12_weight_173 ?_
                            refine mu_lmul B dX12_weight_175 ?_
                            try rw [mL_mul]
                            try rw [mL_mul]
                            rw [← Int.natCast_mul]
                            refine mu_ls_7 B dX12_weight_176 (by decide) rfl ?_
                            refine mu_inc_9 (c := mI 1) B dX12_weight_178 rfl (by decide) rfl ?_
                            try rw [mI_add]
                            refine mu_goto (tgt := 118) B dX12_weight_181 (by decide) ?_
                            exact mu_fg (ihi () (by omega) trivial) rfl (by rw [wl, show ((i + 1 : Nat) : Int) = (i : Int) + 1 by omega]; exact ⟨Or.inl rfl, Or.inl rfl, Or.inl rfl, Or.inl rfl, Or.inl rfl, Or.inl rfl, Or.inl rfl, Or.inl rfl, Or.inl rfl, Or.inl rfl, Or.inr rfl, Or.inr rfl, trivial⟩)
                          refine mu_ll_10 B dX12_weight_146 ?_
                          refine mu_lconst (v := mL 0) B dX12_weight_148 rfl ?_
                          refine mu_lcmp B dX12_weight_149 ?_
                          refine mu_if_ge (tgt := 159) B dX12_weight_150 (by decide) (fun c150 => ?_) (fun c150 => ?_)
                          · rw [lg_cmp_ge] at c150; try rw [mL_le ⟨by omega, by omega⟩ ⟨by omega, by omega⟩] at c150
                            refine mu_ll_10 B dX12_weight_159 ?_
                            exact K161 _ _ (by omega)
                          · rw [lg_cmp_ge] at c150; try rw [mL_le ⟨by omega, by omega⟩ ⟨by omega, by omega⟩] at c150
                            refine mu_ll_10 B dX12_weight_153 ?_
                            refine mu_lneg B dX12_weight_155 ?_
                            try rw [mL_neg]
                            refine mu_goto (tgt := 161) B dX12_weight_156 (by decide) ?_
                            exact K161 _ _ (by omega)
                      refine mu_lconst (v := mL 1) B dX12_weight_112 rfl ?_
                      refine mu_ls_7 B dX12_weight_113 (by decide) rfl ?_
                      refine mu_iconst (v := mI 0) B dX12_weight_115 rfl ?_
                      refine mu_is_9 B dX12_weight_116 (by decide) rfl ?_
                      exact mu_fg (LWw _ 0 () (Nat.zero_le _) trivial) rfl (⟨Or.inl rfl, Or.inl rfl, Or.inl rfl, Or.inl rfl, Or.inl rfl, Or.inl rfl, Or.inl rfl, Or.inl rfl, Or.inl rfl, Or.inl rfl, Or.inr rfl, Or.inr rfl, trivial⟩)
                · try rw [mI_eq ⟨by omega, by omega⟩ ⟨by omega, by omega⟩] at c107
                  try rw [mI_eq ⟨by omega, by omega⟩ ⟨by omega, by omega⟩] at c107
                  first
                    | (exfalso; omega)
                    | refine mu_iconst (v := mI 0) B dX12_weight_110 rfl ?_
                      refine mu_iret E rfl (by decide) (by decide) dX12_weight_111 ?_
                      refine ⟨hF, fun hh => absurd hcond hh, fun _ => ⟨0, ?_, rfl⟩⟩
                      rw [Int.toNat_natCast, Int.toNat_natCast, Int.toNat_natCast]
                      exact Or.inr ⟨by omega, rfl⟩
              · try rw [mI_le ⟨by omega, by omega⟩ ⟨by omega, by omega⟩] at c59
                refine mu_al_0 B dX12_weight_62 ?_
                refine mu_getR B dX12_weight_63 fX12_118 rfl (by assumption) (by assumption) ?_
                refine mu_il_5 B dX12_weight_66 ?_
                refine mu_zald B dX12_weight_68 (by assumption) (mI_inN (by omega) (by decide)) ?_
                rw [mI_clampN (by omega)]
                refine mu_if_eq (tgt := 77) B dX12_weight_69 (by decide) (fun c69 => ?_) (fun c69 => ?_)
                · have hpv : PVr rr pv l := Classical.byContradiction (fun hh => absurd (((hwk.2.2 l (by omega)).2 hh).symm.trans c69) (by decide))
                  have hnf : ¬ (FREE (CW (rs k0))) l := fun hh => (hsy.free (by omega)).mp hh hpv
                  refine mu_il_6 B dX12_weight_77 ?_
                  refine mu_al_0 B dX12_weight_79 ?_
                  refine mu_getR B dX12_weight_80 fX12_118 rfl (by assumption) (by assumption) ?_
                  refine mu_il_5 B dX12_weight_83 ?_
                  refine mu_zald B dX12_weight_85 (by assumption) (mI_inN (by omega) (by decide)) ?_
                  rw [mI_clampN (by omega)]
                  refine mu_if_eq (tgt := 93) B dX12_weight_86 (by decide) (fun c86 => ?_) (fun c86 => ?_)
                  · refine mu_iconst (v := mI 0) B dX12_weight_93 rfl ?_
                    refine mu_isub B dX12_weight_94 ?_
                    try rw [mI_sub]
                    refine mu_is_6 B dX12_weight_95 (by decide) rfl ?_
                    refine mu_inc_5 (c := mI 1) B dX12_weight_97 rfl (by decide) rfl ?_
                    try rw [mI_add]
                    refine mu_goto (tgt := 55) B dX12_weight_100 (by decide) ?_
                    first
                      | exact absurd c86 c69
                      | exact absurd c69 c86
                      | exact mu_fg (ihl () (by omega) (by rw [en_neg hnf]; exact hle)) rfl (by rw [en_neg hnf, show ((l + 1 : Nat) : Int) = (l : Int) + 1 by omega, Int.sub_zero]; exact ⟨Or.inl rfl, Or.inl rfl, Or.inl rfl, Or.inl rfl, Or.inl rfl, Or.inl rfl, Or.inl rfl, Or.inr rfl, Or.inr rfl, Or.inr rfl, Or.inr rfl, Or.inr rfl, trivial⟩)
                      | exact mu_fg (ihl () (by omega) (by rw [en_pos hnf]; omega)) rfl (by rw [en_pos hnf, show ((l + 1 : Nat) : Int) = (l : Int) + 1 by omega, show (kk : Int) - ((en_c (FREE (CW (rs k0))) l + 1 : Nat) : Int) = (kk : Int) - (en_c (FREE (CW (rs k0))) l : Int) - 1 by omega]; exact ⟨Or.inl rfl, Or.inl rfl, Or.inl rfl, Or.inl rfl, Or.inl rfl, Or.inl rfl, Or.inl rfl, Or.inr rfl, Or.inr rfl, Or.inr rfl, Or.inr rfl, Or.inr rfl, trivial⟩)
                  · refine mu_iconst (v := mI 1) B dX12_weight_89 rfl ?_
                    refine mu_goto (tgt := 94) B dX12_weight_90 (by decide) ?_
                    refine mu_isub B dX12_weight_94 ?_
                    try rw [mI_sub]
                    refine mu_is_6 B dX12_weight_95 (by decide) rfl ?_
                    refine mu_inc_5 (c := mI 1) B dX12_weight_97 rfl (by decide) rfl ?_
                    try rw [mI_add]
                    refine mu_goto (tgt := 55) B dX12_weight_100 (by decide) ?_
                    first
                      | exact absurd c86 c69
                      | exact absurd c69 c86
                      | exact mu_fg (ihl () (by omega) (by rw [en_neg hnf]; exact hle)) rfl (by rw [en_neg hnf, show ((l + 1 : Nat) : Int) = (l : Int) + 1 by omega, Int.sub_zero]; exact ⟨Or.inl rfl, Or.inl rfl, Or.inl rfl, Or.inl rfl, Or.inl rfl, Or.inl rfl, Or.inl rfl, Or.inr rfl, Or.inr rfl, Or.inr rfl, Or.inr rfl, Or.inr rfl, trivial⟩)
                      | exact mu_fg (ihl () (by omega) (by rw [en_pos hnf]; omega)) rfl (by rw [en_pos hnf, show ((l + 1 : Nat) : Int) = (l : Int) + 1 by omega, show (kk : Int) - ((en_c (FREE (CW (rs k0))) l + 1 : Nat) : Int) = (kk : Int) - (en_c (FREE (CW (rs k0))) l : Int) - 1 by omega]; exact ⟨Or.inl rfl, Or.inl rfl, Or.inl rfl, Or.inl rfl, Or.inl rfl, Or.inl rfl, Or.inl rfl, Or.inr rfl, Or.inr rfl, Or.inr rfl, Or.inr rfl, Or.inr rfl, trivial⟩)
                · have hpv : ¬ PVr rr pv l := fun hh => c69 ((hwk.2.2 l (by omega)).1 hh)
                  have hnf : (FREE (CW (rs k0))) l := (hsy.free (by omega)).mpr hpv
                  refine mu_il_6 B dX12_weight_72 ?_
                  refine mu_if_le (tgt := 103) B dX12_weight_74 (by decide) (fun c74 => ?_) (fun c74 => ?_)
                  · try rw [mI_le0 ⟨by omega, by omega⟩] at c74
                    refine mu_il_5 B dX12_weight_103 ?_
                    refine mu_il_4 B dX12_weight_105 ?_
                    refine mu_icmp_ne (tgt := 112) B dX12_weight_107 (by decide) (fun c107 => ?_) (fun c107 => ?_)
                    · try rw [mI_eq ⟨by omega, by omega⟩ ⟨by omega, by omega⟩] at c107
                      try rw [mI_eq ⟨by omega, by omega⟩ ⟨by omega, by omega⟩] at c107
                      first
                        | exact absurd rfl c107
                        | have hl : l < (rs_S (rs k0)) := by omega
                          have hlf := hpv
                          have hfree := hnf
                          have hlk : en_c (FREE (CW (rs k0))) l = kk := by omega
                          have hwl := hsy.row_le (by omega) rr (Nat.le_refl _)
                          have K281 : ∀ (s : mu_W) (y : Nat → Int), mu_Fi (wk_S m) w s → WK s m (rs_S (rs k0)) rr pv Rw → LR s (m + 36) 0 (rs_S (rs k0)) y → y l = (wl pv Rw rr : Int) → (∀ j, j < rr → Rw j (pv j) * y (pv j) = -(Rw j l * (wl pv Rw rr : Int)) ∧ (y (pv j)).natAbs ≤ 16777216) → (∀ c, c < (rs_S (rs k0)) → c ≠ l → ¬ PVr rr pv c → y c = 0) → ∀ (u6 : Value) (u9 u10 : Value), mu_WA X G 12 (mu_Q X G M_X12_weight (wt_post w m nr rs (k0 : Int) (kk : Int) (v : Int))) s 0 0 281 [.ref m, .int (mI k0), .int (mI kk), .int (mI v), .int (mI (rs_S (rs k0))), .int (mI l), u6, .long (mL (wl pv Rw rr : Int)), mu_no, u9, u10, mu_no] [] := by
                            intro s y hF hwk hy1 hy2 hy3 hy4 u6 u9 u10
                            have hm1 := hm.fi hF
                            have hk1 := hm1.1
                            obtain ⟨r55, k55⟩ := mo_55 hm1
                            obtain ⟨r57, k57⟩ := mo_57 hm1
                            obtain ⟨r58, k58⟩ := mo_58 hm1
                            obtain ⟨r59, k59⟩ := mo_59 hm1
                            have hyb : ∀ c, c < (rs_S (rs k0)) → (y c).natAbs ≤ 16777216 := fun c hc => by
                              by_cases e1 : c = l
                              · rw [e1, hy2]; omega
                              · by_cases e2 : PVr rr pv c
                                · obtain ⟨j, hj, e3⟩ := e2; rw [← e3]; exact (hy3 j hj).2
                                · rw [hy4 c hc e1 e2]; decide
                            refine mu_al_0 B dX12_weight_281 ?_
                            refine mu_al_0 B dX12_weight_282 ?_
                            refine mu_getR B dX12_weight_283 fX12_121 rfl (by assumption) (by assumption) ?_
                            refine mu_iconst (v := mI 0) B dX12_weight_286 rfl ?_
                            refine mu_il_4 B dX12_weight_287 ?_
                            refine mu_cV3 B dX12_weight_289 mX12_355 ⟨⟨by decide, by decide⟩, by decide, by decide⟩ (Nat.le_of_ble_eq_true rfl) (by assumption) (c_X12_lighter G (m := m) (a := m + 36) (N := 4) (fr := 0) (s := (rs_S (rs k0))) k59 (by omega) (by omega) (by omega) hy1 (fun c hc => Nat.le_trans (hyb c hc) (by decide))) (fun r289 w289 q289 => ?_)
                            obtain ⟨rfl, hF2, hL2⟩ := q289
                            have hFa := hF.trans (lr_wk hF2 (by omega))
                            have hm2 := hm.fi hFa
                            have hk2 := hm2.1
                            obtain ⟨r59b, k59b⟩ := mo_59 hm2
                            show mu_WA X G 12 _ w289 0 0 292 _ []
                            refine mu_al_0 B dX12_weight_292 ?_
                            refine mu_getR B dX12_weight_293 fX12_121 rfl hk2 r59b ?_
                            refine mu_il_3 B dX12_weight_296 ?_
                            refine mu_lald B dX12_weight_297 k59b (mI_inN (by omega) (by decide)) ?_
                            rw [mI_clampN (by omega)]
                            have e0 := hL2 v (by omega)
                            rw [Nat.zero_add] at e0
                            rw [e0]
                            refine mu_l2i B dX12_weight_298 rfl ?_
                            rw [mL_i32]
                            refine mu_iret E rfl (by decide) (by decide) dX12_weight_299 ?_
                            refine ⟨hFa, fun hh => absurd hcond hh, fun _ => ⟨lt (rs_S (rs k0)) y v, ?_, rfl⟩⟩
                            rw [Int.toNat_natCast, Int.toNat_natCast, Int.toNat_natCast]
                            obtain ⟨row, h1, h2, h3⟩ := hsy.red
                            refine Or.inl ⟨l, lt (rs_S (rs k0)) y, hl, hfree, hlk, h1.bas h3 hl hlf (W := (wl pv Rw rr : Int)) (by omega) hy2 (fun p ⟨j, hj, e⟩ => ?_) hy4, rfl⟩
                            subst e
                            rw [h2 j hj]
                            exact (hy3 j hj).1
                          have LYy : ∀ (u6 : Int32), ∀ i (s : mu_W), i ≤ rr → (mu_Fi (wk_S m) w s ∧ WK s m (rs_S (rs k0)) rr pv Rw ∧ ∃ y : Nat → Int, LR s (m + 36) 0 (rs_S (rs k0)) y ∧ y l = (wl pv Rw rr : Int) ∧ (∀ j, j < i → Rw j (pv j) * y (pv j) = -(Rw j l * (wl pv Rw rr : Int)) ∧ (y (pv j)).natAbs ≤ 16777216) ∧ ∀ c, c < (rs_S (rs k0)) → c ≠ l → ¬ PVr i pv c → y c = 0) → mu_WA X G 12 (mu_Q X G M_X12_weight (wt_post w m nr rs (k0 : Int) (kk : Int) (v : Int))) s 0 0 220 [.ref m, .int (mI k0), .int (mI kk), .int (mI v), .int (mI (rs_S (rs k0))), .int (mI l), .int u6, .long (mL (wl pv Rw rr : Int)), mu_no, .int (mI i), mu_no, mu_no] [] := by
                            intro u6
                            refine mu_ind (rr) (fun i (s : mu_W) => mu_WA X G 12 (mu_Q X G M_X12_weight (wt_post w m nr rs (k0 : Int) (kk : Int) (v : Int))) s 0 0 220 [.ref m, .int (mI k0), .int (mI kk), .int (mI v), .int (mI (rs_S (rs k0))), .int (mI l), .int u6, .long (mL (wl pv Rw rr : Int)), mu_no, .int (mI i), mu_no, mu_no] []) (fun i (s : mu_W) => mu_Fi (wk_S m) w s ∧ WK s m (rs_S (rs k0)) rr pv Rw ∧ ∃ y : Nat → Int, LR s (m + 36) 0 (rs_S (rs k0)) y ∧ y l = (wl pv Rw rr : Int) ∧ (∀ j, j < i → Rw j (pv j) * y (pv j) = -(Rw j l * (wl pv Rw rr : Int)) ∧ (y (pv j)).natAbs ≤ 16777216) ∧ ∀ c, c < (rs_S (rs k0)) → c ≠ l → ¬ PVr i pv c → y c = 0) ?_
                            rintro i s hi ⟨hF, hwk, y, hy1, hy2, hy3, hy4⟩ ihi
                            have hm1 := hm.fi hF
                            have hk1 := hm1.1
                            obtain ⟨r55, k55⟩ := mo_55 hm1
                            obtain ⟨r57, k57⟩ := mo_57 hm1
                            obtain ⟨r58, k58⟩ := mo_58 hm1
                            obtain ⟨r59, k59⟩ := mo_59 hm1
                            refine mu_il_9 B dX12_weight_220 ?_
                            refine mu_al_0 B dX12_weight_222 ?_
                            refine mu_getI B dX12_weight_223 fX12_348 rfl (by assumption) ?_
                            rw [hwk.1]
                            refine mu_icmp_ge (tgt := 281) B dX12_weight_226 (by decide) (fun c226 => ?_) (fun c226 => ?_)
                            · try rw [mI_le ⟨by omega, by omega⟩ ⟨by omega, by omega⟩] at c226
                              obtain rfl : rr = i := by omega
                              refine K281 s y hF hwk hy1 hy2 hy3 hy4 _ _ _
                            · try rw [mI_le ⟨by omega, by omega⟩ ⟨by omega, by omega⟩] at c226
                              have hi9 : i < rr := by omega
                              obtain ⟨⟨g0, g1⟩, g2, g3, g4, g5, g6, g7⟩ := hsy.2.1 i hi9
                              obtain ⟨p1, p2⟩ := hwk.2.1 i hi9
                              have hgl := g7 l hl
                              have hgp := g7 (pv i) g1
                              have hb9 := bdk_le rr
                              have hpl : pv i ≠ l := fun e9 => hlf ⟨i, hi9, e9⟩
                              obtain ⟨q, hq⟩ : ∃ q : Int, Rw i (pv i) * q = (wl pv Rw rr : Int) := by obtain ⟨t, ht⟩ := Int.natAbs_dvd.mp (Int.natCast_dvd_natCast.mpr (hwl.2.2 i hi9)); exact ⟨t, ht.symm⟩
                              have hqe : (Rw i (pv i)).natAbs * q.natAbs = wl pv Rw rr := by rw [← Int.natAbs_mul, hq, Int.natAbs_natCast]
                              have hqf : q.natAbs ≤ (Rw i (pv i)).natAbs * q.natAbs := Nat.le_mul_of_pos_left _ (by omega)
                              have hqb : q.natAbs ≤ 65536 := by omega
                              refine mu_al_0 B dX12_weight_229 ?_
                              refine mu_getR B dX12_weight_230 fX12_121 rfl (by assumption) (by assumption) ?_
                              refine mu_al_0 B dX12_weight_233 ?_
                              refine mu_getR B dX12_weight_234 fX12_115 rfl (by assumption) (by assumption) ?_
                              refine mu_il_9 B dX12_weight_237 ?_
                              refine mu_iald B dX12_weight_239 (by assumption) (mI_inN (by omega) (by decide)) ?_
                              rw [mI_clampN (by omega), p1]
                              refine mu_al_0 B dX12_weight_240 ?_
                              refine mu_getR B dX12_weight_241 fX12_111 rfl (by assumption) (by assumption) ?_
                              refine mu_iconst (v := mI 4) B dX12_weight_244 rfl ?_
                              refine mu_il_9 B dX12_weight_245 ?_
                              refine mu_imul B dX12_weight_247 ?_
                              try rw [mI_mul]
                              try rw [mI_mul]
                              rw [show (4 : Int) * (i : Int) = ((4 * i : Nat) : Int) by omega]
                              refine mu_il_5 B dX12_weight_248 ?_
                              refine mu_iadd B dX12_weight_250 ?_
                              try rw [mI_add]
                              try rw [mI_add]
                              rw [← Int.natCast_add]
                              refine mu_lald B dX12_weight_251 (by assumption) (mI_inN (by omega) (by decide)) ?_
                              rw [mI_clampN (by omega), p2 l hl]
                              refine mu_lneg B dX12_weight_252 ?_
                              try rw [mL_neg]
                              refine mu_ll_7 B dX12_weight_253 ?_
                              refine mu_al_0 B dX12_weight_255 ?_
                              refine mu_getR B dX12_weight_256 fX12_111 rfl (by assumption) (by assumption) ?_
                              refine mu_iconst (v := mI 4) B dX12_weight_259 rfl ?_
                              refine mu_il_9 B dX12_weight_260 ?_
                              refine mu_imul B dX12_weight_262 ?_
                              try rw [mI_mul]
                              try rw [mI_mul]
                              rw [show (4 : Int) * (i : Int) = ((4 * i : Nat) : Int) by omega]
                              refine mu_al_0 B dX12_weight_263 ?_
                              refine mu_getR B dX12_weight_264 fX12_115 rfl (by assumption) (by assumption) ?_
                              refine mu_il_9 B dX12_weight_267 ?_
                              refine mu_iald B dX12_weight_269 (by assumption) (mI_inN (by omega) (by decide)) ?_
                              rw [mI_clampN (by omega), p1]
                              refine mu_iadd B dX12_weight_270 ?_
                              try rw [mI_add]
                              try rw [mI_add]
                              rw [← Int.natCast_add]
                              refine mu_lald B dX12_weight_271 (by assumption) (mI_inN (by omega) (by decide)) ?_
                              rw [mI_clampN (by omega), p2 (pv i) g1]
                              refine mu_ldiv B dX12_weight_272 ?_ ?_
                              · exact mL_ne (by omega) ⟨by omega, by omega⟩
                              rw [← hq, mL_divx (by omega) (by rw [hq]; exact ⟨by omega, by omega⟩) ⟨by omega, by omega⟩]
                              refine mu_lmul B dX12_weight_273 ?_
                              try rw [mL_mul]
                              refine mu_last B dX12_weight_274 (by assumption) (mI_inN (by omega) (by decide)) ?_
                              rw [mI_clampN (by omega)]
                              refine mu_inc_9 (c := mI 1) B dX12_weight_275 rfl (by decide) rfl ?_
                              try rw [mI_add]
                              refine mu_goto (tgt := 220) B dX12_weight_278 (by decide) ?_
                              refine mu_fg (ihi _ (by omega) ⟨hF.sl (Or.inr ⟨by omega, by omega⟩), ⟨hwk.1, fun j hj => ⟨(hwk.2.1 j hj).1, fun c9 h9 => (mu_lg_oth _ _ (by omega)).trans ((hwk.2.1 j hj).2 c9 h9)⟩, hwk.2.2⟩, fun c9 => if c9 = pv i then -Rw i l * q else y c9, fun c9 h9 => ?_, ?_, fun j hj => ?_, fun c9 h9 h8 h7 => ?_⟩) rfl (by rw [show ((i + 1 : Nat) : Int) = (i : Int) + 1 by omega, ← hq]; exact ⟨Or.inl rfl, Or.inl rfl, Or.inl rfl, Or.inl rfl, Or.inl rfl, Or.inl rfl, Or.inl rfl, Or.inl rfl, Or.inl rfl, Or.inl rfl, Or.inr rfl, Or.inr rfl, trivial⟩)
                              · rw [Nat.zero_add]
                                dsimp only
                                by_cases e9 : c9 = pv i
                                · rw [if_pos e9, e9, mu_lg_same]
                                · rw [if_neg e9, mu_lg_oth _ _ (by omega)]; have := hy1 c9 h9; rw [Nat.zero_add] at this; exact this
                              · dsimp only; rw [if_neg (fun e9 => hpl e9.symm)]; exact hy2
                              · dsimp only
                                by_cases e9 : j = i
                                · rw [e9, if_pos rfl]
                                  refine ⟨by rw [← hq, Int.neg_mul, Int.mul_neg]; congr 1; ac_rfl, ?_⟩
                                  rw [Int.natAbs_mul, Int.natAbs_neg]
                                  exact Nat.le_trans (Nat.mul_le_mul (Nat.le_trans hgl hb9) hqb) (by decide)
                                · have e8 : pv j ≠ pv i := fun e7 => e9 (hsy.inj (by omega) hi9 e7)
                                  rw [if_neg e8]
                                  exact hy3 j (by omega)
                              · dsimp only
                                by_cases e9 : c9 = pv i
                                · exact absurd ⟨i, by omega, e9.symm⟩ h7
                                · rw [if_neg e9]; exact hy4 c9 h9 h8 (fun ⟨j, h1, h2⟩ => h7 ⟨j, by omega, h2⟩)
                          have LZz : ∀ u6 : Int32, ∀ i (s : mu_W), i ≤ (rs_S (rs k0)) → (mu_Fi (wk_S m) w s ∧ WK s m (rs_S (rs k0)) rr pv Rw ∧ ∀ c, c < i → mu_lg s (m + 36) c = mL 0) → mu_WA X G 12 (mu_Q X G M_X12_weight (wt_post w m nr rs (k0 : Int) (kk : Int) (v : Int))) s 0 0 187 [.ref m, .int (mI k0), .int (mI kk), .int (mI v), .int (mI (rs_S (rs k0))), .int (mI l), .int u6, .long (mL (wl pv Rw rr : Int)), mu_no, .int (mI i), mu_no, mu_no] [] := by
                            intro u6
                            refine mu_ind ((rs_S (rs k0))) (fun i (s : mu_W) => mu_WA X G 12 (mu_Q X G M_X12_weight (wt_post w m nr rs (k0 : Int) (kk : Int) (v : Int))) s 0 0 187 [.ref m, .int (mI k0), .int (mI kk), .int (mI v), .int (mI (rs_S (rs k0))), .int (mI l), .int u6, .long (mL (wl pv Rw rr : Int)), mu_no, .int (mI i), mu_no, mu_no] []) (fun i (s : mu_W) => mu_Fi (wk_S m) w s ∧ WK s m (rs_S (rs k0)) rr pv Rw ∧ ∀ c, c < i → mu_lg s (m + 36) c = mL 0) ?_
                            rintro i s hi ⟨hF, hwk, hz0⟩ ihi
                            have hm1 := hm.fi hF
                            have hk1 := hm1.1
                            obtain ⟨r55, k55⟩ := mo_55 hm1
                            obtain ⟨r57, k57⟩ := mo_57 hm1
                            obtain ⟨r58, k58⟩ := mo_58 hm1
                            obtain ⟨r59, k59⟩ := mo_59 hm1
                            refine mu_il_9 B dX12_weight_187 ?_
                            refine mu_il_4 B dX12_weight_189 ?_
                            refine mu_icmp_ge (tgt := 208) B dX12_weight_191 (by decide) (fun c191 => ?_) (fun c191 => ?_)
                            · try rw [mI_le ⟨by omega, by omega⟩ ⟨by omega, by omega⟩] at c191
                              obtain rfl : (rs_S (rs k0)) = i := by omega
                              refine mu_al_0 B dX12_weight_208 ?_
                              refine mu_getR B dX12_weight_209 fX12_121 rfl (by assumption) (by assumption) ?_
                              refine mu_il_5 B dX12_weight_212 ?_
                              refine mu_ll_7 B dX12_weight_214 ?_
                              refine mu_last B dX12_weight_216 (by assumption) (mI_inN (by omega) (by decide)) ?_
                              rw [mI_clampN (by omega)]
                              refine mu_iconst (v := mI 0) B dX12_weight_217 rfl ?_
                              refine mu_is_9 B dX12_weight_218 (by decide) rfl ?_
                              refine mu_fg (LYy _ 0 _ (Nat.zero_le _) ⟨hF.sl (Or.inr ⟨by omega, by omega⟩), ⟨hwk.1, fun j hj => ⟨(hwk.2.1 j hj).1, fun c9 h9 => (mu_lg_oth _ _ (by omega)).trans ((hwk.2.1 j hj).2 c9 h9)⟩, hwk.2.2⟩, fun c9 => if c9 = l then (wl pv Rw rr : Int) else 0, fun c9 h9 => ?_, by dsimp only; rw [if_pos rfl], fun j hj => absurd hj (Nat.not_lt_zero j), fun c9 h9 h8 _ => by dsimp only; rw [if_neg h8]⟩) rfl (⟨Or.inl rfl, Or.inl rfl, Or.inl rfl, Or.inl rfl, Or.inl rfl, Or.inl rfl, Or.inl rfl, Or.inl rfl, Or.inl rfl, Or.inl rfl, Or.inr rfl, Or.inr rfl, trivial⟩)
                              rw [Nat.zero_add]
                              dsimp only
                              by_cases e9 : c9 = l
                              · rw [if_pos e9, e9, mu_lg_same]
                              · rw [if_neg e9, mu_lg_oth _ _ (by omega)]; exact hz0 c9 h9
                            · try rw [mI_le ⟨by omega, by omega⟩ ⟨by omega, by omega⟩] at c191
                              refine mu_al_0 B dX12_weight_194 ?_
                              refine mu_getR B dX12_weight_195 fX12_121 rfl (by assumption) (by assumption) ?_
                              refine mu_il_9 B dX12_weight_198 ?_
                              refine mu_lconst (v := mL 0) B dX12_weight_200 rfl ?_
                              refine mu_last B dX12_weight_201 (by assumption) (mI_inN (by omega) (by decide)) ?_
                              rw [mI_clampN (by omega)]
                              refine mu_inc_9 (c := mI 1) B dX12_weight_202 rfl (by decide) rfl ?_
                              try rw [mI_add]
                              refine mu_goto (tgt := 187) B dX12_weight_205 (by decide) ?_
                              refine mu_fg (ihi _ (by omega) ⟨hF.sl (Or.inr ⟨by omega, by omega⟩), ⟨hwk.1, fun j hj => ⟨(hwk.2.1 j hj).1, fun c9 h9 => (mu_lg_oth _ _ (by omega)).trans ((hwk.2.1 j hj).2 c9 h9)⟩, hwk.2.2⟩, fun c9 h9 => ?_⟩) rfl (by rw [show ((i + 1 : Nat) : Int) = (i : Int) + 1 by omega]; exact ⟨Or.inl rfl, Or.inl rfl, Or.inl rfl, Or.inl rfl, Or.inl rfl, Or.inl rfl, Or.inl rfl, Or.inl rfl, Or.inl rfl, Or.inl rfl, Or.inr rfl, Or.inr rfl, trivial⟩)
                              by_cases e9 : c9 = i
                              · rw [e9, mu_lg_same]
                              · rw [mu_lg_oth _ _ (by omega)]; exact hz0 c9 (by omega)
                          have LWw : ∀ u6 : Int32, ∀ i (u9 : Unit), i ≤ rr → (True) → mu_WA X G 12 (mu_Q X G M_X12_weight (wt_post w m nr rs (k0 : Int) (kk : Int) (v : Int))) s 0 0 118 [.ref m, .int (mI k0), .int (mI kk), .int (mI v), .int (mI (rs_S (rs k0))), .int (mI l), .int u6, .long (mL (wl pv Rw i : Int)), mu_no, .int (mI i), mu_no, mu_no] [] := by
                            intro u6
                            refine mu_ind (rr) (fun i (u9 : Unit) => mu_WA X G 12 (mu_Q X G M_X12_weight (wt_post w m nr rs (k0 : Int) (kk : Int) (v : Int))) s 0 0 118 [.ref m, .int (mI k0), .int (mI kk), .int (mI v), .int (mI (rs_S (rs k0))), .int (mI l), .int u6, .long (mL (wl pv Rw i : Int)), mu_no, .int (mI i), mu_no, mu_no] []) (fun i (u9 : Unit) => True) ?_
                            intro i u9 hi _ ihi
                            have hm1 := hm.fi hF
                            have hk1 := hm1.1
                            obtain ⟨r55, k55⟩ := mo_55 hm1
                            obtain ⟨r57, k57⟩ := mo_57 hm1
                            obtain ⟨r58, k58⟩ := mo_58 hm1
                            obtain ⟨r59, k59⟩ := mo_59 hm1
                            refine mu_il_9 B dX12_weight_118 ?_
                            refine mu_al_0 B dX12_weight_120 ?_
                            refine mu_getI B dX12_weight_121 fX12_348 rfl (by assumption) ?_
                            rw [hwk.1]
                            refine mu_icmp_ge (tgt := 184) B dX12_weight_124 (by decide) (fun c124 => ?_) (fun c124 => ?_)
                            · try rw [mI_le ⟨by omega, by omega⟩ ⟨by omega, by omega⟩] at c124
                              obtain rfl : rr = i := by omega
                              refine mu_iconst (v := mI 0) B dX12_weight_184 rfl ?_
                              refine mu_is_9 B dX12_weight_185 (by decide) rfl ?_
                              exact LZz _ 0 s (Nat.zero_le _) ⟨hF, hwk, fun c hc => absurd hc (Nat.not_lt_zero c)⟩
                            · try rw [mI_le ⟨by omega, by omega⟩ ⟨by omega, by omega⟩] at c124
                              have hi9 : i < rr := by omega
                              obtain ⟨⟨g0, g1⟩, g2, g3, g4, g5, g6, g7⟩ := hsy.2.1 i hi9
                              obtain ⟨p1, p2⟩ := hwk.2.1 i hi9
                              have hgp := g7 (pv i) g1
                              have hb9 := bdk_le rr
                              have hwi := hsy.row_le (by omega) i (by omega)
                              have hwi2 := hsy.row_le (by omega) (i + 1) (by omega)
                              refine mu_al_0 B dX12_weight_127 ?_
                              refine mu_getR B dX12_weight_128 fX12_111 rfl (by assumption) (by assumption) ?_
                              refine mu_iconst (v := mI 4) B dX12_weight_131 rfl ?_
                              refine mu_il_9 B dX12_weight_132 ?_
                              refine mu_imul B dX12_weight_134 ?_
                              try rw [mI_mul]
                              try rw [mI_mul]
                              rw [show (4 : Int) * (i : Int) = ((4 * i : Nat) : Int) by omega]
                              refine mu_al_0 B dX12_weight_135 ?_
                              refine mu_getR B dX12_weight_136 fX12_115 rfl (by assumption) (by assumption) ?_
                              refine mu_il_9 B dX12_weight_139 ?_
                              refine mu_iald B dX12_weight_141 (by assumption) (mI_inN (by omega) (by decide)) ?_
                              rw [mI_clampN (by omega), p1]
                              refine mu_iadd B dX12_weight_142 ?_
                              try rw [mI_add]
                              try rw [mI_add]
                              rw [← Int.natCast_add]
                              refine mu_lald B dX12_weight_143 (by assumption) (mI_inN (by omega) (by decide)) ?_
                              rw [mI_clampN (by omega), p2 (pv i) g1]
                              refine mu_ls_10 B dX12_weight_144 (by decide) rfl ?_
                              have K161 : ∀ (z : Int) (u10 : Int64), z = ((Rw i (pv i)).natAbs : Int) → mu_WA X G 12 (mu_Q X G M_X12_weight (wt_post w m nr rs (k0 : Int) (kk : Int) (v : Int))) s 0 0 161 [.ref m, .int (mI k0), .int (mI kk), .int (mI v), .int (mI (rs_S (rs k0))), .int (mI l), .int u6, .long (mL (wl pv Rw i : Int)), mu_no, .int (mI i), .long u10, mu_no] [.long (mL z)] := by
                                intro z u10 hz9
                                rw [hz9]
                                refine mu_ls_10 B dX12_weight_161 (by decide) rfl ?_
                                refine mu_ll_7 B dX12_weight_163 ?_
                                refine mu_ll_7 B dX12_weight_165 ?_
                                refine mu_ll_10 B dX12_weight_167 ?_
                                refine mu_eS2 B dX12_weight_169 mX12_344 ⟨⟨by decide, by decide⟩, by decide, by decide⟩ (Nat.le_of_ble_eq_true rfl) (c_X12_common G (a := (wl pv Rw i : Int)) (b := ((Rw i (pv i)).natAbs : Int)) (by rw [Int.natAbs_natCast]; omega) (by rw [Int.natAbs_natCast]; omega)) ?_
                                rw [Int.natAbs_natCast, Int.natAbs_natCast]
                                have hgp1 : 0 < (Nat.gcd (wl pv Rw i) (Rw i (pv i)).natAbs) := Nat.gcd_pos_of_pos_left _ (by omega)
                                have hgp2 : (Nat.gcd (wl pv Rw i) (Rw i (pv i)).natAbs) ≤ wl pv Rw i := Nat.gcd_le_left _ (by omega)
                                refine mu_ldiv B dX12_weight_172 ?_ ?_
                                · exact mL_ne (by omega) ⟨by omega, by omega⟩
                                rw [mL_div ⟨by omega, by omega⟩ ⟨by omega, by omega⟩]
                                rw [show ((wl pv Rw i : Nat) : Int).tdiv (((Nat.gcd (wl pv Rw i) (Rw i (pv i)).natAbs) : Nat) : Int) = ((wl pv Rw i / (Nat.gcd (wl pv Rw i) (Rw i (pv i)).natAbs) : Nat) : Int) from rfl]
                                refine mu_ll_10 B dX12_weight_173 ?_
                                refine mu_lmul B dX12_weight_175 ?_
                                try rw [mL_mul]
                                try rw [mL_mul]
                                rw [← Int.natCast_mul]
                                refine mu_ls_7 B dX12_weight_176 (by decide) rfl ?_
                                refine mu_inc_9 (c := mI 1) B dX12_weight_178 rfl (by decide) rfl ?_
                                try rw [mI_add]
                                refine mu_goto (tgt := 118) B dX12_weight_181 (by decide) ?_
                                exact mu_fg (ihi () (by omega) trivial) rfl (by rw [wl, show ((i + 1 : Nat) : Int) = (i : Int) + 1 by omega]; exact ⟨Or.inl rfl, Or.inl rfl, Or.inl rfl, Or.inl rfl, Or.inl rfl, Or.inl rfl, Or.inl rfl, Or.inl rfl, Or.inl rfl, Or.inl rfl, Or.inr rfl, Or.inr rfl, trivial⟩)
                              refine mu_ll_10 B dX12_weight_146 ?_
                              refine mu_lconst (v := mL 0) B dX12_weight_148 rfl ?_
                              refine mu_lcmp B dX12_weight_149 ?_
                              refine mu_if_ge (tgt := 159) B dX12_weight_150 (by decide) (fun c150 => ?_) (fun c150 => ?_)
                              · rw [lg_cmp_ge] at c150; try rw [mL_le ⟨by omega, by omega⟩ ⟨by omega, by omega⟩] at c150
                                refine mu_ll_10 B dX12_weight_159 ?_
                                exact K161 _ _ (by omega)
                              · rw [lg_cmp_ge] at c150; try rw [mL_le ⟨by omega, by omega⟩ ⟨by omega, by omega⟩] at c150
                                refine mu_ll_10 B dX12_weight_153 ?_
                                refine mu_lneg B dX12_weight_155 ?_
                                try rw [mL_neg]
                                refine mu_goto (tgt := 161) B dX12_weight_156 (by decide) ?_
                                exact K161 _ _ (by omega)
                          refine mu_lconst (v := mL 1) B dX12_weight_112 rfl ?_
                          refine mu_ls_7 B dX12_weight_113 (by decide) rfl ?_
                          refine mu_iconst (v := mI 0) B dX12_weight_115 rfl ?_
                          refine mu_is_9 B dX12_weight_116 (by decide) rfl ?_
                          exact mu_fg (LWw _ 0 () (Nat.zero_le _) trivial) rfl (⟨Or.inl rfl, Or.inl rfl, Or.inl rfl, Or.inl rfl, Or.inl rfl, Or.inl rfl, Or.inl rfl, Or.inl rfl, Or.inl rfl, Or.inl rfl, Or.inr rfl, Or.inr rfl, trivial⟩)
                    · try rw [mI_eq ⟨by omega, by omega⟩ ⟨by omega, by omega⟩] at c107
                      try rw [mI_eq ⟨by omega, by omega⟩ ⟨by omega, by omega⟩] at c107
                      first
                        | (exfalso; omega)
                        | refine mu_iconst (v := mI 0) B dX12_weight_110 rfl ?_
                          refine mu_iret E rfl (by decide) (by decide) dX12_weight_111 ?_
                          refine ⟨hF, fun hh => absurd hcond hh, fun _ => ⟨0, ?_, rfl⟩⟩
                          rw [Int.toNat_natCast, Int.toNat_natCast, Int.toNat_natCast]
                          exact Or.inr ⟨by omega, rfl⟩
                  · try rw [mI_le0 ⟨by omega, by omega⟩] at c74
                    refine mu_il_6 B dX12_weight_77 ?_
                    refine mu_al_0 B dX12_weight_79 ?_
                    refine mu_getR B dX12_weight_80 fX12_118 rfl (by assumption) (by assumption) ?_
                    refine mu_il_5 B dX12_weight_83 ?_
                    refine mu_zald B dX12_weight_85 (by assumption) (mI_inN (by omega) (by decide)) ?_
                    rw [mI_clampN (by omega)]
                    refine mu_if_eq (tgt := 93) B dX12_weight_86 (by decide) (fun c86 => ?_) (fun c86 => ?_)
                    · refine mu_iconst (v := mI 0) B dX12_weight_93 rfl ?_
                      refine mu_isub B dX12_weight_94 ?_
                      try rw [mI_sub]
                      refine mu_is_6 B dX12_weight_95 (by decide) rfl ?_
                      refine mu_inc_5 (c := mI 1) B dX12_weight_97 rfl (by decide) rfl ?_
                      try rw [mI_add]
                      refine mu_goto (tgt := 55) B dX12_weight_100 (by decide) ?_
                      first
                        | exact absurd c86 c69
                        | exact absurd c69 c86
                        | exact mu_fg (ihl () (by omega) (by rw [en_neg hnf]; exact hle)) rfl (by rw [en_neg hnf, show ((l + 1 : Nat) : Int) = (l : Int) + 1 by omega, Int.sub_zero]; exact ⟨Or.inl rfl, Or.inl rfl, Or.inl rfl, Or.inl rfl, Or.inl rfl, Or.inl rfl, Or.inl rfl, Or.inr rfl, Or.inr rfl, Or.inr rfl, Or.inr rfl, Or.inr rfl, trivial⟩)
                        | exact mu_fg (ihl () (by omega) (by rw [en_pos hnf]; omega)) rfl (by rw [en_pos hnf, show ((l + 1 : Nat) : Int) = (l : Int) + 1 by omega, show (kk : Int) - ((en_c (FREE (CW (rs k0))) l + 1 : Nat) : Int) = (kk : Int) - (en_c (FREE (CW (rs k0))) l : Int) - 1 by omega]; exact ⟨Or.inl rfl, Or.inl rfl, Or.inl rfl, Or.inl rfl, Or.inl rfl, Or.inl rfl, Or.inl rfl, Or.inr rfl, Or.inr rfl, Or.inr rfl, Or.inr rfl, Or.inr rfl, trivial⟩)
                    · refine mu_iconst (v := mI 1) B dX12_weight_89 rfl ?_
                      refine mu_goto (tgt := 94) B dX12_weight_90 (by decide) ?_
                      refine mu_isub B dX12_weight_94 ?_
                      try rw [mI_sub]
                      refine mu_is_6 B dX12_weight_95 (by decide) rfl ?_
                      refine mu_inc_5 (c := mI 1) B dX12_weight_97 rfl (by decide) rfl ?_
                      try rw [mI_add]
                      refine mu_goto (tgt := 55) B dX12_weight_100 (by decide) ?_
                      first
                        | exact absurd c86 c69
                        | exact absurd c69 c86
                        | exact mu_fg (ihl () (by omega) (by rw [en_neg hnf]; exact hle)) rfl (by rw [en_neg hnf, show ((l + 1 : Nat) : Int) = (l : Int) + 1 by omega, Int.sub_zero]; exact ⟨Or.inl rfl, Or.inl rfl, Or.inl rfl, Or.inl rfl, Or.inl rfl, Or.inl rfl, Or.inl rfl, Or.inr rfl, Or.inr rfl, Or.inr rfl, Or.inr rfl, Or.inr rfl, trivial⟩)
                        | exact mu_fg (ihl () (by omega) (by rw [en_pos hnf]; omega)) rfl (by rw [en_pos hnf, show ((l + 1 : Nat) : Int) = (l : Int) + 1 by omega, show (kk : Int) - ((en_c (FREE (CW (rs k0))) l + 1 : Nat) : Int) = (kk : Int) - (en_c (FREE (CW (rs k0))) l : Int) - 1 by omega]; exact ⟨Or.inl rfl, Or.inl rfl, Or.inl rfl, Or.inl rfl, Or.inl rfl, Or.inl rfl, Or.inl rfl, Or.inr rfl, Or.inr rfl, Or.inr rfl, Or.inr rfl, Or.inr rfl, trivial⟩)
            exact mu_fg (LLl 0 () (Nat.zero_le _) (Nat.zero_le _)) rfl (by rw [show en_c (FREE (CW (rs k0))) 0 = 0 from rfl, Int.natCast_zero, Int.sub_zero]; exact ⟨Or.inl rfl, Or.inl rfl, Or.inl rfl, Or.inl rfl, Or.inl rfl, Or.inl rfl, Or.inl rfl, Or.inr rfl, Or.inr rfl, Or.inr rfl, Or.inr rfl, Or.inr rfl, trivial⟩)
          · try rw [mI_lt ⟨by omega, by omega⟩ ⟨by omega, by omega⟩] at c31
            refine mu_iconst (v := mI 0) B dX12_weight_34 rfl ?_
            refine mu_iret E rfl (by decide) (by decide) dX12_weight_35 ?_
            refine ⟨mu_Fi.refl _, fun _ => rfl, fun hh => ?_⟩
            first
              | exact absurd hh.1 z5
              | (rw [Int.toNat_natCast] at hh; exfalso; omega)
