theorem en_ext {P Q : Nat → Prop} : ∀ {n : Nat}, (∀ v, v < n → (P v ↔ Q v)) → en_c P n = en_c Q n
  | 0, _ => rfl
  | n + 1, h => by
    have ih := en_ext (n := n) (fun v hv => h v (by omega))
    by_cases q : P n
    · rw [en_pos q, en_pos ((h n (by omega)).mp q), ih]
    · rw [en_neg q, en_neg (fun q2 => q ((h n (by omega)).mpr q2)), ih]
theorem en_not (P : Nat → Prop) : ∀ n, en_c P n + en_c (fun v => ¬ P v) n = n
  | 0 => rfl
  | n + 1 => by
    have ih := en_not P n
    by_cases q : P n
    · rw [en_pos q, en_neg (P := fun v => ¬ P v) (fun q2 => q2 q)]; omega
    · rw [en_neg q, en_pos (P := fun v => ¬ P v) q]; omega
theorem en_add {P : Nat → Prop} {a : Nat} (ha : ¬ P a) : ∀ n, en_c (fun v => P v ∨ v = a) n = en_c P n + (if a < n then 1 else 0)
  | 0 => by rw [if_neg (by omega)]; rfl
  | n + 1 => by
    have ih := en_add ha n
    by_cases q : n = a
    · subst q
      rw [en_pos (P := fun v => P v ∨ v = n) (Or.inr rfl), en_neg ha, ih, if_neg (by omega), if_pos (by omega)]
    · by_cases q2 : P n
      · rw [en_pos (P := fun v => P v ∨ v = a) (Or.inl q2), en_pos q2, ih]
        by_cases q3 : a < n
        · rw [if_pos q3, if_pos (by omega)]
        · rw [if_neg q3, if_neg (by omega)]
      · rw [en_neg (P := fun v => P v ∨ v = a) (fun h => h.elim q2 q), en_neg q2, ih]
        by_cases q3 : a < n
        · rw [if_pos q3, if_pos (by omega)]
        · rw [if_neg q3, if_neg (by omega)]
theorem en_img {pv : Nat → Nat} {S : Nat} : ∀ rr, (∀ i, i < rr → pv i < S) → (∀ i j, i < rr → j < rr → pv i = pv j → i = j) → en_c (fun c => ∃ i, i < rr ∧ pv i = c) S = rr
  | 0, _, _ => en_z (fun v _ ⟨i, hi, _⟩ => absurd hi (Nat.not_lt_zero i))
  | rr + 1, h1, h2 => by
    have ih := en_img (pv := pv) (S := S) rr (fun i hi => h1 i (by omega)) (fun i j hi hj => h2 i j (by omega) (by omega))
    have hn : ¬ ∃ i, i < rr ∧ pv i = pv rr := fun ⟨i, hi, e⟩ => by have := h2 i rr (by omega) (by omega) e; omega
    have e : en_c (fun c => ∃ i, i < rr + 1 ∧ pv i = c) S = en_c (fun c => (fun c => ∃ i, i < rr ∧ pv i = c) c ∨ c = pv rr) S := en_ext (fun v _ => ⟨fun ⟨i, hi, e⟩ => by by_cases q : i = rr; (rw [q] at e; exact Or.inr e.symm); exact Or.inl ⟨i, by omega, e⟩, fun q => q.elim (fun ⟨i, hi, e⟩ => ⟨i, by omega, e⟩) (fun e => ⟨rr, by omega, e.symm⟩)⟩)
    rw [e, en_add (P := fun c => ∃ i, i < rr ∧ pv i = c) hn S, ih, if_pos (h1 rr (by omega))]
def PVr (rr : Nat) (pv : Nat → Nat) : Nat → Prop := fun c => ∃ i, i < rr ∧ pv i = c
theorem RSY.red {r : mu_RS} {rr : Nat} {pv : Nat → Nat} {Rw : Nat → Nat → Int} (h : RSY r (rs_N r) rr pv Rw) : ∃ row : Nat → Nat → Int, RED (rs_S r) (PVr rr pv) row ∧ (∀ i, i < rr → row (pv i) = Rw i) ∧ ∀ x, CW r x ↔ SOL (rs_S r) (PVr rr pv) row x := by
  have hex : ∀ c, ∃ f : Nat → Int, ∀ i, i < rr → pv i = c → f = Rw i := fun c => by
    by_cases q : ∃ i, i < rr ∧ pv i = c
    · obtain ⟨i, hi, e⟩ := q
      exact ⟨Rw i, fun j hj e2 => by rw [h.inj hi hj (e.trans e2.symm)]⟩
    · exact ⟨fun _ => 0, fun i hi e => absurd ⟨i, hi, e⟩ q⟩
  have hrow : ∀ i, i < rr → Classical.choose (hex (pv i)) = Rw i := fun i hi => Classical.choose_spec (hex (pv i)) i hi rfl
  refine ⟨fun c => Classical.choose (hex c), fun p ⟨i, hi, e⟩ => ?_, hrow, fun x => ?_⟩
  · subst e
    obtain ⟨⟨g0, g1⟩, g2, g3, g4, -⟩ := h.2.1 i hi
    rw [hrow i hi]
    refine ⟨g1, g2, g3, fun q hq ⟨j, hj, e⟩ hne => ?_⟩
    subst e
    exact g4 j hj (fun w => hne (by rw [w]))
  · unfold CW
    rw [h.2.2 x]
    constructor
    · rintro q p ⟨i, hi, e⟩
      subst e
      rw [hrow i hi]
      exact q i hi
    · intro q i hi
      have := q (pv i) ⟨i, hi, rfl⟩
      rw [hrow i hi] at this
      exact this
theorem RSY.free {r : mu_RS} {rr : Nat} {pv : Nat → Nat} {Rw : Nat → Nat → Int} (h : RSY r (rs_N r) rr pv Rw) {l : Nat} (hl : l < rs_S r) : FREE (CW r) l ↔ ¬ PVr rr pv l := by
  obtain ⟨row, h1, h2, h3⟩ := h.red
  exact h1.free h3 hl
theorem RSY.count {r : mu_RS} {rr : Nat} {pv : Nat → Nat} {Rw : Nat → Nat → Int} (h : RSY r (rs_N r) rr pv Rw) : en_c (FREE (CW r)) (rs_S r) + rr = rs_S r := by
  have e1 : en_c (FREE (CW r)) (rs_S r) = en_c (fun v => ¬ PVr rr pv v) (rs_S r) := en_ext (fun v hv => h.free hv)
  have e2 := en_not (PVr rr pv) (rs_S r)
  have e3 := en_img (pv := pv) (S := rs_S r) rr (fun i hi => (h.2.1 i hi).1.2) (fun i j hi hj e => h.inj hi hj e)
  have e4 : en_c (PVr rr pv) (rs_S r) = rr := e3
  omega
/-- the common multiple of the first i pivots -/
def wl (pv : Nat → Nat) (Rw : Nat → Nat → Int) : Nat → Nat
  | 0 => 1
  | i + 1 => wl pv Rw i / Nat.gcd (wl pv Rw i) (Rw i (pv i)).natAbs * (Rw i (pv i)).natAbs
theorem wl_ok {pv : Nat → Nat} {Rw : Nat → Nat → Int} {B : Nat} : ∀ i, (∀ j, j < i → Rw j (pv j) ≠ 0 ∧ (Rw j (pv j)).natAbs ≤ B) → 1 ≤ wl pv Rw i ∧ wl pv Rw i ≤ B ^ i ∧ ∀ j, j < i → (Rw j (pv j)).natAbs ∣ wl pv Rw i
  | 0, _ => ⟨Nat.le_refl _, Nat.le_refl _, fun j hj => absurd hj (Nat.not_lt_zero j)⟩
  | i + 1, h => by
    obtain ⟨h1, h2, h3⟩ := wl_ok i (fun j hj => h j (by omega))
    obtain ⟨g1, g2⟩ := h i (by omega)
    rw [wl]
    have g3 : 1 ≤ (Rw i (pv i)).natAbs := by omega
    generalize wl pv Rw i = W at *
    generalize hg : (Rw i (pv i)).natAbs = g at *
    have hd1 := Nat.gcd_dvd_left W g
    have hd2 := Nat.gcd_dvd_right W g
    have hdp : 0 < Nat.gcd W g := Nat.gcd_pos_of_pos_left g (by omega)
    have hq : 1 ≤ W / Nat.gcd W g := Nat.div_pos (Nat.le_of_dvd (by omega) hd1) hdp
    have hWd : W ∣ W / Nat.gcd W g * g := by
      obtain ⟨t, ht⟩ := hd2
      refine ⟨t, ?_⟩
      have e1 : W / Nat.gcd W g * (Nat.gcd W g * t) = W * t := by rw [← Nat.mul_assoc, Nat.div_mul_cancel hd1]
      rw [← ht] at e1
      exact e1
    refine ⟨?_, ?_, fun j hj => ?_⟩
    · have := Nat.mul_le_mul hq g3; omega
    · rw [Nat.pow_succ]; exact Nat.mul_le_mul (Nat.le_trans (Nat.div_le_self _ _) h2) g2
    · by_cases e : j = i
      · rw [e, hg]; exact Nat.dvd_mul_left _ _
      · exact Nat.dvd_trans (h3 j (by omega)) hWd
