/-! ===== the stepper: a field where a part of the step has been laid, word by word ===== -/
def mxw (c d : Nat → Nat → Nat) (f0 f1 y0 y k : Nat) : Nat → Nat → Nat := fun i j => if f0 ≤ i / 64 ∧ i / 64 ≤ f1 ∧ y0 ≤ j ∧ (j < y ∨ (j = y ∧ i / 64 < k)) then d i j else c i j
theorem mxw_le {c d : Nat → Nat → Nat} (hc : ∀ i j, c i j ≤ 1) (hd : ∀ i j, d i j ≤ 1) {f0 f1 y0 y k : Nat} (i j : Nat) : mxw c d f0 f1 y0 y k i j ≤ 1 := by
  unfold mxw
  by_cases h : f0 ≤ i / 64 ∧ i / 64 ≤ f1 ∧ y0 ≤ j ∧ (j < y ∨ (j = y ∧ i / 64 < k))
  · rw [if_pos h]; exact hd i j
  · rw [if_neg h]; exact hc i j
theorem mxw_start (c d : Nat → Nat → Nat) (f0 f1 y0 : Nat) : mxw c d f0 f1 y0 y0 f0 = c := by
  funext i j
  unfold mxw
  rw [if_neg (by omega)]
theorem mxw_row (c d : Nat → Nat → Nat) (f0 f1 y0 y : Nat) : mxw c d f0 f1 y0 y (f1 + 1) = mxw c d f0 f1 y0 (y + 1) f0 := by
  funext i j
  unfold mxw
  by_cases h : f0 ≤ i / 64 ∧ i / 64 ≤ f1 ∧ y0 ≤ j ∧ (j < y ∨ (j = y ∧ i / 64 < f1 + 1))
  · rw [if_pos h, if_pos (by omega)]
  · rw [if_neg h, if_neg (by omega)]
theorem mxw_word {c d : Nat → Nat → Nat} (hd : ∀ i j, d i j ≤ 1) {f0 f1 y0 y k : Nat} (h0 : f0 ≤ k) (h1 : k ≤ f1) (hy : y0 ≤ y) {x : Int64} (hx : ∀ i, i < 64 → lb x i = decide (d (64 * k + i) y = 1)) : cw (mxw c d f0 f1 y0 y k) y k x = mxw c d f0 f1 y0 y (k + 1) := by
  funext i j
  unfold cw mxw
  by_cases e : j = y ∧ i / 64 = k
  · rw [if_pos e, if_pos (c := f0 ≤ i / 64 ∧ i / 64 ≤ f1 ∧ y0 ≤ j ∧ (j < y ∨ (j = y ∧ i / 64 < k + 1))) (by omega), hx (i % 64) (by omega), show 64 * k + i % 64 = i by omega, e.1]
    have := hd i y
    by_cases e2 : d i y = 1
    · rw [e2]; rfl
    · rw [decide_eq_false e2, if_neg (by decide)]; omega
  · rw [if_neg e]
    by_cases h : f0 ≤ i / 64 ∧ i / 64 ≤ f1 ∧ y0 ≤ j ∧ (j < y ∨ (j = y ∧ i / 64 < k))
    · rw [if_pos h, if_pos (by omega)]
    · rw [if_neg h, if_neg (by omega)]
theorem mxw_below {c d : Nat → Nat → Nat} {f0 f1 y0 y : Nat} {z : Int} (hz : (y : Int) ≤ z) {x : Int} {v : Int64} (h : WDx (mxw c d f0 f1 y0 y f0) x z v) : WDx c x z v := fun i hi => by
  rw [h i hi]
  have e : sp_al 256 256 (mxw c d f0 f1 y0 y f0) (x + (i : Int)) z = sp_al 256 256 c (x + (i : Int)) z := by
    unfold sp_al
    by_cases q : 0 ≤ x + (i : Int) ∧ 0 ≤ z ∧ x + (i : Int) < (256 : Nat) ∧ z < (256 : Nat)
    · rw [if_pos q, if_pos q]
      unfold mxw
      rw [if_neg (by omega)]
    · rw [if_neg q, if_neg q]
  rw [e]
theorem mxw_end {c : Nat → Nat → Nat} (hc : ∀ i j, c i j ≤ 1) {nb bo st : Nat} (hbo : bo % 2 = 0) {L R U D : Int} {M : Nat} (hx : CMx c L R U D M) {x0 x1 y0 y1 : Nat} (h1 : (x0 : Int) = 0 ∨ (x0 : Int) + 1 = L) (h2 : (x1 : Int) = 255 ∨ (x1 : Int) = R + 1) (h3 : (y0 : Int) = 0 ∨ (y0 : Int) + 1 = U) (h4 : (y1 : Int) = 255 ∨ (y1 : Int) = D + 1) {i j : Nat} (hi : i < 256) (hj : j < 256) : mxw c (sp_stp nb bo st c) (x0 / 64) (x1 / 64) y0 (y1 + 1) (x0 / 64) i j = sp_stp nb bo st c i j := by
  unfold mxw
  by_cases h : x0 / 64 ≤ i / 64 ∧ i / 64 ≤ x1 / 64 ∧ y0 ≤ j ∧ (j < y1 + 1 ∨ (j = y1 + 1 ∧ i / 64 < x0 / 64))
  · rw [if_pos h]
  · rw [if_neg h]
    have ho : (i : Int) + 1 < L ∨ R + 1 < (i : Int) ∨ (j : Int) + 1 < U ∨ D + 1 < (j : Int) := by omega
    unfold sp_stp
    rw [if_pos ⟨hi, hj⟩, sp_af_out hc hbo (L := L) (R := R) (U := U) (D := D) (fun i j a1 a2 a3 => (hx.al a1 a2 a3).2) ho]
    have h8 := hc i j
    by_cases h7 : c i j = 1
    · have := hx.al hi hj h7; omega
    · omega
theorem sp_stp_le {nb bo st : Nat} {c : Nat → Nat → Nat} (i j : Nat) : sp_stp nb bo st c i j ≤ 1 := by
  unfold sp_stp
  by_cases h : i < 256 ∧ j < 256
  · rw [if_pos h]; exact sp_af_le
  · rw [if_neg h]; omega
