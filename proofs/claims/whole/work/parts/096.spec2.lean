/-! ===== a rule as a value ===== -/
abbrev mu_RS : Type := Nat × (Nat → Nat) × Nat × Nat × Nat × Nat × (Nat → Nat)
def rs_len (r : mu_RS) : Nat := r.1
def rs_tx (r : mu_RS) : Nat → Nat := r.2.1
def rs_nb (r : mu_RS) : Nat := r.2.2.1
def rs_bo (r : mu_RS) : Nat := r.2.2.2.1
def rs_st (r : mu_RS) : Nat := r.2.2.2.2.1
def rs_S (r : mu_RS) : Nat := r.2.2.2.2.2.1
def rs_be (r : mu_RS) : Nat → Nat := r.2.2.2.2.2.2
def rs_ok (r : mu_RS) : Prop := rs_len r ≤ 2000 ∧ (∀ j, j < rs_len r → rs_tx r j < 128) ∧
  ((rs_nb r = 0 ∧ 2 ≤ rs_S r ∧ rs_S r ≤ 4 ∧ ∀ k, k < rs_S r * rs_S r * rs_S r * rs_S r → rs_be r k < rs_S r * rs_S r * rs_S r * rs_S r) ∨ ((rs_nb r = 4 ∨ rs_nb r = 6 ∨ rs_nb r = 8) ∧ rs_bo r < 2 ^ (rs_nb r + 1) ∧ rs_st r < 2 ^ (rs_nb r + 1)))
def sp_rule (n : Nat) (tp : Nat → Nat) : Bool × Nat × mu_RS :=
  if tb n tp 0 = 75 then ((sp_blk (tb n tp)).1 && decide ((sp_blk (tb n tp)).2.1 = n), (sp_blk (tb n tp)).2.1, (n, tp, 0, 0, 0, (sp_blk (tb n tp)).2.2, sp_be (tb n tp) (sp_blk (tb n tp)).2.2))
  else ((sp_cnt (tb n tp)).1 && decide ((sp_cnt (tb n tp)).2.1 = n), (sp_cnt (tb n tp)).2.1, (n, tp, (sp_cnt (tb n tp)).2.2.1, (sp_cnt (tb n tp)).2.2.2.1, (sp_cnt (tb n tp)).2.2.2.2, 0, fun _ => 0))
theorem sp_run_le (b : Nat → Int) (s : Nat) : ∀ N p, p ≤ sp_run b s N p ∧ sp_run b s N p ≤ p + N
  | 0, p => ⟨Nat.le_refl _, Nat.le_refl _⟩
  | N + 1, p => by
    rw [sp_run]
    have := sp_run_le b s N (p + 1)
    by_cases h : 48 ≤ b p ∧ b p < 48 + s
    · rw [if_pos h]; omega
    · rw [if_neg h]; omega
theorem sp_run_all (b : Nat → Int) (s : Nat) : ∀ N p, sp_run b s N p = p + N → ∀ j, j < N → 48 ≤ b (p + j) ∧ b (p + j) < 48 + s
  | 0, p, _, j, hj => absurd hj (Nat.not_lt_zero j)
  | N + 1, p, h, j, hj => by
    rw [sp_run] at h
    by_cases hc : 48 ≤ b p ∧ b p < 48 + s
    · rw [if_pos hc] at h
      cases j with
      | zero => exact hc
      | succ j =>
        have := sp_run_all b s N (p + 1) (by omega) j (by omega)
        rw [show p + (j + 1) = p + 1 + j by omega]
        exact this
    · rw [if_neg hc] at h; omega
theorem sp_dg_all (b : Nat → Int) : ∀ f p le t, p ≤ (sp_dg b f p le t).1 ∧ ∀ j, p ≤ j → j < (sp_dg b f p le t).1 → 48 ≤ b j ∧ b j ≤ 56
  | 0, p, le, t => ⟨Nat.le_refl _, fun j h1 h2 => absurd h2 (Nat.not_lt.mpr h1)⟩
  | f + 1, p, le, t => by
    rw [sp_dg]
    by_cases hc : 48 + (le : Int) ≤ b p ∧ b p ≤ 56
    · rw [if_pos hc]
      obtain ⟨h1, h2⟩ := sp_dg_all b f (p + 1) ((b p - 48).toNat + 1) (t ||| 2 ^ (b p - 48).toNat)
      refine ⟨by omega, fun j h3 h4 => ?_⟩
      by_cases e : j = p
      · subst e; omega
      · exact h2 j (by omega) h4
    · rw [if_neg hc]
      exact ⟨Nat.le_refl _, fun j h1 h2 => absurd h2 (Nat.not_lt.mpr h1)⟩
theorem sp_S_bd (b : Nat → Int) : sp_S b = 0 ∨ (2 ≤ sp_S b ∧ sp_S b ≤ 4 ∧ b 1 = 48 + sp_S b) := by
  unfold sp_S
  by_cases h : 50 ≤ b 1 ∧ b 1 ≤ 52
  · rw [if_pos h]; omega
  · rw [if_neg h]; exact Or.inl rfl
theorem sp_nb_hi {c : Int} (h : sp_nb c ≠ 0) : 0 ≤ c ∧ c ≤ 88 := by
  unfold sp_nb at h
  by_cases h1 : c = 77
  · omega
  · by_cases h2 : c = 86
    · omega
    · by_cases h3 : c = 88
      · omega
      · simp [h1, h2, h3] at h
theorem sp_nb_in (c : Int) : sp_nb c = 0 ∨ sp_nb c = 4 ∨ sp_nb c = 6 ∨ sp_nb c = 8 := by
  unfold sp_nb
  by_cases h1 : c = 77
  · simp [h1]
  · by_cases h2 : c = 86
    · simp [h2]
    · by_cases h3 : c = 88 <;> simp [h1, h2, h3]
theorem sp_be_lt {b : Nat → Int} {s k : Nat} (hs : 0 < s) (h : ∀ i, i < 4 → 48 ≤ b (2 + 4 * k + i) ∧ b (2 + 4 * k + i) < 48 + s) : sp_be b s k < s * s * s * s := by
  unfold sp_be
  have h0 := h 0 (by decide)
  have h1 := h 1 (by decide)
  have h2 := h 2 (by decide)
  have h3 := h 3 (by decide)
  rw [Nat.add_zero] at h0
  have e0 : (b (2 + 4 * k) - 48).toNat + 1 ≤ s := by omega
  have e1 : (b (2 + 4 * k + 1) - 48).toNat + 1 ≤ s := by omega
  have e2 : (b (2 + 4 * k + 2) - 48).toNat + 1 ≤ s := by omega
  have e3 : (b (2 + 4 * k + 3) - 48).toNat + 1 ≤ s := by omega
  generalize (b (2 + 4 * k) - 48).toNat = d0 at *
  generalize (b (2 + 4 * k + 1) - 48).toNat = d1 at *
  generalize (b (2 + 4 * k + 2) - 48).toNat = d2 at *
  generalize (b (2 + 4 * k + 3) - 48).toNat = d3 at *
  have step : ∀ x d N : Nat, x + 1 ≤ N → d + 1 ≤ s → x * s + d + 1 ≤ N * s := fun x d N hx hd => by
    have := Nat.mul_le_mul_right s hx
    rw [Nat.add_mul] at this
    omega
  exact step _ _ _ (step _ _ _ (step _ _ _ e0 e1) e2) e3
theorem sp_rule_ok {n : Nat} {tp : Nat → Nat} (ht : tp_ok n tp) (hg : (sp_rule n tp).1 = true) : rs_ok (sp_rule n tp).2.2 := by
  have tbt : ∀ j, j < n → tb n tp j = tp j := fun j hj => by unfold tb; rw [if_pos hj]
  unfold sp_rule at hg ⊢
  by_cases h0 : tb n tp 0 = 75
  · rw [if_pos h0] at hg ⊢
    simp only [Bool.and_eq_true, decide_eq_true_eq] at hg
    obtain ⟨hg1, hg2⟩ := hg
    generalize hb : tb n tp = b at *
    unfold sp_blk at hg1 hg2 ⊢
    rw [if_neg (fun q => q h0)] at hg1 hg2 ⊢
    rcases sp_S_bd b with hS | ⟨hS1, hS2, hS3⟩
    · rw [if_pos hS] at hg1; cases hg1
    · rw [if_neg (by omega)] at hg1 hg2 ⊢
      generalize sp_S b = S at *
      by_cases hr : sp_run b S (4 * (S * S * S * S)) 2 < 2 + 4 * (S * S * S * S)
      · rw [if_pos hr] at hg1; cases hg1
      · rw [if_neg hr] at hg2 ⊢
        have hall := sp_run_all b S (4 * (S * S * S * S)) 2 (by have := sp_run_le b S (4 * (S * S * S * S)) 2; omega)
        have hg3 : 2 + 4 * (S * S * S * S) = n := hg2
        refine ⟨ht.1, fun j hj => ?_, Or.inl ⟨rfl, hS1, hS2, fun k hk => ?_⟩⟩
        · show tp j < 128
          have e := tbt j hj
          by_cases j0 : j = 0
          · subst j0; omega
          · by_cases j1 : j = 1
            · subst j1; omega
            · have := hall (j - 2) (by have : j < n := hj; omega)
              rw [show 2 + (j - 2) = j by omega] at this
              omega
        · have hk' : k < S * S * S * S := hk
          show sp_be b S k < S * S * S * S
          refine sp_be_lt (by omega) (fun i hi => ?_)
          have := hall (4 * k + i) (by omega)
          rw [show 2 + 4 * k + i = 2 + (4 * k + i) by omega]
          exact this
  · rw [if_neg h0] at hg ⊢
    simp only [Bool.and_eq_true, decide_eq_true_eq] at hg
    obtain ⟨hg1, hg2⟩ := hg
    generalize hb : tb n tp = b at *
    obtain ⟨hd1, hd2⟩ := sp_dg_all b 9 1 0 0
    obtain ⟨he1, he2⟩ := sp_dg_all b 9 ((sp_dg b 9 1 0 0).1 + 2) 0 0
    unfold sp_cnt at hg1 hg2 ⊢
    generalize sp_dg b 9 1 0 0 = d at *
    generalize sp_dg b 9 (d.1 + 2) 0 0 = e at *
    by_cases c0 : b 0 ≠ 66
    · rw [if_pos c0] at hg1; cases hg1
    rw [if_neg c0] at hg1 hg2 ⊢
    by_cases c1 : b d.1 ≠ 47
    · rw [if_pos c1] at hg1; cases hg1
    rw [if_neg c1] at hg1 hg2 ⊢
    by_cases c2 : b (d.1 + 1) ≠ 83
    · rw [if_pos c2] at hg1; cases hg1
    rw [if_neg c2] at hg1 hg2 ⊢
    by_cases c3 : b e.1 ≠ 47
    · rw [if_pos c3] at hg1; cases hg1
    rw [if_neg c3] at hg1 hg2 ⊢
    by_cases c4 : sp_nb (b (e.1 + 1)) = 0 ∨ (d.2 ||| e.2) / 2 ^ (sp_nb (b (e.1 + 1)) + 1) ≠ 0
    · rw [if_pos c4] at hg1; cases hg1
    rw [if_neg c4] at hg2 ⊢
    have hg3 : e.1 + 2 = n := hg2
    have hnb : sp_nb (b (e.1 + 1)) ≠ 0 := fun q => c4 (Or.inl q)
    have hch := sp_nb_hi hnb
    have hdiv : (d.2 ||| e.2) / 2 ^ (sp_nb (b (e.1 + 1)) + 1) = 0 := by
      by_cases q : (d.2 ||| e.2) / 2 ^ (sp_nb (b (e.1 + 1)) + 1) = 0
      · exact q
      · exact absurd (Or.inr q) c4
    have hlt : d.2 ||| e.2 < 2 ^ (sp_nb (b (e.1 + 1)) + 1) := by
      rcases Nat.div_eq_zero_iff.mp hdiv with q | q
      · exact absurd q (Nat.ne_of_gt (Nat.two_pow_pos _))
      · exact q
    refine ⟨ht.1, fun j hj => ?_, Or.inr ⟨?_, Nat.lt_of_le_of_lt Nat.left_le_or hlt, Nat.lt_of_le_of_lt Nat.right_le_or hlt⟩⟩
    · show tp j < 128
      have hj' : j < n := hj
      have e9 := tbt j hj
      by_cases j0 : j = 0
      · subst j0; omega
      by_cases j1 : j < d.1
      · have := hd2 j (by omega) j1; omega
      by_cases j2 : j = d.1
      · subst j2; omega
      by_cases j3 : j = d.1 + 1
      · subst j3; omega
      by_cases j4 : j < e.1
      · have := he2 j (by omega) j4; omega
      by_cases j5 : j = e.1
      · subst j5; omega
      · have : j = e.1 + 1 := by omega
        subst this; omega
    · have := sp_nb_in (b (e.1 + 1))
      show sp_nb (b (e.1 + 1)) = 4 ∨ sp_nb (b (e.1 + 1)) = 6 ∨ sp_nb (b (e.1 + 1)) = 8
      omega
def rs_up {α : Type} (f : Nat → α) (k : Nat) (v : α) : Nat → α := fun j => if j = k then v else f j
