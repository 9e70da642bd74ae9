/-! ===== the class's searches: cells sorted by their lowest bit ===== -/
theorem LW.uniq {m b b' : Nat} (h : LW m b) (h' : LW m b') : b = b' := by
  by_cases q : b < b'
  · have := h'.2 b q; rw [h.1] at this; cases this
  · by_cases q2 : b' < b
    · have := h.2 b' q2; rw [h'.1] at this; cases this
    · omega
theorem LW.pos {m b : Nat} (h : LW m b) : m ≠ 0 := fun e => by have := h.1; rw [e, Nat.zero_testBit] at this; cases this
theorem LW.ex {m n : Nat} (h0 : m ≠ 0) (hn : m < 2 ^ n) : ∃ k, k < n ∧ LW m k := by
  have : ∀ j, (∃ k, k < j ∧ LW m k) ∨ ∀ i, i < j → m.testBit i = false := by
    intro j
    induction j with
    | zero => exact Or.inr (fun i hi => absurd hi (Nat.not_lt_zero i))
    | succ j ih =>
      rcases ih with ⟨k, h1, h2⟩ | h1
      · exact Or.inl ⟨k, by omega, h2⟩
      · by_cases q : m.testBit j = true
        · exact Or.inl ⟨j, by omega, q, h1⟩
        · refine Or.inr (fun i hi => ?_)
          by_cases e : i = j
          · rw [e]; exact Bool.eq_false_iff.mpr q
          · exact h1 i (by omega)
  rcases this n with h1 | h1
  · exact h1
  · refine absurd (Nat.eq_of_testBit_eq (fun i => ?_)) h0
    rw [Nat.zero_testBit]
    by_cases hi : i < n
    · exact h1 i hi
    · exact Nat.testBit_lt_two_pow (Nat.lt_of_lt_of_le hn (Nat.pow_le_pow_right (by decide) (by omega)))
theorem LW.sub {m k : Nat} (h : LW m k) : (m - 1) % 2 ^ (k + 1) = 2 ^ k - 1 ∧ (m - 1) / 2 ^ (k + 1) = m / 2 ^ (k + 1) := by
  have hmod : m % 2 ^ (k + 1) = 2 ^ k := by
    apply Nat.eq_of_testBit_eq
    intro i
    rw [Nat.testBit_mod_two_pow, Nat.testBit_two_pow]
    by_cases e1 : i = k
    · rw [e1, h.1]; simp
    · by_cases e2 : i < k
      · rw [h.2 i e2]; simp [Ne.symm e1]
      · simp [show ¬ i < k + 1 by omega, Ne.symm e1]
  have hp : 0 < 2 ^ k := Nat.two_pow_pos k
  have hd := Nat.div_add_mod m (2 ^ (k + 1))
  rw [hmod] at hd
  have hps : 2 ^ (k + 1) = 2 ^ k * 2 := Nat.pow_succ 2 k
  have e : m - 1 = 2 ^ (k + 1) * (m / 2 ^ (k + 1)) + (2 ^ k - 1) := by omega
  refine ⟨?_, ?_⟩
  · rw [e, Nat.mul_add_mod, Nat.mod_eq_of_lt (by omega)]
  · rw [e, Nat.mul_add_div (by omega), Nat.div_eq_of_lt (a := 2 ^ k - 1) (by omega), Nat.add_zero]
theorem low_and {m b : Nat} (hm : m < 65536) (hb : b < 16) : (mI (m : Int) &&& mI (-(m : Int)) = mI ((2 ^ b : Nat) : Int)) ↔ LW m b := by
  have h2b : 2 ^ b < 65536 := Nat.pow_lt_pow_right (by decide) hb
  have hin : ∀ x : Int32, x = mI ((2 ^ b : Nat) : Int) ↔ ui x = 2 ^ b := fun x => by
    constructor
    · intro e; rw [e, ui_mI (by omega)]
    · intro e
      apply Int32.toBitVec_inj.mp
      apply BitVec.eq_of_toNat_eq
      exact e.trans (ui_mI (by omega)).symm
  rw [hin, ui_and, ui_mI (by omega)]
  by_cases h0 : m = 0
  · subst h0
    rw [Nat.zero_and]
    constructor
    · intro e; have := Nat.two_pow_pos b; omega
    · intro h; exact absurd rfl h.pos
  · obtain ⟨k, hk, hl⟩ := LW.ex (n := 16) h0 hm
    have hneg : ui (mI (-(m : Int))) = 2 ^ 32 - ((m - 1) + 1) := by
      unfold ui
      rw [mI_bv]
      omega
    have hv : m &&& ui (mI (-(m : Int))) = 2 ^ k := by
      rw [hneg]
      apply Nat.eq_of_testBit_eq
      intro i
      rw [Nat.testBit_and, Nat.testBit_two_pow_sub_succ (by omega), Nat.testBit_two_pow]
      by_cases e1 : i = k
      · subst e1
        have : (m - 1).testBit i = false := by
          have e2 : (m - 1).testBit i = ((m - 1) % 2 ^ (i + 1)).testBit i := by rw [Nat.testBit_mod_two_pow]; simp
          rw [e2, hl.sub.1]
          exact Nat.testBit_lt_two_pow (by have := Nat.two_pow_pos i; omega)
        rw [hl.1, this, decide_eq_true (show i < 32 by omega)]; simp
      · by_cases e2 : i < k
        · rw [hl.2 i e2]; simp [Ne.symm e1]
        · have e3 : (m - 1).testBit i = m.testBit i := by
            rw [tb_div (m - 1) (k + 1) i (by omega), tb_div m (k + 1) i (by omega), hl.sub.2]
          rw [e3]
          cases m.testBit i <;> simp [Ne.symm e1]
    rw [hv]
    constructor
    · intro e
      have : k = b := (Nat.pow_right_inj (a := 2) (by decide)).mp e
      rw [← this]; exact hl
    · intro h
      rw [hl.uniq h]
def mm (c : mu_CL) (k : Nat) : Nat := cl_o c k ||| cl_n c k
def SRT (Kc : Nat) (c : mu_CL) (b n : Nat) (sb od : Nat → Nat) : Prop := (∀ b', b' ≤ b → sb b' ≤ n) ∧ sb b = n ∧ (∀ s, s < n → od s < Kc ∧ ∃ b', b' < b ∧ LW (mm c (od s)) b') ∧ (∀ s1 s2, s1 < n → s2 < n → od s1 = od s2 → s1 = s2) ∧
  (∀ b' k, b' < b → k < Kc → cl_d c k ≠ 3 → LW (mm c k) b' → ∃ s, sb b' ≤ s ∧ s < sb (b' + 1) ∧ od s = k) ∧ ∀ b' s, b' < b → sb b' ≤ s → s < sb (b' + 1) → od s < Kc ∧ cl_d c (od s) ≠ 3 ∧ LW (mm c (od s)) b'
def SRI (Kc : Nat) (c : mu_CL) (b n0 k n : Nat) (od0 od : Nat → Nat) : Prop := n0 ≤ n ∧ (∀ s, s < n0 → od s = od0 s) ∧ (∀ s, n0 ≤ s → s < n → od s < k ∧ cl_d c (od s) ≠ 3 ∧ LW (mm c (od s)) b) ∧ (∀ k', k' < k → cl_d c k' ≠ 3 → LW (mm c k') b → ∃ s, n0 ≤ s ∧ s < n ∧ od s = k') ∧ ∀ s1 s2, s1 < n → s2 < n → od s1 = od s2 → s1 = s2
theorem SRI.skip {Kc : Nat} {c : mu_CL} {b n0 k n : Nat} {od0 od : Nat → Nat} (h : SRI Kc c b n0 k n od0 od) (hn : ¬ (cl_d c k ≠ 3 ∧ LW (mm c k) b)) : SRI Kc c b n0 (k + 1) n od0 od := by
  obtain ⟨h1, h2, h3, h4, h5⟩ := h
  refine ⟨h1, h2, fun s g1 g2 => ⟨Nat.lt_succ_of_lt (h3 s g1 g2).1, (h3 s g1 g2).2⟩, fun k' g1 g2 g3 => ?_, h5⟩
  by_cases e : k' = k
  · rw [e] at g2 g3; exact absurd ⟨g2, g3⟩ hn
  · exact h4 k' (by omega) g2 g3
theorem SRI.new {Kc : Nat} {c : mu_CL} {b n0 k n : Nat} {sb od0 od : Nat → Nat} (hT : SRT Kc c b n0 sb od0) (h : SRI Kc c b n0 k n od0 od) (hl : LW (mm c k) b) {s : Nat} (hs : s < n) : od s ≠ k := fun e => by
  obtain ⟨h1, h2, h3, h4, h5⟩ := h
  by_cases q : s < n0
  · obtain ⟨-, b', g1, g2⟩ := hT.2.2.1 s q
    rw [← h2 s q, e] at g2
    have := hl.uniq g2
    omega
  · have := (h3 s (by omega) hs).1
    omega
theorem SRI.lt {Kc : Nat} {c : mu_CL} {b n0 k n : Nat} {sb od0 od : Nat → Nat} (hT : SRT Kc c b n0 sb od0) (h : SRI Kc c b n0 k n od0 od) (hk : k < Kc) (hl : LW (mm c k) b) : n < Kc := by
  have hnew := fun s (hs : s < n) => SRI.new hT h hl hs
  have hlt : ∀ s, s < n → od s < Kc := fun s hs => by
    by_cases q : s < n0
    · rw [h.2.1 s q]; exact (hT.2.2.1 s q).1
    · have := (h.2.2.1 s (by omega) hs).1; omega
  have := pg_le (a := n + 1) (b := Kc) (f := fun s => if s = n then k else od s) (fun j hj => by
    show (if j = n then k else od j) < Kc
    by_cases e : j = n
    · rw [if_pos e]; exact hk
    · rw [if_neg e]; exact hlt j (by omega)) (fun x y hx hy e => by
    have e' : (if x = n then k else od x) = (if y = n then k else od y) := e
    by_cases q1 : x = n
    · by_cases q2 : y = n
      · omega
      · rw [if_pos q1, if_neg q2] at e'; exact absurd e'.symm (hnew y (by omega))
    · by_cases q2 : y = n
      · rw [if_neg q1, if_pos q2] at e'; exact absurd e' (hnew x (by omega))
      · rw [if_neg q1, if_neg q2] at e'; exact h.2.2.2.2 x y (by omega) (by omega) e')
  omega
theorem SRI.add {Kc : Nat} {c : mu_CL} {b n0 k n : Nat} {sb od0 od : Nat → Nat} (hT : SRT Kc c b n0 sb od0) (h : SRI Kc c b n0 k n od0 od) (hd : cl_d c k ≠ 3) (hl : LW (mm c k) b) : SRI Kc c b n0 (k + 1) (n + 1) od0 (rs_up od n k) := by
  have hnew := fun s (hs : s < n) => SRI.new hT h hl hs
  obtain ⟨h1, h2, h3, h4, h5⟩ := h
  have e1 : rs_up od n k n = k := by unfold rs_up; rw [if_pos rfl]
  have e2 : ∀ s, s ≠ n → rs_up od n k s = od s := fun s hs => by unfold rs_up; rw [if_neg hs]
  refine ⟨by omega, fun s hs => by rw [e2 s (by omega)]; exact h2 s hs, fun s g1 g2 => ?_, fun k' g1 g2 g3 => ?_, fun s1 s2 g1 g2 g3 => ?_⟩
  · by_cases q : s = n
    · rw [q, e1]; exact ⟨Nat.lt_succ_self _, hd, hl⟩
    · rw [e2 s q]; exact ⟨Nat.lt_succ_of_lt (h3 s g1 (by omega)).1, (h3 s g1 (by omega)).2⟩
  · by_cases q : k' = k
    · exact ⟨n, h1, Nat.lt_succ_self _, by rw [e1, q]⟩
    · obtain ⟨s, a1, a2, a3⟩ := h4 k' (by omega) g2 g3
      exact ⟨s, a1, by omega, by rw [e2 s (by omega)]; exact a3⟩
  · by_cases q1 : s1 = n
    · by_cases q2 : s2 = n
      · omega
      · rw [q1, e1, e2 s2 q2] at g3; exact absurd g3.symm (hnew s2 (by omega))
    · by_cases q2 : s2 = n
      · rw [q2, e1, e2 s1 q1] at g3; exact absurd g3 (hnew s1 (by omega))
      · rw [e2 s1 q1, e2 s2 q2] at g3; exact h5 s1 s2 (by omega) (by omega) g3
theorem SRI.done {Kc : Nat} {c : mu_CL} {b n0 n : Nat} {sb od0 od : Nat → Nat} (hT : SRT Kc c b n0 sb od0) (h : SRI Kc c b n0 Kc n od0 od) : SRT Kc c (b + 1) n (rs_up sb (b + 1) n) od := by
  obtain ⟨h1, h2, h3, h4, h5⟩ := h
  obtain ⟨t1, t2, t3, t4, t5, t6⟩ := hT
  have e1 : rs_up sb (b + 1) n (b + 1) = n := by unfold rs_up; rw [if_pos rfl]
  have e2 : ∀ s, s ≤ b → rs_up sb (b + 1) n s = sb s := fun s hs => by unfold rs_up; rw [if_neg (by omega)]
  refine ⟨fun b' hb => ?_, e1, fun s hs => ?_, h5, fun b' k g1 g2 g3 g4 => ?_, fun b' s g1 g2 g3 => ?_⟩
  · by_cases q : b' = b + 1
    · rw [q, e1]; exact Nat.le_refl _
    · rw [e2 b' (by omega)]; exact Nat.le_trans (t1 b' (by omega)) h1
  · by_cases q : s < n0
    · obtain ⟨a1, b', a2, a3⟩ := t3 s q
      rw [h2 s q]; exact ⟨a1, b', by omega, a3⟩
    · obtain ⟨a1, a2, a3⟩ := h3 s (by omega) hs
      exact ⟨a1, b, by omega, a3⟩
  · by_cases q : b' = b
    · subst q
      obtain ⟨s, a1, a2, a3⟩ := h4 k g2 g3 g4
      exact ⟨s, by rw [e2 b' (Nat.le_refl _), t2]; exact a1, by rw [e1]; exact a2, a3⟩
    · obtain ⟨s, a1, a2, a3⟩ := t5 b' k (by omega) g2 g3 g4
      have a4 := t1 (b' + 1) (by omega)
      exact ⟨s, by rw [e2 b' (by omega)]; exact a1, by rw [e2 (b' + 1) (by omega)]; exact a2, by rw [h2 s (by omega)]; exact a3⟩
  · by_cases q : b' = b
    · subst q
      rw [e2 b' (Nat.le_refl _), t2] at g2
      rw [e1] at g3
      exact h3 s g2 g3
    · rw [e2 b' (by omega)] at g2
      rw [e2 (b' + 1) (by omega)] at g3
      have a4 := t1 (b' + 1) (by omega)
      rw [h2 s (by omega)]
      exact t6 b' s (by omega) g2 g3
def soS (a : Nat) : Nat → Nat → Prop := fun e _ => e = a + 4 ∨ e = a + 5
/-- what stands in the two arrays -/
def SRm (s : mu_W) (a b n : Nat) (sb od : Nat → Nat) : Prop := (∀ b', b' < b → mu_iv s (a + 5) b' = mI (sb b')) ∧ ∀ q, q < n → mu_iv s (a + 4) q = mI (od q)
