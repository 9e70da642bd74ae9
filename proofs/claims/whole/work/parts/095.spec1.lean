/-! ===== worlds that differ by ints; the tape and the rules' texts, as whole numbers ===== -/
theorem mu_ext {w w' : mu_W} (h1 : mu_nx w = mu_nx w') (h2 : ∀ a, mu_kd w a = mu_kd w' a) (h3 : ∀ a j, mu_iv w a j = mu_iv w' a j) (h4 : ∀ a j, mu_lg w a j = mu_lg w' a j) (h5 : ∀ a j, mu_rv w a j = mu_rv w' a j) : w = w' := by
  obtain ⟨a1, a2, a3, a4, a5⟩ := w
  obtain ⟨b1, b2, b3, b4, b5⟩ := w'
  have e2 : a2 = b2 := funext h2
  have e3 : a3 = b3 := funext fun a => funext (h3 a)
  have e4 : a4 = b4 := funext fun a => funext (h4 a)
  have e5 : a5 = b5 := funext fun a => funext (h5 a)
  have e1 : a1 = b1 := h1
  rw [e1, e2, e3, e4, e5]
theorem mu_si_si (w : mu_W) (a k : Nat) (x y : Int32) : mu_si (mu_si w a k x) a k y = mu_si w a k y := mu_ext rfl (fun _ => rfl) (fun b j => by
  simp only [mu_iv_si]
  by_cases h : b = a ∧ j = k
  · rw [if_pos h, if_pos h]
  · rw [if_neg h, if_neg h, if_neg h]) (fun _ _ => rfl) (fun _ _ => rfl)
theorem mu_si_comm (w : mu_W) {a k b j : Nat} (x y : Int32) (h : ¬ (a = b ∧ k = j)) : mu_si (mu_si w a k x) b j y = mu_si (mu_si w b j y) a k x := mu_ext rfl (fun _ => rfl) (fun c i => by
  simp only [mu_iv_si]
  by_cases h1 : c = a ∧ i = k
  · by_cases h2 : c = b ∧ i = j
    · exact absurd ⟨h1.1.symm.trans h2.1, h1.2.symm.trans h2.2⟩ h
    · rw [if_neg h2, if_pos h1, if_pos h1]
  · by_cases h2 : c = b ∧ i = j
    · rw [if_pos h2, if_neg h1, if_pos h2]
    · rw [if_neg h2, if_neg h1, if_neg h1, if_neg h2]) (fun _ _ => rfl) (fun _ _ => rfl)
theorem mu_si_self (w : mu_W) {a k : Nat} {x : Int32} (h : mu_iv w a k = x) : mu_si w a k x = w := mu_ext rfl (fun _ => rfl) (fun c i => by
  rw [mu_iv_si]
  by_cases h1 : c = a ∧ i = k
  · rw [if_pos h1, h1.1, h1.2, h]
  · rw [if_neg h1]) (fun _ _ => rfl) (fun _ _ => rfl)
theorem mu_iv_same (w : mu_W) (a k : Nat) (x : Int32) : mu_iv (mu_si w a k x) a k = x := by rw [mu_iv_si, if_pos ⟨rfl, rfl⟩]
theorem mu_iv_oth (w : mu_W) {a k b j : Nat} (x : Int32) (h : ¬ (b = a ∧ j = k)) : mu_iv (mu_si w a k x) b j = mu_iv w b j := by rw [mu_iv_si, if_neg h]
theorem mI_or {a b : Nat} (ha : a < 2147483648) (hb : b < 2147483648) : mI (a : Int) ||| mI (b : Int) = mI ((a ||| b : Nat) : Int) := by
  rw [← mI_nat, ← mI_nat, ← mI_nat]
  apply Int32.toBitVec_inj.mp
  show BitVec.ofNat 32 a ||| BitVec.ofNat 32 b = BitVec.ofNat 32 (a ||| b)
  apply BitVec.eq_of_toNat_eq
  have h3 : a ||| b < 2 ^ 31 := Nat.or_lt_two_pow (by omega) (by omega)
  simp only [BitVec.toNat_or, BitVec.toNat_ofNat]
  rw [Nat.mod_eq_of_lt (by omega), Nat.mod_eq_of_lt (by omega), Nat.mod_eq_of_lt (by omega)]
/-- the tape's byte, -1 behind its end -/
def tb (n : Nat) (tp : Nat → Nat) (i : Nat) : Int := if i < n then (tp i : Int) else -1
def tp_ok (n : Nat) (tp : Nat → Nat) : Prop := n ≤ 2000 ∧ ∀ j, j < n → tp j < 256
theorem tb_bd {n : Nat} {tp : Nat → Nat} (h : tp_ok n tp) (i : Nat) : -1 ≤ tb n tp i ∧ tb n tp i < 256 := by
  unfold tb
  by_cases hi : i < n
  · rw [if_pos hi]; have := h.2 i hi; omega
  · rw [if_neg hi]; omega
theorem tb_in {n : Nat} {tp : Nat → Nat} {i : Nat} (h : 0 ≤ tb n tp i) : i < n := by
  unfold tb at h
  by_cases hi : i < n
  · exact hi
  · rw [if_neg hi] at h; omega
/-- rising digits from a place on: where they end, and their set -/
def sp_dg (b : Nat → Int) : Nat → Nat → Nat → Nat → Nat × Nat
  | 0, p, _, t => (p, t)
  | f + 1, p, le, t => if 48 + (le : Int) ≤ b p ∧ b p ≤ 56 then sp_dg b f (p + 1) ((b p - 48).toNat + 1) (t ||| 2 ^ (b p - 48).toNat) else (p, t)
theorem sp_dg_stop (b : Nat → Int) (f p le t : Nat) (h : ¬ (48 + (le : Int) ≤ b p ∧ b p ≤ 56)) : sp_dg b f p le t = (p, t) := by
  cases f with
  | zero => rfl
  | succ f => rw [sp_dg, if_neg h]
def sp_nb (c : Int) : Nat := if c = 77 then 8 else if c = 86 then 4 else if c = 88 then 6 else 0
/-- a count rule's text: whether it is one so far, the place, the neighbourhood, BORN, STAYS -/
def sp_cnt (b : Nat → Int) : Bool × Nat × Nat × Nat × Nat :=
  if b 0 ≠ 66 then (false, 0, 0, 0, 0) else
  if b (sp_dg b 9 1 0 0).1 ≠ 47 then (false, (sp_dg b 9 1 0 0).1, 0, 0, 0) else
  if b ((sp_dg b 9 1 0 0).1 + 1) ≠ 83 then (false, (sp_dg b 9 1 0 0).1 + 1, 0, 0, 0) else
  if b (sp_dg b 9 ((sp_dg b 9 1 0 0).1 + 2) 0 0).1 ≠ 47 then (false, (sp_dg b 9 ((sp_dg b 9 1 0 0).1 + 2) 0 0).1, 0, 0, 0) else
  if sp_nb (b ((sp_dg b 9 ((sp_dg b 9 1 0 0).1 + 2) 0 0).1 + 1)) = 0 ∨ ((sp_dg b 9 1 0 0).2 ||| (sp_dg b 9 ((sp_dg b 9 1 0 0).1 + 2) 0 0).2) / 2 ^ (sp_nb (b ((sp_dg b 9 ((sp_dg b 9 1 0 0).1 + 2) 0 0).1 + 1)) + 1) ≠ 0
    then (false, (sp_dg b 9 ((sp_dg b 9 1 0 0).1 + 2) 0 0).1 + 1, 0, 0, 0) else
  (true, (sp_dg b 9 ((sp_dg b 9 1 0 0).1 + 2) 0 0).1 + 2, sp_nb (b ((sp_dg b 9 ((sp_dg b 9 1 0 0).1 + 2) 0 0).1 + 1)), (sp_dg b 9 1 0 0).2, (sp_dg b 9 ((sp_dg b 9 1 0 0).1 + 2) 0 0).2)
/-- digits below s from a place on, at most N: where they end -/
def sp_run (b : Nat → Int) (s : Nat) : Nat → Nat → Nat
  | 0, p => p
  | N + 1, p => if 48 ≤ b p ∧ b p < 48 + s then sp_run b s N (p + 1) else p
def sp_S (b : Nat → Int) : Nat := if 50 ≤ b 1 ∧ b 1 ≤ 52 then (b 1 - 48).toNat else 0
/-- a block rule's text: whether it is one so far, the place, S -/
def sp_blk (b : Nat → Int) : Bool × Nat × Nat :=
  if b 0 ≠ 75 then (false, 0, 0) else
  if sp_S b = 0 then (false, 1, 0) else
  if sp_run b (sp_S b) (4 * (sp_S b * sp_S b * sp_S b * sp_S b)) 2 < 2 + 4 * (sp_S b * sp_S b * sp_S b * sp_S b) then (false, sp_run b (sp_S b) (4 * (sp_S b * sp_S b * sp_S b * sp_S b)) 2, 0) else
  (true, 2 + 4 * (sp_S b * sp_S b * sp_S b * sp_S b), sp_S b)
/-- what block k becomes, by its four digits -/
def sp_be (b : Nat → Int) (s k : Nat) : Nat := (((b (2 + 4 * k) - 48).toNat * s + (b (2 + 4 * k + 1) - 48).toNat) * s + (b (2 + 4 * k + 2) - 48).toNat) * s + (b (2 + 4 * k + 3) - 48).toNat
