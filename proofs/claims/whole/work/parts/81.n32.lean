/-! ===== the class's searches: cells, bits, what is skipped ===== -/
abbrev mu_CL : Type := Nat → Nat × Nat × Nat
def cl_o (c : mu_CL) (k : Nat) : Nat := (c k).1
def cl_n (c : mu_CL) (k : Nat) : Nat := (c k).2.1
def cl_d (c : mu_CL) (k : Nat) : Nat := (c k).2.2
/-- a cell after a step -/
def nxc (bo st ow ne p : Nat) : Nat := (if p &&& ow = 0 then bo else st) / 2 ^ pcn 32 (p &&& ne) % 2
def LW (m b : Nat) : Prop := m.testBit b = true ∧ ∀ i, i < b → m.testBit i = false
def agc (bo st : Nat) (c : mu_CL) (k p : Nat) : Prop := nxc bo st (cl_o c k) (cl_n c k) p = (if cl_d c k = 2 then (if p &&& cl_o c k = 0 then 0 else 1) else cl_d c k)
def agB (bo st Kc : Nat) (c : mu_CL) (b p : Nat) : Prop := ∀ k, k < Kc → cl_d c k ≠ 3 → LW (cl_o c k ||| cl_n c k) b → agc bo st c k p
def okP (bo st Kc : Nat) (c : mu_CL) (bits p : Nat) : Prop := ∀ b, b < bits → agB bo st Kc c b p
theorem tb_div (p b i : Nat) (h : b ≤ i) : p.testBit i = (p / 2 ^ b).testBit (i - b) := by
  rw [← Nat.shiftRight_eq_div_pow, Nat.testBit_shiftRight, show b + (i - b) = i by omega]
theorem and_dep {p q m b : Nat} (h : p / 2 ^ b = q / 2 ^ b) (hm : ∀ i, i < b → m.testBit i = false) : p &&& m = q &&& m := by
  apply Nat.eq_of_testBit_eq
  intro i
  rw [Nat.testBit_and, Nat.testBit_and]
  by_cases hi : i < b
  · rw [hm i hi, Bool.and_false, Bool.and_false]
  · rw [tb_div p b i (by omega), tb_div q b i (by omega), h]
theorem LW.l {x y b : Nat} (h : LW (x ||| y) b) : (∀ i, i < b → x.testBit i = false) ∧ ∀ i, i < b → y.testBit i = false := by
  refine ⟨fun i hi => ?_, fun i hi => ?_⟩
  · have := h.2 i hi
    rw [Nat.testBit_or, Bool.or_eq_false_iff] at this
    exact this.1
  · have := h.2 i hi
    rw [Nat.testBit_or, Bool.or_eq_false_iff] at this
    exact this.2
theorem agc_dep {bo st : Nat} {c : mu_CL} {k p q b : Nat} (h : p / 2 ^ b = q / 2 ^ b) (hl : LW (cl_o c k ||| cl_n c k) b) (ha : agc bo st c k p) : agc bo st c k q := by
  unfold agc nxc at *
  rw [← and_dep h hl.l.1, ← and_dep h hl.l.2]
  exact ha
theorem agB_dep {bo st Kc : Nat} {c : mu_CL} {b p q : Nat} (h : p / 2 ^ b = q / 2 ^ b) (ha : agB bo st Kc c b p) : agB bo st Kc c b q := fun k hk hd hl => agc_dep h hl (ha k hk hd hl)
theorem sk_same {p q w : Nat} (h1 : p ≤ q) (h2 : q < (p / 2 ^ w + 1) * 2 ^ w) : p / 2 ^ w = q / 2 ^ w := by
  have a := Nat.div_le_div_right (c := 2 ^ w) h1
  have b := (Nat.div_lt_iff_lt_mul (Nat.two_pow_pos w)).mpr h2
  omega
theorem mod_low {n m : Nat} (h1 : ∀ i, i < m → n.testBit i = true) (h2 : n.testBit m = false) : n % 2 ^ (m + 1) = 2 ^ m - 1 := by
  apply Nat.eq_of_testBit_eq
  intro i
  rw [Nat.testBit_mod_two_pow, Nat.testBit_two_pow_sub_one]
  by_cases hi : i < m
  · rw [h1 i hi, decide_eq_true hi, decide_eq_true (show i < m + 1 by omega)]; rfl
  · rw [decide_eq_false hi]
    by_cases he : i = m
    · rw [he, h2, Bool.and_false]
    · rw [decide_eq_false (show ¬ i < m + 1 by omega), Bool.false_and]
theorem carry {p w ch b : Nat} (hw : w ≤ ch) (h1 : ∀ i, w ≤ i → i < ch → p.testBit i = true) (h2 : p.testBit ch = false) (hb : ch < b) : (p / 2 ^ w + 1) * 2 ^ w / 2 ^ b = p / 2 ^ b := by
  have hn : (p / 2 ^ w) % 2 ^ (ch - w + 1) = 2 ^ (ch - w) - 1 := mod_low (fun i hi => by
    have := h1 (w + i) (by omega) (by omega)
    rw [tb_div p w (w + i) (by omega), Nat.add_sub_cancel_left] at this
    exact this) (by
    rw [tb_div p w ch hw] at h2
    exact h2)
  have e0 : p / 2 ^ b = p / 2 ^ w / 2 ^ (b - w) := by rw [Nat.div_div_eq_div_mul, ← Nat.pow_add, show w + (b - w) = b by omega]
  rw [e0]
  generalize p / 2 ^ w = n at hn ⊢
  have hp := Nat.two_pow_pos (ch - w)
  have hps : 2 ^ (ch - w + 1) = 2 * 2 ^ (ch - w) := by rw [Nat.pow_succ]; omega
  have hd := Nat.div_add_mod n (2 ^ (ch - w + 1))
  have e1 : (n + 1) / 2 ^ (ch - w + 1) = n / 2 ^ (ch - w + 1) := by
    have e2 : n + 1 = 2 ^ (ch - w + 1) * (n / 2 ^ (ch - w + 1)) + 2 ^ (ch - w) := by omega
    rw [e2, Nat.mul_add_div (by omega), Nat.div_eq_of_lt (a := 2 ^ (ch - w)) (by omega), Nat.add_zero]
  have e3 : 2 ^ b = 2 ^ w * 2 ^ (b - w) := by rw [← Nat.pow_add, show w + (b - w) = b by omega]
  have e4 : 2 ^ (b - w) = 2 ^ (ch - w + 1) * 2 ^ (b - ch - 1) := by rw [← Nat.pow_add, show ch - w + 1 + (b - ch - 1) = b - w by omega]
  have e5 : (n + 1) * 2 ^ w / 2 ^ b = (n + 1) / 2 ^ (b - w) := by rw [e3, Nat.mul_comm (n + 1), Nat.mul_div_mul_left _ _ (Nat.two_pow_pos w)]
  rw [e5, e4, ← Nat.div_div_eq_div_mul, e1, Nat.div_div_eq_div_mul]
theorem pcn_16 {x : Nat} (h : x < 65536) : pcn 32 x ≤ 16 := by
  have e := pcn_add 16 16 x
  have z : ∀ n, pcn n 0 = 0 := by
    intro n
    induction n with
    | zero => rfl
    | succ n ih => rw [pcn, ih]
  rw [show x / 2 ^ 16 = 0 from Nat.div_eq_of_lt (by exact h), z] at e
  have := pcn_le 16 (x % 2 ^ 16)
  have e2 : pcn 32 x = pcn (16 + 16) x := rfl
  omega
theorem en_eq {P Q : Nat → Prop} : ∀ {n : Nat}, (∀ j, j < n → (P j ↔ Q j)) → en_c P n = en_c Q n
  | 0, _ => rfl
  | n + 1, h => by
    have ih := en_eq (n := n) (fun j hj => h j (by omega))
    by_cases q : P n
    · rw [en_pos q, en_pos ((h n (by omega)).mp q), ih]
    · rw [en_neg q, en_neg (fun r => q ((h n (by omega)).mpr r)), ih]
theorem en_plus {P : Nat → Prop} {p : Nat} (hp : ¬ P p) : ∀ {n : Nat}, p < n → en_c (fun q => P q ∨ q = p) n = en_c P n + 1
  | 0, h => absurd h (Nat.not_lt_zero _)
  | n + 1, h => by
    by_cases e : p = n
    · subst e
      rw [en_pos (P := fun q => P q ∨ q = p) (Or.inr rfl), en_neg hp]
      congr 1
      exact en_eq (fun j hj => ⟨fun q => q.elim id (fun r => absurd r (by omega)), Or.inl⟩)
    · have ih := en_plus hp (n := n) (by omega)
      by_cases q : P n
      · rw [en_pos (P := fun q => P q ∨ q = p) (Or.inl q), en_pos q, ih]
      · rw [en_neg (P := fun q => P q ∨ q = p) (fun r => r.elim q (fun r => e r.symm)), en_neg q, ih]
theorem pcn_top : ∀ n v, pcn (n + 1) v = pcn n v + (if v.testBit n = true then 1 else 0)
  | 0, v => by
    rw [pcn, pcn, Nat.testBit_zero]
    have := Nat.mod_two_eq_zero_or_one v
    rcases this with h | h <;> rw [h] <;> rfl
  | n + 1, v => by
    have ih := pcn_top n (v / 2)
    rw [pcn, ih, pcn, Nat.testBit_succ]
    omega
theorem en_word {P : Nat → Prop} {b : Nat} : ∀ n v, (∀ i, i < n → (v.testBit i = true ↔ P (b + i))) → en_c P (b + n) = en_c P b + pcn n v
  | 0, v, _ => rfl
  | n + 1, v, h => by
    have e := en_word (P := P) (b := b) n v (fun i hi => h i (by omega))
    have e2 : pcn (n + 1) v = pcn n v + (if v.testBit n = true then 1 else 0) := pcn_top n v
    have e3 := h n (by omega)
    rw [show b + (n + 1) = (b + n) + 1 by omega, e2]
    by_cases q : v.testBit n = true
    · rw [en_pos (e3.mp q), e, if_pos q]; omega
    · rw [en_neg (fun r => q (e3.mpr r)), e, if_neg q]; omega
