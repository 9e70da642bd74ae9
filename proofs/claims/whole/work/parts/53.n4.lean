/-! ===== bits counted: bytes ===== -/
theorem nat_and_split (x y : Nat) : x &&& y = (x % 256 &&& y % 256) + 256 * (x / 256 &&& y / 256) := by
  have h1 := Nat.mod_add_div (x &&& y) 256
  have h2 : (x &&& y) % 256 = x % 256 &&& y % 256 := Nat.and_mod_two_pow (n := 8)
  have h3 : (x &&& y) / 256 = x / 256 &&& y / 256 := Nat.and_div_two_pow (n := 8)
  rw [h2, h3] at h1
  exact h1.symm
/-- a mask that repeats a byte -/
def mk8 (b : Nat) : Nat → Nat
  | 0 => 0
  | n + 1 => b + 256 * mk8 b n
def f1 (b : Nat) : Nat := b - (b / 2 &&& 85)
def f2 (b : Nat) : Nat := (b &&& 51) + (b / 4 &&& 51)
def f3 (b : Nat) : Nat := (b + b / 16) &&& 15
def F1 (n x : Nat) : Nat := x - (x / 2 &&& mk8 85 n)
def F2 (n x : Nat) : Nat := (x &&& mk8 51 n) + (x / 4 &&& mk8 51 n)
def F3 (n x : Nat) : Nat := (x + x / 16) &&& mk8 15 n
theorem and_cut (x b M : Nat) (hb : b < 256) : x &&& (b + 256 * M) = (x % 256 &&& b) + 256 * (x / 256 &&& M) := by
  rw [nat_and_split x (b + 256 * M)]
  rw [show (b + 256 * M) % 256 = b by omega, show (b + 256 * M) / 256 = M by omega]
theorem f1_k : ∀ b, b < 256 → ∀ t, t < 2 → ((b / 2 + 128 * t) &&& 85) = (b / 2 &&& 85) := by decide +kernel
theorem f2_k : ∀ b, b < 256 → ∀ t, t < 4 → ((b / 4 + 64 * t) &&& 51) = (b / 4 &&& 51) := by decide +kernel
theorem F1_S (n x : Nat) : F1 (n + 1) x = f1 (x % 256) + 256 * F1 n (x / 256) := by
  unfold F1 f1
  rw [mk8, and_cut _ _ _ (by decide), show x / 2 % 256 = x % 256 / 2 + 128 * (x / 256 % 2) by omega, f1_k _ (by omega) _ (by omega), show x / 2 / 256 = x / 256 / 2 by omega]
  have h1 := Nat.and_le_left (n := x % 256 / 2) (m := 85)
  have h2 := Nat.and_le_left (n := x / 256 / 2) (m := mk8 85 n)
  omega
theorem F2_S (n x : Nat) : F2 (n + 1) x = f2 (x % 256) + 256 * F2 n (x / 256) := by
  unfold F2 f2
  rw [mk8, and_cut _ _ _ (by decide), and_cut _ _ _ (by decide), show x / 4 % 256 = x % 256 / 4 + 64 * (x / 256 % 4) by omega, f2_k _ (by omega) _ (by omega), show x / 4 / 256 = x / 256 / 4 by omega]
  omega
theorem f12_lt : ∀ b, b < 256 → f1 b < 256 ∧ f2 b < 256 := by decide +kernel
/-- bytes mapped -/
def bm (h : Nat → Nat) : Nat → Nat → Nat
  | 0, _ => 0
  | n + 1, x => h (x % 256) + 256 * bm h n (x / 256)
theorem F1_bm : ∀ n x, x < 256 ^ n → F1 n x = bm f1 n x
  | 0, x, h => by rw [Nat.pow_zero] at h; rw [show x = 0 by omega]; rfl
  | n + 1, x, h => by rw [F1_S, bm, F1_bm n (x / 256) (by rw [Nat.pow_succ] at h; omega)]
theorem bm_lt {h : Nat → Nat} (hh : ∀ b, b < 256 → h b < 256) : ∀ n x, bm h n x < 256 ^ n
  | 0, _ => by rw [bm]; decide
  | n + 1, x => by
    rw [bm, Nat.pow_succ]
    have h1 := bm_lt hh n (x / 256)
    have h2 := hh (x % 256) (by omega)
    omega
theorem F2_bm {h : Nat → Nat} (hh : ∀ b, b < 256 → h b < 256) : ∀ n x, F2 n (bm h n x) = bm (fun b => f2 (h b)) n x
  | 0, x => by rw [bm, bm]; rfl
  | n + 1, x => by
    have h2 := hh (x % 256) (by omega)
    rw [F2_S]
    have e1 : bm h (n + 1) x % 256 = h (x % 256) := by rw [bm]; omega
    have e2 : bm h (n + 1) x / 256 = bm h n (x / 256) := by rw [bm]; omega
    rw [e1, e2, F2_bm hh n (x / 256), bm]
def h12 (b : Nat) : Nat := f2 (f1 b)
theorem h12_ok : ∀ b, b < 256 → h12 b < 69 ∧ h12 b % 16 ≤ 4 ∧ f3 (h12 b) ≤ 8 := by decide +kernel
theorem f3_k : ∀ b, b < 69 → ∀ t, t < 5 → ((b + b / 16 + 16 * t) &&& 15) = ((b + b / 16) &&& 15) := by decide +kernel
theorem bm_low (n x : Nat) : bm h12 n x % 16 ≤ 4 := by
  cases n with
  | zero => rw [bm]; decide
  | succ n =>
    rw [bm]
    have := (h12_ok (x % 256) (by omega)).2.1
    omega
theorem F3_bm : ∀ n x, F3 n (bm h12 n x) = bm (fun b => f3 (h12 b)) n x
  | 0, x => by rw [bm, bm]; rfl
  | n + 1, x => by
    have h2 := h12_ok (x % 256) (by omega)
    have h3 := bm_low n (x / 256)
    unfold F3
    rw [mk8, and_cut _ _ _ (by decide)]
    have ih := F3_bm n (x / 256)
    unfold F3 at ih
    have e1 : (bm h12 (n + 1) x + bm h12 (n + 1) x / 16) % 256 = h12 (x % 256) + h12 (x % 256) / 16 + 16 * (bm h12 n (x / 256) % 16) := by rw [bm]; omega
    have e2 : (bm h12 (n + 1) x + bm h12 (n + 1) x / 16) / 256 = bm h12 n (x / 256) + bm h12 n (x / 256) / 16 := by rw [bm]; omega
    rw [e1, e2, f3_k _ (by omega) _ (by omega), ih, bm]
    rfl
/-- the bits of the lowest n -/
def pcn : Nat → Nat → Nat
  | 0, _ => 0
  | n + 1, x => x % 2 + pcn n (x / 2)
theorem pcn_8 : ∀ b, b < 256 → f3 (h12 b) = pcn 8 b := by decide +kernel
theorem pcn_add : ∀ a b x, pcn (a + b) x = pcn a (x % 2 ^ a) + pcn b (x / 2 ^ a)
  | 0, b, x => by rw [Nat.zero_add, pcn, Nat.pow_zero, Nat.div_one, Nat.zero_add]
  | a + 1, b, x => by
    rw [show a + 1 + b = (a + b) + 1 by omega, pcn, pcn, pcn_add a b (x / 2)]
    have e1 : x % 2 ^ (a + 1) % 2 = x % 2 := by rw [Nat.pow_succ, Nat.mod_mul_left_mod]
    have e2 : x % 2 ^ (a + 1) / 2 = x / 2 % 2 ^ a := by rw [Nat.pow_succ, Nat.mul_comm, Nat.mod_mul_right_div_self]
    have e3 : x / 2 / 2 ^ a = x / 2 ^ (a + 1) := by rw [Nat.div_div_eq_div_mul, Nat.pow_succ, Nat.mul_comm]
    rw [e1, e2, e3]
    omega
theorem T_bm {n x : Nat} (h : x < 256 ^ n) : F3 n (F2 n (F1 n x)) = bm (pcn 8) n x := by
  rw [F1_bm n x h, F2_bm (fun b hb => (f12_lt b hb).1) n x]
  have e : bm (fun b => f2 (f1 b)) n x = bm h12 n x := rfl
  rw [e, F3_bm n x]
  have : ∀ n x, bm (fun b => f3 (h12 b)) n x = bm (pcn 8) n x := by
    intro n
    induction n with
    | zero => intro x; rfl
    | succ n ih => intro x; rw [bm, bm, ih, pcn_8 _ (by omega)]
  exact this n x
theorem pcn_le : ∀ n x, pcn n x ≤ n
  | 0, _ => Nat.le_refl _
  | n + 1, x => by rw [pcn]; have := pcn_le n (x / 2); omega
/-- eight bytes' counts added up -/
theorem bc_sum (x i i1 i2 i3 : Nat) (hi : i = bm (pcn 8) 8 x) (h1 : i1 = i + i / 256) (h2 : i2 = i1 + i1 / 65536) (h3 : i3 = i2 + i2 / 4294967296) : i3 % 128 = pcn 64 x ∧ i3 < 18446744073709551616 ∧ i2 < 18446744073709551616 ∧ i1 < 18446744073709551616 := by
  have e : pcn 64 x = pcn 8 (x % 256) + (pcn 8 (x / 256 % 256) + (pcn 8 (x / 256 / 256 % 256) + (pcn 8 (x / 256 / 256 / 256 % 256) + (pcn 8 (x / 256 / 256 / 256 / 256 % 256) + (pcn 8 (x / 256 / 256 / 256 / 256 / 256 % 256) + (pcn 8 (x / 256 / 256 / 256 / 256 / 256 / 256 % 256) + pcn 8 (x / 256 / 256 / 256 / 256 / 256 / 256 / 256 % 256))))))) := by
    rw [show (64 : Nat) = 8 + 56 from rfl, pcn_add 8 56, show (56 : Nat) = 8 + 48 from rfl, pcn_add 8 48, show (48 : Nat) = 8 + 40 from rfl, pcn_add 8 40, show (40 : Nat) = 8 + 32 from rfl, pcn_add 8 32, show (32 : Nat) = 8 + 24 from rfl, pcn_add 8 24, show (24 : Nat) = 8 + 16 from rfl, pcn_add 8 16, show (16 : Nat) = 8 + 8 from rfl, pcn_add 8 8]
    rw [show (2 : Nat) ^ 8 = 256 from rfl]
    congr 7
    rw [show (8 : Nat) = 8 + 0 from rfl, pcn_add 8 0, pcn, Nat.add_zero]
  simp only [bm] at hi
  have q0 := pcn_le 8 (x % 256)
  have q1 := pcn_le 8 (x / 256 % 256)
  have q2 := pcn_le 8 (x / 256 / 256 % 256)
  have q3 := pcn_le 8 (x / 256 / 256 / 256 % 256)
  have q4 := pcn_le 8 (x / 256 / 256 / 256 / 256 % 256)
  have q5 := pcn_le 8 (x / 256 / 256 / 256 / 256 / 256 % 256)
  have q6 := pcn_le 8 (x / 256 / 256 / 256 / 256 / 256 / 256 % 256)
  have q7 := pcn_le 8 (x / 256 / 256 / 256 / 256 / 256 / 256 / 256 % 256)
  generalize pcn 8 (x % 256) = c0 at *
  generalize pcn 8 (x / 256 % 256) = c1 at *
  generalize pcn 8 (x / 256 / 256 % 256) = c2 at *
  generalize pcn 8 (x / 256 / 256 / 256 % 256) = c3 at *
  generalize pcn 8 (x / 256 / 256 / 256 / 256 % 256) = c4 at *
  generalize pcn 8 (x / 256 / 256 / 256 / 256 / 256 % 256) = c5 at *
  generalize pcn 8 (x / 256 / 256 / 256 / 256 / 256 / 256 % 256) = c6 at *
  generalize pcn 8 (x / 256 / 256 / 256 / 256 / 256 / 256 / 256 % 256) = c7 at *
  have a0 : i = c0 + 256 * (c1 + 256 * (c2 + 256 * (c3 + 256 * (c4 + 256 * (c5 + 256 * (c6 + 256 * c7)))))) := by omega
  have a1 : i1 = (c0 + c1) + 256 * ((c1 + c2) + 256 * ((c2 + c3) + 256 * ((c3 + c4) + 256 * ((c4 + c5) + 256 * ((c5 + c6) + 256 * ((c6 + c7) + 256 * c7)))))) := by
    have : i / 256 = c1 + 256 * (c2 + 256 * (c3 + 256 * (c4 + 256 * (c5 + 256 * (c6 + 256 * c7))))) := by omega
    omega
  have a2 : i2 = (c0 + c1 + (c2 + c3)) + 256 * ((c1 + c2 + (c3 + c4)) + 256 * ((c2 + c3 + (c4 + c5)) + 256 * ((c3 + c4 + (c5 + c6)) + 256 * ((c4 + c5 + (c6 + c7)) + 256 * ((c5 + c6 + c7) + 256 * ((c6 + c7) + 256 * c7)))))) := by
    have : i1 / 65536 = (c2 + c3) + 256 * ((c3 + c4) + 256 * ((c4 + c5) + 256 * ((c5 + c6) + 256 * ((c6 + c7) + 256 * c7)))) := by omega
    omega
  have a3 : i2 / 4294967296 = (c4 + c5 + (c6 + c7)) + 256 * ((c5 + c6 + c7) + 256 * ((c6 + c7) + 256 * c7)) := by omega
  refine ⟨?_, by omega, by omega, by omega⟩
  omega
