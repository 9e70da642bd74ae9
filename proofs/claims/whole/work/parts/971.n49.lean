/-! ===== the class's squares: names tell the same from the different ===== -/
def EMP (c : Nat → Nat → Nat) (p i j : Nat) : Prop := ∀ a b, a < 2 ^ p → b < 2 ^ p → c (2 ^ p * j + a) (2 ^ p * i + b) = 0
theorem EMP.eq {c : Nat → Nat → Nat} {p i j i' j' : Nat} (h : EMP c p i j) (h' : EMP c p i' j') : EQ c p i j i' j' := fun a b ha hb => by rw [h a b ha hb, h' a b ha hb]
theorem EMP.of {c : Nat → Nat → Nat} {p i j i' j' : Nat} (h : EMP c p i j) (h' : EQ c p i j i' j') : EMP c p i' j' := fun a b ha hb => by rw [← h' a b ha hb]; exact h a b ha hb
theorem EMP_S (c : Nat → Nat → Nat) (p y x : Nat) : EMP c (p + 1) y x ↔ EMP c p (2 * y) (2 * x) ∧ EMP c p (2 * y) (2 * x + 1) ∧ EMP c p (2 * y + 1) (2 * x) ∧ EMP c p (2 * y + 1) (2 * x + 1) := by
  have e : ∀ z : Nat, 2 ^ (p + 1) * z = 2 ^ p * (2 * z) := fun z => by rw [Nat.pow_succ, Nat.mul_assoc]
  have e1 : ∀ z : Nat, 2 ^ p * (z + 1) = 2 ^ p * z + 2 ^ p := fun z => Nat.mul_succ _ _
  have e2 : 2 ^ (p + 1) = 2 ^ p + 2 ^ p := by rw [Nat.pow_succ]; omega
  constructor
  · intro h
    have h' : ∀ a b, a < 2 ^ p + 2 ^ p → b < 2 ^ p + 2 ^ p → c (2 ^ p * (2 * x) + a) (2 ^ p * (2 * y) + b) = 0 := fun a b ha hb => by
      have := h a b (by rw [e2]; exact ha) (by rw [e2]; exact hb)
      rw [e, e] at this
      exact this
    refine ⟨fun a b ha hb => h' a b (by omega) (by omega), fun a b ha hb => ?_, fun a b ha hb => ?_, fun a b ha hb => ?_⟩
    · rw [e1, Nat.add_assoc]; exact h' _ _ (by omega) (by omega)
    · rw [e1, Nat.add_assoc (2 ^ p * (2 * y))]; exact h' _ _ (by omega) (by omega)
    · rw [e1, e1, Nat.add_assoc, Nat.add_assoc]; exact h' _ _ (by omega) (by omega)
  · rintro ⟨h1, h2, h3, h4⟩ a b ha hb
    rw [e2] at ha hb
    rw [e, e]
    by_cases qa : a < 2 ^ p
    · by_cases qb : b < 2 ^ p
      · exact h1 a b qa qb
      · have := h3 a (b - 2 ^ p) qa (by omega)
        rw [e1, Nat.add_assoc (2 ^ p * (2 * y)), show 2 ^ p + (b - 2 ^ p) = b by omega] at this
        exact this
    · by_cases qb : b < 2 ^ p
      · have := h2 (a - 2 ^ p) b (by omega) qb
        rw [e1, Nat.add_assoc, show 2 ^ p + (a - 2 ^ p) = a by omega] at this
        exact this
      · have := h4 (a - 2 ^ p) (b - 2 ^ p) (by omega) (by omega)
        rw [e1, e1, Nat.add_assoc, Nat.add_assoc, show 2 ^ p + (a - 2 ^ p) = a by omega, show 2 ^ p + (b - 2 ^ p) = b by omega] at this
        exact this
/-- squares that don't meet the box are empty -/
theorem mt_emp {c : Nat → Nat → Nat} (hc : ∀ i j, c i j ≤ 1) {l r u d : Nat} (hbx : ∀ x y, x < 256 → y < 256 → c x y = 1 → (l ≤ x ∧ x ≤ r) ∧ u ≤ y ∧ y ≤ d) {p i j : Nat} (hi : 2 ^ p * i + 2 ^ p ≤ 256) (hj : 2 ^ p * j + 2 ^ p ≤ 256) (h : ¬ mtB l r u d p i j) : EMP c p i j := fun a b ha hb => by
  have h1 := hc (2 ^ p * j + a) (2 ^ p * i + b)
  by_cases q : c (2 ^ p * j + a) (2 ^ p * i + b) = 1
  · exfalso
    obtain ⟨⟨q1, q2⟩, q3, q4⟩ := hbx _ _ (by omega) (by omega) q
    have hp := Nat.two_pow_pos p
    have ej : (2 ^ p * j + a) / 2 ^ p = j := by rw [Nat.mul_add_div hp, Nat.div_eq_of_lt ha, Nat.add_zero]
    have ei : (2 ^ p * i + b) / 2 ^ p = i := by rw [Nat.mul_add_div hp, Nat.div_eq_of_lt hb, Nat.add_zero]
    have d1 := Nat.div_le_div_right (c := 2 ^ p) q1
    have d2 := Nat.div_le_div_right (c := 2 ^ p) q2
    have d3 := Nat.div_le_div_right (c := 2 ^ p) q3
    have d4 := Nat.div_le_div_right (c := 2 ^ p) q4
    rw [ej] at d1 d2
    rw [ei] at d3 d4
    exact h ⟨⟨d3, d4⟩, d1, d2⟩
  · omega
/-- a number for each square -/
def KNo (c : Nat → Nat → Nat) (p n : Nat) (KN : Nat → Nat → Nat) : Prop := (∀ i j, i < n → j < n → KN i j < 9223372036854775808 ∧ (KN i j = 0 ↔ EMP c p i j)) ∧ ∀ i j i' j', i < n → j < n → i' < n → j' < n → (KN i j = KN i' j' ↔ EQ c p i j i' j')
theorem r4_eq {c : Nat → Nat → Nat} (hc : ∀ i j, c i j ≤ 1) {x y x' y' : Nat} : r4 c x y = r4 c x' y' ↔ c x y = c x' y' ∧ c (x + 1) y = c (x' + 1) y' ∧ c (x + 2) y = c (x' + 2) y' ∧ c (x + 3) y = c (x' + 3) y' := by
  have b0 := hc x y
  have b1 := hc (x + 1) y
  have b2 := hc (x + 2) y
  have b3 := hc (x + 3) y
  have c0 := hc x' y'
  have c1 := hc (x' + 1) y'
  have c2 := hc (x' + 2) y'
  have c3 := hc (x' + 3) y'
  unfold r4
  omega
theorem kc4 (c : Nat → Nat → Nat) (i j : Nat) : kcN c i j 4 = ((r4 c (4 * j) (4 * i) * 16 + r4 c (4 * j) (4 * i + 1)) * 16 + r4 c (4 * j) (4 * i + 2)) * 16 + r4 c (4 * j) (4 * i + 3) := by
  rw [kcN, kcN, kcN, kcN, kcN, Nat.zero_mul, Nat.zero_add, Nat.add_zero]
theorem KNo.two {c : Nat → Nat → Nat} (hc : ∀ i j, c i j ≤ 1) : KNo c 2 64 (fun i j => kcN c i j 4) := by
  have l4 : ∀ P : Nat → Nat → Prop, (∀ a b, a < 2 ^ 2 → b < 2 ^ 2 → P a b) ↔ ((P 0 0 ∧ P 1 0 ∧ P 2 0 ∧ P 3 0) ∧ (P 0 1 ∧ P 1 1 ∧ P 2 1 ∧ P 3 1) ∧ (P 0 2 ∧ P 1 2 ∧ P 2 2 ∧ P 3 2) ∧ (P 0 3 ∧ P 1 3 ∧ P 2 3 ∧ P 3 3)) := fun P => by
    constructor
    · intro h
      exact ⟨⟨h _ _ (by decide) (by decide), h _ _ (by decide) (by decide), h _ _ (by decide) (by decide), h _ _ (by decide) (by decide)⟩, ⟨h _ _ (by decide) (by decide), h _ _ (by decide) (by decide), h _ _ (by decide) (by decide), h _ _ (by decide) (by decide)⟩, ⟨h _ _ (by decide) (by decide), h _ _ (by decide) (by decide), h _ _ (by decide) (by decide), h _ _ (by decide) (by decide)⟩, ⟨h _ _ (by decide) (by decide), h _ _ (by decide) (by decide), h _ _ (by decide) (by decide), h _ _ (by decide) (by decide)⟩⟩
    · rintro ⟨⟨a1, a2, a3, a4⟩, ⟨b1, b2, b3, b4⟩, ⟨c1, c2, c3, c4⟩, ⟨d1, d2, d3, d4⟩⟩ a b ha hb
      rcases (show a = 0 ∨ a = 1 ∨ a = 2 ∨ a = 3 by omega) with rfl | rfl | rfl | rfl <;> rcases (show b = 0 ∨ b = 1 ∨ b = 2 ∨ b = 3 by omega) with rfl | rfl | rfl | rfl <;> assumption
  refine ⟨fun i j _ _ => ⟨?_, ?_⟩, fun i j i' j' _ _ _ _ => ?_⟩
  · have := kcN_lt hc i j 4
    show kcN c i j 4 < _
    omega
  · show kcN c i j 4 = 0 ↔ EMP c 2 i j
    unfold EMP
    rw [l4 (fun a b => c (2 ^ 2 * j + a) (2 ^ 2 * i + b) = 0), kc4]
    unfold r4
    rw [show 2 ^ 2 * j = 4 * j from rfl, show 2 ^ 2 * i = 4 * i from rfl]
    simp only [Nat.add_zero]
    omega
  · show kcN c i j 4 = kcN c i' j' 4 ↔ EQ c 2 i j i' j'
    unfold EQ
    rw [l4 (fun a b => c (2 ^ 2 * j + a) (2 ^ 2 * i + b) = c (2 ^ 2 * j' + a) (2 ^ 2 * i' + b)), kc4, kc4]
    have e0 := r4_eq hc (x := 4 * j) (y := 4 * i) (x' := 4 * j') (y' := 4 * i')
    have e1 := r4_eq hc (x := 4 * j) (y := 4 * i + 1) (x' := 4 * j') (y' := 4 * i' + 1)
    have e2 := r4_eq hc (x := 4 * j) (y := 4 * i + 2) (x' := 4 * j') (y' := 4 * i' + 2)
    have e3 := r4_eq hc (x := 4 * j) (y := 4 * i + 3) (x' := 4 * j') (y' := 4 * i' + 3)
    have l0 := r4_lt hc (4 * j) (4 * i)
    have l1 := r4_lt hc (4 * j) (4 * i + 1)
    have l2 := r4_lt hc (4 * j) (4 * i + 2)
    have l3 := r4_lt hc (4 * j) (4 * i + 3)
    have m0 := r4_lt hc (4 * j') (4 * i')
    have m1 := r4_lt hc (4 * j') (4 * i' + 1)
    have m2 := r4_lt hc (4 * j') (4 * i' + 2)
    have m3 := r4_lt hc (4 * j') (4 * i' + 3)
    rw [show 2 ^ 2 * j = 4 * j from rfl, show 2 ^ 2 * i = 4 * i from rfl, show 2 ^ 2 * j' = 4 * j' from rfl, show 2 ^ 2 * i' = 4 * i' from rfl]
    simp only [Nat.add_zero]
    rw [← e0, ← e1, ← e2, ← e3]
    clear e0 e1 e2 e3
    omega
theorem kp4 (nm : Nat → Nat → Nat) (i j : Nat) : kpN nm i j 4 = ((nm (2 * i) (2 * j) * 8192 + nm (2 * i) (2 * j + 1)) * 8192 + nm (2 * i + 1) (2 * j)) * 8192 + nm (2 * i + 1) (2 * j + 1) := by
  rw [kpN, kpN, kpN, kpN, kpN, Nat.zero_mul, Nat.zero_add]
  rfl
/-- names of the squares of one side: 0 for the empty ones -/
def NMp (c : Nat → Nat → Nat) (p n : Nat) (nm : Nat → Nat → Nat) : Prop := (∀ i j, i < n → j < n → nm i j < 8192 ∧ (nm i j = 0 ↔ EMP c p i j)) ∧ ∀ i j i' j', i < n → j < n → i' < n → j' < n → (nm i j = nm i' j' ↔ EQ c p i j i' j')
theorem KNo.step {c : Nat → Nat → Nat} {p n : Nat} {nm : Nat → Nat → Nat} (h : NMp c p (2 * n) nm) : KNo c (p + 1) n (fun i j => kpN nm i j 4) := by
  refine ⟨fun i j hi hj => ⟨?_, ?_⟩, fun i j i' j' hi hj hi' hj' => ?_⟩
  · have h0 := (h.1 (2 * i) (2 * j) (by omega) (by omega)).1
    have h1 := (h.1 (2 * i) (2 * j + 1) (by omega) (by omega)).1
    have h2 := (h.1 (2 * i + 1) (2 * j) (by omega) (by omega)).1
    have h3 := (h.1 (2 * i + 1) (2 * j + 1) (by omega) (by omega)).1
    show kpN nm i j 4 < _
    rw [kp4]
    omega
  · show kpN nm i j 4 = 0 ↔ EMP c (p + 1) i j
    rw [EMP_S, ← (h.1 (2 * i) (2 * j) (by omega) (by omega)).2, ← (h.1 (2 * i) (2 * j + 1) (by omega) (by omega)).2, ← (h.1 (2 * i + 1) (2 * j) (by omega) (by omega)).2, ← (h.1 (2 * i + 1) (2 * j + 1) (by omega) (by omega)).2, kp4]
    omega
  · show kpN nm i j 4 = kpN nm i' j' 4 ↔ EQ c (p + 1) i j i' j'
    rw [EQ_S, ← h.2 (2 * i) (2 * j) (2 * i') (2 * j') (by omega) (by omega) (by omega) (by omega), ← h.2 (2 * i) (2 * j + 1) (2 * i') (2 * j' + 1) (by omega) (by omega) (by omega) (by omega), ← h.2 (2 * i + 1) (2 * j) (2 * i' + 1) (2 * j') (by omega) (by omega) (by omega) (by omega), ← h.2 (2 * i + 1) (2 * j + 1) (2 * i' + 1) (2 * j' + 1) (by omega) (by omega) (by omega) (by omega), kp4, kp4]
    have l0 := (h.1 (2 * i) (2 * j) (by omega) (by omega)).1
    have l1 := (h.1 (2 * i) (2 * j + 1) (by omega) (by omega)).1
    have l2 := (h.1 (2 * i + 1) (2 * j) (by omega) (by omega)).1
    have l3 := (h.1 (2 * i + 1) (2 * j + 1) (by omega) (by omega)).1
    have m0 := (h.1 (2 * i') (2 * j') (by omega) (by omega)).1
    have m1 := (h.1 (2 * i') (2 * j' + 1) (by omega) (by omega)).1
    have m2 := (h.1 (2 * i' + 1) (2 * j') (by omega) (by omega)).1
    have m3 := (h.1 (2 * i' + 1) (2 * j' + 1) (by omega) (by omega)).1
    omega
/-- every rank is taken -/
theorem en_onto {P : Nat → Prop} : ∀ {n k : Nat}, k < en_c P n → ∃ v, v < n ∧ P v ∧ en_c P v = k
  | 0, k, h => absurd h (Nat.not_lt_zero k)
  | n + 1, k, h => by
    by_cases q : P n
    · by_cases e : k = en_c P n
      · exact ⟨n, by omega, q, e.symm⟩
      · rw [en_pos q] at h
        obtain ⟨v, h1, h2⟩ := en_onto (P := P) (n := n) (k := k) (by omega)
        exact ⟨v, by omega, h2⟩
    · rw [en_neg q] at h
      obtain ⟨v, h1, h2⟩ := en_onto (n := n) h
      exact ⟨v, by omega, h2⟩
theorem DIFF_of {c : Nat → Nat → Nat} {p : Nat} {key : Nat → Nat → Nat} {N : Nat} (hk : ∀ i j, i < 256 / 2 ^ p → j < 256 / 2 ^ p → key i j < N) (he : ∀ i j i' j', i < 256 / 2 ^ p → j < 256 / 2 ^ p → i' < 256 / 2 ^ p → j' < 256 / 2 ^ p → (key i j = key i' j' ↔ EQ c p i j i' j')) {P : Nat → Prop} (hP : ∀ v, v < N → (P v ↔ ∃ i j, i < 256 / 2 ^ p ∧ j < 256 / 2 ^ p ∧ key i j = v)) : DIFF c p (en_c P N) := by
  have hin : ∀ i j, i < 256 / 2 ^ p → j < 256 / 2 ^ p → P (key i j) := fun i j hi hj => (hP _ (hk i j hi hj)).mpr ⟨i, j, hi, hj, rfl⟩
  refine ⟨fun i j => en_c P (key i j), fun i j hi hj => en_lt (hk i j hi hj) (hin i j hi hj), fun k h => ?_, fun i j i' j' hi hj hi' hj' => ?_⟩
  · obtain ⟨v, h1, h2, h3⟩ := en_onto h
    obtain ⟨i, j, a1, a2, a3⟩ := (hP v h1).mp h2
    exact ⟨i, j, a1, a2, by show en_c P (key i j) = k; rw [a3]; exact h3⟩
  · rw [← he i j i' j' hi hj hi' hj']
    constructor
    · intro e
      replace e : en_c P (key i j) = en_c P (key i' j') := e
      by_cases q : key i j < key i' j'
      · have := en_lt q (hin i j hi hj); omega
      · by_cases q2 : key i' j' < key i j
        · have := en_lt q2 (hin i' j' hi' hj'); omega
        · omega
    · intro e; show en_c P (key i j) = en_c P (key i' j'); rw [e]
