/-! ===== the class's squares: one side ===== -/
/-- squares that meet the box and stand before (i, j) -/
def PRb (l r u d p i j : Nat) : Nat → Nat → Prop := fun x y => mtB l r u d p x y ∧ (x < i ∨ (x = i ∧ y < j))
/-- the names given so far -/
def LVI (s w0 : mu_W) (a : Nat) (Pr : Nat → Nat → Prop) (n : Nat) (KN : Nat → Nat → Nat) (nn : Nat) (kf : Nat → Int64) (lv : Prop) (nmv : Nat → Nat → Nat) : Prop :=
  (∀ x y, x < n → y < n → Pr x y → mu_iv s (a + 1) (64 * x + y) = mI (nmv x y) ∧ ((KN x y = 0 ∧ nmv x y = 0) ∨ (KN x y ≠ 0 ∧ 1 ≤ nmv x y ∧ nmv x y ≤ nn ∧ kf (nmv x y) = mL (KN x y)))) ∧
  (∀ q, (∀ x y, x < n → y < n → Pr x y → q ≠ 64 * x + y) → mu_iv s (a + 1) q = mu_iv w0 (a + 1) q) ∧
  (∀ m, 1 ≤ m → m ≤ nn → ∃ x y, x < n ∧ y < n ∧ Pr x y ∧ nmv x y = m) ∧
  ((mu_iv s a 5 = mI 1 ∧ (lv ∨ ∃ x y, x < n ∧ y < n ∧ Pr x y ∧ KN x y = 0)) ∨ (mu_iv s a 5 = mI 0 ∧ ¬ (lv ∨ ∃ x y, x < n ∧ y < n ∧ Pr x y ∧ KN x y = 0)))
theorem mL_inj {x y : Nat} (hx : x < 9223372036854775808) (hy : y < 9223372036854775808) (h : mL (x : Int) = mL (y : Int)) : x = y := by
  have := congrArg un h
  rw [un_mL hx, un_mL hy] at this
  exact this
theorem LVI.step {s s' w0 : mu_W} {a l r u d p i j n : Nat} (hn : n ≤ 64) {KN : Nat → Nat → Nat} {nn nn' : Nat} {kf kf' : Nat → Int64} {lv : Prop} {nmv : Nat → Nat → Nat} (h : LVI s w0 a (PRb l r u d p i j) n KN nn kf lv nmv) (hi : i < n) (hj : j < n) (hm : mtB l r u d p i j) {v : Nat}
    (h1 : ∀ q, q ≠ 64 * i + j → mu_iv s' (a + 1) q = mu_iv s (a + 1) q) (h2 : mu_iv s' (a + 1) (64 * i + j) = mI v) (h3 : nn ≤ nn') (h4 : ∀ m, 1 ≤ m → m ≤ nn → kf' m = kf m) (h5 : (KN i j = 0 ∧ v = 0 ∧ nn' = nn ∧ mu_iv s' a 5 = mI 1) ∨ (KN i j ≠ 0 ∧ 1 ≤ v ∧ v ≤ nn' ∧ kf' v = mL (KN i j) ∧ mu_iv s' a 5 = mu_iv s a 5 ∧ (nn' = nn ∨ (nn' = nn + 1 ∧ v = nn + 1)))) : LVI s' w0 a (PRb l r u d p i (j + 1)) n KN nn' kf' lv (cu nmv i j v) := by
  obtain ⟨g1, g2, g3, g4⟩ := h
  have hsp : ∀ x y, PRb l r u d p i (j + 1) x y ↔ (PRb l r u d p i j x y ∨ (x = i ∧ y = j)) := fun x y => by
    unfold PRb
    constructor
    · rintro ⟨a1, a2⟩
      by_cases q : x = i ∧ y = j
      · exact Or.inr q
      · exact Or.inl ⟨a1, by omega⟩
    · rintro (⟨a1, a2⟩ | ⟨a1, a2⟩)
      · exact ⟨a1, by omega⟩
      · subst a1 a2; exact ⟨hm, by omega⟩
  have hnot : ∀ x y, PRb l r u d p i j x y → ¬ (x = i ∧ y = j) := fun x y q => by have := q.2; omega
  have cu1 : cu nmv i j v i j = v := by unfold cu; rw [if_pos ⟨rfl, rfl⟩]
  have cu2 : ∀ x y, ¬ (x = i ∧ y = j) → cu nmv i j v x y = nmv x y := fun x y q => by unfold cu; rw [if_neg q]
  refine ⟨fun x y hx hy hp => ?_, fun q hq => ?_, fun m m1 m2 => ?_, ?_⟩
  · rcases (hsp x y).mp hp with q | ⟨q1, q2⟩
    · rw [cu2 x y (hnot x y q), h1 _ (fun e => hnot x y q (by omega))]
      obtain ⟨b1, b2⟩ := g1 x y hx hy q
      refine ⟨b1, ?_⟩
      rcases b2 with b2 | ⟨b2, b3, b4, b5⟩
      · exact Or.inl b2
      · exact Or.inr ⟨b2, b3, by omega, by rw [h4 _ b3 b4]; exact b5⟩
    · subst q1 q2
      rw [cu1]
      refine ⟨h2, ?_⟩
      rcases h5 with h5 | h5
      · exact Or.inl ⟨h5.1, h5.2.1⟩
      · exact Or.inr ⟨h5.1, h5.2.1, h5.2.2.1, h5.2.2.2.1⟩
  · rw [h1 q (hq i j hi hj ((hsp i j).mpr (Or.inr ⟨rfl, rfl⟩)))]
    exact g2 q (fun x y hx hy hp => hq x y hx hy ((hsp x y).mpr (Or.inl hp)))
  · by_cases q : m ≤ nn
    · obtain ⟨x, y, b1, b2, b3, b4⟩ := g3 m m1 q
      exact ⟨x, y, b1, b2, (hsp x y).mpr (Or.inl b3), by rw [cu2 x y (hnot x y b3)]; exact b4⟩
    · refine ⟨i, j, hi, hj, (hsp i j).mpr (Or.inr ⟨rfl, rfl⟩), ?_⟩
      rw [cu1]
      rcases h5 with h5 | h5
      · omega
      · have := h5.2.2.2.2.2; omega
  · rcases h5 with h5 | h5
    · exact Or.inl ⟨h5.2.2.2, Or.inr ⟨i, j, hi, hj, (hsp i j).mpr (Or.inr ⟨rfl, rfl⟩), h5.1⟩⟩
    · rw [h5.2.2.2.2.1]
      have hee : (lv ∨ ∃ x y, x < n ∧ y < n ∧ PRb l r u d p i (j + 1) x y ∧ KN x y = 0) ↔ (lv ∨ ∃ x y, x < n ∧ y < n ∧ PRb l r u d p i j x y ∧ KN x y = 0) := by
        constructor
        · rintro (q | ⟨x, y, b1, b2, b3, b4⟩)
          · exact Or.inl q
          · rcases (hsp x y).mp b3 with q | ⟨q1, q2⟩
            · exact Or.inr ⟨x, y, b1, b2, q, b4⟩
            · subst q1 q2; exact absurd b4 h5.1
        · rintro (q | ⟨x, y, b1, b2, b3, b4⟩)
          · exact Or.inl q
          · exact Or.inr ⟨x, y, b1, b2, (hsp x y).mpr (Or.inl b3), b4⟩
      rw [hee]
      exact g4
theorem LVI.pr {s w0 : mu_W} {a n : Nat} {Pr Pr' : Nat → Nat → Prop} {KN : Nat → Nat → Nat} {nn : Nat} {kf : Nat → Int64} {lv : Prop} {nmv : Nat → Nat → Nat} (h : LVI s w0 a Pr n KN nn kf lv nmv) (he : ∀ x y, x < n → y < n → (Pr x y ↔ Pr' x y)) : LVI s w0 a Pr' n KN nn kf lv nmv := by
  obtain ⟨g1, g2, g3, g4⟩ := h
  have hee : (lv ∨ ∃ x y, x < n ∧ y < n ∧ Pr x y ∧ KN x y = 0) ↔ (lv ∨ ∃ x y, x < n ∧ y < n ∧ Pr' x y ∧ KN x y = 0) := by
    constructor
    · rintro (q | ⟨x, y, b1, b2, b3, b4⟩)
      · exact Or.inl q
      · exact Or.inr ⟨x, y, b1, b2, (he x y b1 b2).mp b3, b4⟩
    · rintro (q | ⟨x, y, b1, b2, b3, b4⟩)
      · exact Or.inl q
      · exact Or.inr ⟨x, y, b1, b2, (he x y b1 b2).mpr b3, b4⟩
  refine ⟨fun x y hx hy hp => g1 x y hx hy ((he x y hx hy).mpr hp), fun q hq => g2 q (fun x y hx hy hp => hq x y hx hy ((he x y hx hy).mp hp)), fun m m1 m2 => ?_, by rw [← hee]; exact g4⟩
  obtain ⟨x, y, b1, b2, b3, b4⟩ := g3 m m1 m2
  exact ⟨x, y, b1, b2, (he x y b1 b2).mp b3, b4⟩
/-- what stands in the row of names -/
def NMw (w : mu_W) (a l r u d p n : Nat) (nm : Nat → Nat → Nat) : Prop := ∀ i j, i < n → j < n → (mtB l r u d p i j → mu_iv w (a + 1) (64 * i + j) = mI (nm i j)) ∧ (¬ mtB l r u d p i j → nm i j = 0)
noncomputable def nmE (l r u d p : Nat) (nmv : Nat → Nat → Nat) (i j : Nat) : Nat := @ite _ (mtB l r u d p i j) (Classical.propDecidable _) (nmv i j) 0
theorem nmE_1 {l r u d p : Nat} {nmv : Nat → Nat → Nat} {i j : Nat} (h : mtB l r u d p i j) : nmE l r u d p nmv i j = nmv i j := by unfold nmE; rw [if_pos h]
theorem nmE_0 {l r u d p : Nat} {nmv : Nat → Nat → Nat} {i j : Nat} (h : ¬ mtB l r u d p i j) : nmE l r u d p nmv i j = 0 := by unfold nmE; rw [if_neg h]
/-- all squares have their names -/
theorem LVI.done {s w0 : mu_W} {a l r u d p : Nat} {c : Nat → Nat → Nat} {KN : Nat → Nat → Nat} {e nn : Nat} {kf : Nat → Int64} {lv : Prop} {nmv : Nat → Nat → Nat} (hn : 256 / 2 ^ p ≤ 64) (hK : KNo c p (256 / 2 ^ p) KN) (hem : ∀ i j, i < 256 / 2 ^ p → j < 256 / 2 ^ p → ¬ mtB l r u d p i j → EMP c p i j) (hT : HTb s a e nn kf) (h : LVI s w0 a (mtB l r u d p) (256 / 2 ^ p) KN nn kf lv nmv) (hlv : lv ↔ ∃ i j, i < 256 / 2 ^ p ∧ j < 256 / 2 ^ p ∧ ¬ mtB l r u d p i j) (hnn : nn ≤ 4096) : NMp c p (256 / 2 ^ p) (nmE l r u d p nmv) ∧ NMw s a l r u d p (256 / 2 ^ p) (nmE l r u d p nmv) ∧ ∃ es : Nat, mu_iv s a 5 = mI es ∧ es ≤ 1 ∧ DIFF c p (nn + es) := by
  obtain ⟨g1, g2, g3, g4⟩ := h
  obtain ⟨k1, k2⟩ := hK
  have hz : ∀ i j, i < 256 / 2 ^ p → j < 256 / 2 ^ p → nmE l r u d p nmv i j ≤ nn ∧ (nmE l r u d p nmv i j = 0 ↔ KN i j = 0) ∧ (KN i j ≠ 0 → kf (nmE l r u d p nmv i j) = mL (KN i j)) := fun i j hi hj => by
    by_cases q : mtB l r u d p i j
    · rw [nmE_1 q]
      rcases (g1 i j hi hj q).2 with b | b
      · exact ⟨by omega, by omega, fun e => absurd b.1 e⟩
      · exact ⟨by omega, by omega, fun _ => b.2.2.2⟩
    · rw [nmE_0 q]
      have := ((k1 i j hi hj).2).mpr (hem i j hi hj q)
      exact ⟨Nat.zero_le _, ⟨fun _ => this, fun _ => rfl⟩, fun e => absurd this e⟩
  have heq : ∀ i j i' j', i < 256 / 2 ^ p → j < 256 / 2 ^ p → i' < 256 / 2 ^ p → j' < 256 / 2 ^ p → (nmE l r u d p nmv i j = nmE l r u d p nmv i' j' ↔ EQ c p i j i' j') := fun i j i' j' hi hj hi' hj' => by
    rw [← k2 i j i' j' hi hj hi' hj']
    obtain ⟨z1, z2, z3⟩ := hz i j hi hj
    obtain ⟨y1, y2, y3⟩ := hz i' j' hi' hj'
    constructor
    · intro q
      by_cases q0 : KN i j = 0
      · rw [q0, y2.mp (by rw [← q]; exact z2.mpr q0)]
      · have q1 : KN i' j' ≠ 0 := fun e9 => q0 (z2.mp (by rw [q]; exact y2.mpr e9))
        have a1 := z3 q0
        have a2 := y3 q1
        rw [q] at a1
        exact mL_inj (k1 i j hi hj).1 (k1 i' j' hi' hj').1 (a1.symm.trans a2)
    · intro q
      by_cases q0 : KN i j = 0
      · rw [z2.mpr q0, y2.mpr (by rw [← q]; exact q0)]
      · have q1 : KN i' j' ≠ 0 := by rw [← q]; exact q0
        have a1 := z3 q0
        have a2 := y3 q1
        have n1 : nmE l r u d p nmv i j ≠ 0 := fun e9 => q0 (z2.mp e9)
        have n2 : nmE l r u d p nmv i' j' ≠ 0 := fun e9 => q1 (y2.mp e9)
        exact hT.2.2.2.2.2 _ _ (by omega) z1 (by omega) y1 (by rw [a1, a2, q])
  refine ⟨⟨fun i j hi hj => ⟨by have := (hz i j hi hj).1; omega, ((hz i j hi hj).2.1).trans (k1 i j hi hj).2⟩, heq⟩, fun i j hi hj => ⟨fun q => by rw [nmE_1 q]; exact (g1 i j hi hj q).1, fun q => nmE_0 q⟩, ?_⟩
  have hP0 : (lv ∨ ∃ x y, x < 256 / 2 ^ p ∧ y < 256 / 2 ^ p ∧ mtB l r u d p x y ∧ KN x y = 0) ↔ ∃ i j, i < 256 / 2 ^ p ∧ j < 256 / 2 ^ p ∧ nmE l r u d p nmv i j = 0 := by
    constructor
    · rintro (q | ⟨x, y, b1, b2, b3, b4⟩)
      · obtain ⟨i, j, a1, a2, a3⟩ := hlv.mp q
        exact ⟨i, j, a1, a2, nmE_0 a3⟩
      · exact ⟨x, y, b1, b2, (hz x y b1 b2).2.1.mpr b4⟩
    · rintro ⟨i, j, a1, a2, a3⟩
      by_cases q : mtB l r u d p i j
      · exact Or.inr ⟨i, j, a1, a2, q, (hz i j a1 a2).2.1.mp a3⟩
      · exact Or.inl (hlv.mpr ⟨i, j, a1, a2, q⟩)
  have hD := DIFF_of (c := c) (p := p) (key := nmE l r u d p nmv) (N := nn + 1) (fun i j hi hj => by have := (hz i j hi hj).1; omega) heq (P := fun v => ∃ i j, i < 256 / 2 ^ p ∧ j < 256 / 2 ^ p ∧ nmE l r u d p nmv i j = v) (fun v _ => Iff.rfl)
  have hall : ∀ m, 1 ≤ m → m ≤ nn → ∃ i j, i < 256 / 2 ^ p ∧ j < 256 / 2 ^ p ∧ nmE l r u d p nmv i j = m := fun m m1 m2 => by
    obtain ⟨x, y, b1, b2, b3, b4⟩ := g3 m m1 m2
    exact ⟨x, y, b1, b2, by rw [nmE_1 b3]; exact b4⟩
  have hcount : ∀ es : Nat, en_c (fun v => ∃ i j, i < 256 / 2 ^ p ∧ j < 256 / 2 ^ p ∧ nmE l r u d p nmv i j = v) 1 = es → ∀ k, k ≤ nn → en_c (fun v => ∃ i j, i < 256 / 2 ^ p ∧ j < 256 / 2 ^ p ∧ nmE l r u d p nmv i j = v) (k + 1) = k + es := fun es he k => by
    induction k with
    | zero => intro _; rw [he]; omega
    | succ k ih => intro hk; rw [en_pos (hall (k + 1) (by omega) hk), ih (by omega)]; omega
  rcases g4 with ⟨b1, b2⟩ | ⟨b1, b2⟩
  · refine ⟨1, b1, Nat.le_refl _, ?_⟩
    rw [hcount 1 (by rw [en_pos (hP0.mp b2)]; rfl) nn (Nat.le_refl _)] at hD
    exact hD
  · refine ⟨0, b1, Nat.zero_le _, ?_⟩
    rw [hcount 0 (by rw [en_neg (fun q => b2 (hP0.mpr q))]; rfl) nn (Nat.le_refl _)] at hD
    exact hD
