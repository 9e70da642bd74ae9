/-! ===== the class's searches and the boards that they speak of ===== -/
theorem pcn_or {x y : Nat} (h : x &&& y = 0) : ∀ n, pcn n (x ||| y) = pcn n x + pcn n y
  | 0 => rfl
  | n + 1 => by
    have h1 : (x &&& y).testBit n = false := by rw [h, Nat.zero_testBit]
    rw [Nat.testBit_and] at h1
    rw [pcn_top, pcn_top n x, pcn_top n y, pcn_or h n, Nat.testBit_or]
    cases hx : x.testBit n <;> cases hy : y.testBit n
    · simp
    · simp; omega
    · simp; omega
    · rw [hx, hy] at h1; cases h1
theorem and_pow (p t : Nat) : p &&& 2 ^ t = if p.testBit t = true then 2 ^ t else 0 := by
  apply Nat.eq_of_testBit_eq
  intro i
  rw [Nat.testBit_and, Nat.testBit_two_pow]
  by_cases e : t = i
  · subst e
    by_cases q : p.testBit t = true
    · rw [if_pos q, q, Nat.testBit_two_pow]; simp
    · rw [if_neg q, Nat.zero_testBit, Bool.eq_false_iff.mpr q]; rfl
  · rw [decide_eq_false e, Bool.and_false]
    by_cases q : p.testBit t = true
    · rw [if_pos q, Nat.testBit_two_pow, decide_eq_false e]
    · rw [if_neg q, Nat.zero_testBit]
theorem pcn_pow : ∀ t, t < 16 → pcn 32 (2 ^ t) = 1 := by decide +kernel
/-- is the place alive in the pattern -/
def tBp (p : Nat) (i j : Int) (R C : Nat) : Nat := if p &&& bitN i j R C = 0 then 0 else 1
theorem tBp_le (p : Nat) (i j : Int) (R C : Nat) : tBp p i j R C ≤ 1 := by unfold tBp; split <;> omega
theorem bitN_in {i j : Int} {R C : Nat} (q : 0 ≤ i ∧ i < R ∧ 0 ≤ j ∧ j < C) : bitN i j R C = 2 ^ (i.toNat * C + j.toNat) := by unfold bitN; rw [if_pos q]
theorem bitN_out {i j : Int} {R C : Nat} (q : ¬ (0 ≤ i ∧ i < R ∧ 0 ≤ j ∧ j < C)) : bitN i j R C = 0 := by unfold bitN; rw [if_neg q]
theorem tBp_in {p : Nat} {i j : Int} {R C : Nat} (q : 0 ≤ i ∧ i < R ∧ 0 ≤ j ∧ j < C) : tBp p i j R C = p / 2 ^ (i.toNat * C + j.toNat) % 2 := by
  unfold tBp
  have hp := Nat.two_pow_pos (i.toNat * C + j.toNat)
  rw [bitN_in q, and_pow, Nat.testBit_eq_decide_div_mod_eq]
  by_cases e : p / 2 ^ (i.toNat * C + j.toNat) % 2 = 1
  · rw [e]; simp
  · rw [decide_eq_false e, if_neg (show ¬ (false = true) by decide), if_pos rfl]; omega
theorem tBp_out {p : Nat} {i j : Int} {R C : Nat} (q : ¬ (0 ≤ i ∧ i < R ∧ 0 ≤ j ∧ j < C)) : tBp p i j R C = 0 := by
  unfold tBp
  rw [bitN_out q, Nat.and_zero, if_pos rfl]
theorem pcn_z (n : Nat) : pcn n 0 = 0 := by
  induction n with
  | zero => rfl
  | succ n ih => rw [pcn, ih]
theorem pcn_bit {p : Nat} {i j : Int} {R C : Nat} (h : R * C ≤ 16) : pcn 32 (p &&& bitN i j R C) = tBp p i j R C := by
  unfold tBp
  by_cases q : 0 ≤ i ∧ i < R ∧ 0 ≤ j ∧ j < C
  · have ht := bit_ix (R := R) (C := C) (i := i.toNat) (j := j.toNat) (by omega) (by omega) h
    have hp := Nat.two_pow_pos (i.toNat * C + j.toNat)
    rw [bitN_in q, and_pow]
    by_cases e : p.testBit (i.toNat * C + j.toNat) = true
    · rw [if_pos e, pcn_pow _ ht, if_neg (by omega)]
    · rw [if_neg e, pcn_z, if_pos rfl]
  · rw [bitN_out q, Nat.and_zero, pcn_z, if_pos rfl]
theorem pow_dis {a b : Nat} (h : a ≠ b) : 2 ^ a &&& 2 ^ b = 0 := by
  rw [and_pow, Nat.testBit_two_pow, decide_eq_false h, if_neg (by decide)]
theorem bit_dis {i j i' j' : Int} {R C : Nat} (h : ¬ (i = i' ∧ j = j')) : bitN i j R C &&& bitN i' j' R C = 0 := by
  by_cases q : 0 ≤ i ∧ i < R ∧ 0 ≤ j ∧ j < C
  · by_cases q2 : 0 ≤ i' ∧ i' < R ∧ 0 ≤ j' ∧ j' < C
    · rw [bitN_in q, bitN_in q2]
      refine pow_dis (fun e => h ?_)
      rw [Nat.mul_comm, Nat.mul_comm i'.toNat] at e
      have := gs_inj (C := C) (by omega) (by omega) e
      omega
    · rw [bitN_out q2, Nat.and_zero]
  · rw [bitN_out q, Nat.zero_and]
theorem nb_dif : ∀ m, m < 8 → ∀ k, k < 8 → m ≠ k → ¬ (nby m = nby k ∧ nbx m = nbx k) := by decide
theorem nr_dis {i j : Int} {R C : Nat} {k : Nat} (hk : k < 8) : ∀ m, m ≤ k → nrN i j R C m &&& bitN (i + nby k) (j + nbx k) R C = 0
  | 0, _ => by rw [nrN, Nat.zero_and]
  | m + 1, hm => by
    rw [nrN, Nat.and_or_distrib_right, nr_dis hk m (by omega), Nat.zero_or]
    have := nb_dif m (by omega) k hk (by omega)
    exact bit_dis (fun e => this (by omega))
def smT (p : Nat) (i j : Int) (R C : Nat) : Nat → Nat
  | 0 => 0
  | k + 1 => smT p i j R C k + tBp p (i + nby k) (j + nbx k) R C
theorem pcn_nr {p : Nat} {i j : Int} {R C : Nat} (h : R * C ≤ 16) : ∀ k, k ≤ 8 → pcn 32 (p &&& nrN i j R C k) = smT p i j R C k
  | 0, _ => by rw [nrN, Nat.and_zero, pcn_z]; rfl
  | k + 1, hk => by
    have hd : (p &&& nrN i j R C k) &&& (p &&& bitN (i + nby k) (j + nbx k) R C) = 0 := by
      have h1 := nr_dis (i := i) (j := j) (R := R) (C := C) (k := k) (by omega) k (Nat.le_refl _)
      apply Nat.eq_of_testBit_eq
      intro t
      have h2 : (nrN i j R C k &&& bitN (i + nby k) (j + nbx k) R C).testBit t = false := by rw [h1, Nat.zero_testBit]
      rw [Nat.testBit_and] at h2
      rw [Nat.testBit_and, Nat.testBit_and, Nat.testBit_and, Nat.zero_testBit]
      cases p.testBit t
      · simp
      · simpa using h2
    rw [nrN, Nat.and_or_distrib_left, pcn_or hd, pcn_nr h k (by omega), pcn_bit h, smT]
theorem al_lay0 {R C p : Nat} {x y : Int} (h : ¬ (2 ≤ x ∧ x < (C : Int) + 2 ∧ 2 ≤ y ∧ y < (R : Int) + 2)) : sp_al (C + 4) (R + 4) (sp_lay R C p) x y = 0 := by
  unfold sp_al
  by_cases q : 0 ≤ x ∧ 0 ≤ y ∧ x < ((C + 4 : Nat) : Int) ∧ y < ((R + 4 : Nat) : Int)
  · rw [if_pos q]
    unfold sp_lay
    rw [if_neg (by omega)]
  · rw [if_neg q]
theorem al_lay {R C p : Nat} (i j : Int) : sp_al (C + 4) (R + 4) (sp_lay R C p) (j + 2) (i + 2) = tBp p i j R C := by
  by_cases q : 0 ≤ i ∧ i < R ∧ 0 ≤ j ∧ j < C
  · rw [tBp_in q]
    unfold sp_al
    rw [if_pos ⟨by omega, by omega, by omega, by omega⟩]
    unfold sp_lay
    rw [if_pos ⟨by omega, by omega, by omega, by omega⟩, show (i + 2).toNat - 2 = i.toNat by omega, show (j + 2).toNat - 2 = j.toNat by omega]
  · rw [tBp_out q, al_lay0 (by omega)]
theorem ne_lay {R C p nb : Nat} (hnb : nb = 4 ∨ nb = 6 ∨ nb = 8) (i j : Int) : sp_ne (C + 4) (R + 4) (sp_lay R C p) nb (j + 2) (i + 2) = smT p i j R C nb := by
  have e : ∀ a b : Int, sp_al (C + 4) (R + 4) (sp_lay R C p) (j + 2 + a) (i + 2 + b) = tBp p (i + b) (j + a) R C := fun a b => by
    rw [← al_lay, show j + 2 + a = j + a + 2 by omega, show i + 2 + b = i + b + 2 by omega]
  have e1 := e (-1) 0
  have e2 := e 1 0
  have e3 := e 0 (-1)
  have e4 := e 0 1
  have e5 := e (-1) (-1)
  have e6 := e 1 1
  have e7 := e 1 (-1)
  have e8 := e (-1) 1
  simp only [Int.add_zero] at e1 e2 e3 e4
  unfold sp_ne
  rw [Int.sub_eq_add_neg, Int.sub_eq_add_neg, e1, e2, e3, e4, e5, e6, e7, e8]
  have s4 : smT p i j R C 4 = tBp p (i + -1) j R C + tBp p (i + 1) j R C + tBp p i (j + -1) R C + tBp p i (j + 1) R C := by
    show 0 + tBp p (i + -1) (j + 0) R C + tBp p (i + 1) (j + 0) R C + tBp p (i + 0) (j + -1) R C + tBp p (i + 0) (j + 1) R C = _
    simp only [Int.add_zero, Nat.zero_add]
  have s6 : smT p i j R C 6 = smT p i j R C 4 + tBp p (i + -1) (j + -1) R C + tBp p (i + 1) (j + 1) R C := rfl
  have s8 : smT p i j R C 8 = smT p i j R C 6 + tBp p (i + -1) (j + 1) R C + tBp p (i + 1) (j + -1) R C := rfl
  rcases hnb with rfl | rfl | rfl
  · rw [if_neg (by decide), if_neg (by decide), s4]; omega
  · rw [if_pos (by decide), if_neg (by decide), s6, s4]; omega
  · rw [if_pos (by decide), if_pos (by decide), s8, s6, s4]; omega
theorem nxc_eq {r : mu_RS} (hnb : rs_nb r = 4 ∨ rs_nb r = 6 ∨ rs_nb r = 8) {R C : Nat} (h : R * C ≤ 16) (p : Nat) {i j : Int} (hi : -1 ≤ i ∧ i ≤ R) (hj : -1 ≤ j ∧ j ≤ C) : nxc (rs_bo r) (rs_st r) (bitN i j R C) (nrN i j R C (rs_nb r)) p = sp_nx r R C p (j + 2).toNat (i + 2).toNat := by
  unfold sp_nx sp_ss
  rw [if_pos ⟨by omega, by omega⟩]
  unfold sp_af
  rw [show (((j + 2).toNat : Nat) : Int) = j + 2 by omega, show (((i + 2).toNat : Nat) : Int) = i + 2 by omega, al_lay, ne_lay hnb, ← pcn_nr h _ (by omega)]
  unfold nxc tBp
  by_cases e : p &&& bitN i j R C = 0
  · rw [if_pos e, if_pos e, if_neg (by decide)]
  · rw [if_neg e, if_neg e, if_pos rfl]
theorem nx_ring {r : mu_RS} (hbo : rs_bo r % 2 = 0) {R C p x y : Nat} (h : x = 0 ∨ C + 3 ≤ x ∨ y = 0 ∨ R + 3 ≤ y) : sp_nx r R C p x y = 0 := by
  unfold sp_nx sp_ss
  by_cases q : x < C + 4 ∧ y < R + 4
  · rw [if_pos q]
    unfold sp_af
    have hz : ∀ X Y : Int, (x : Int) - 1 ≤ X → X ≤ (x : Int) + 1 → (y : Int) - 1 ≤ Y → Y ≤ (y : Int) + 1 → sp_al (C + 4) (R + 4) (sp_lay R C p) X Y = 0 := fun X Y h1 h2 h3 h4 => al_lay0 (by omega)
    have hn : sp_ne (C + 4) (R + 4) (sp_lay R C p) (rs_nb r) (x : Int) (y : Int) = 0 := by
      unfold sp_ne
      rw [hz _ _ (by omega) (by omega) (by omega) (by omega), hz _ _ (by omega) (by omega) (by omega) (by omega), hz _ _ (by omega) (by omega) (by omega) (by omega), hz _ _ (by omega) (by omega) (by omega) (by omega), hz _ _ (by omega) (by omega) (by omega) (by omega), hz _ _ (by omega) (by omega) (by omega) (by omega), hz _ _ (by omega) (by omega) (by omega) (by omega), hz _ _ (by omega) (by omega) (by omega) (by omega)]
      split <;> split <;> rfl
    rw [hn, hz _ _ (by omega) (by omega) (by omega) (by omega), if_neg (by decide), Nat.pow_zero, Nat.div_one, hbo]
  · rw [if_neg q]
theorem nx_le (r : mu_RS) (R C p x y : Nat) : sp_nx r R C p x y ≤ 1 := by
  unfold sp_nx sp_ss
  by_cases q : x < C + 4 ∧ y < R + 4
  · rw [if_pos q]; exact sp_af_le
  · rw [if_neg q]; omega
theorem bitN_2 {i j : Int} {R C : Nat} : bitN i j R C < 2 ^ (R * C) := by
  by_cases q : 0 ≤ i ∧ i < R ∧ 0 ≤ j ∧ j < C
  · rw [bitN_in q]
    have h1 : (i.toNat + 1) * C ≤ R * C := Nat.mul_le_mul_right C (by omega)
    rw [Nat.add_mul, Nat.one_mul] at h1
    exact Nat.pow_lt_pow_right (by decide) (by omega)
  · rw [bitN_out q]; exact Nat.two_pow_pos _
theorem nrN_2 {i j : Int} {R C : Nat} : ∀ k, nrN i j R C k < 2 ^ (R * C)
  | 0 => by rw [nrN]; exact Nat.two_pow_pos _
  | k + 1 => by rw [nrN]; exact Nat.or_lt_two_pow (nrN_2 k) bitN_2
/-- all cells that matter agree -/
theorem okP_iff {bo st Kc R C nb : Nat} {c : mu_CL} (hbo : bo % 2 = 0) (ho : ∀ k, k < Kc → cl_o c k = bitN (lyi C k) (lyj C k) R C) (hn : ∀ k, k < Kc → cl_n c k = nrN (lyi C k) (lyj C k) R C nb) (hd : ∀ k, k < Kc → cl_o c k = 0 → cl_d c k = 0) (p : Nat) : okP bo st Kc c (R * C) p ↔ ∀ k, k < Kc → cl_d c k ≠ 3 → agc bo st c k p := by
  constructor
  · intro h k hk hd3
    by_cases q : cl_o c k ||| cl_n c k = 0
    · have h1 := Nat.or_eq_zero_iff.mp q
      unfold agc nxc
      rw [h1.1, h1.2, Nat.and_zero, if_pos rfl, pcn_z, Nat.pow_zero, Nat.div_one, hbo, hd k hk h1.1]
      rfl
    · obtain ⟨b, hb, hl⟩ := LW.ex (n := R * C) q (Nat.or_lt_two_pow (by rw [ho k hk]; exact bitN_2) (by rw [hn k hk]; exact nrN_2 _))
      exact h b hb k hk hd3 hl
  · intro h b hb k hk hd3 hl
    exact h k hk hd3
/-- the cells by row and column -/
theorem ly_all {R C : Nat} {Q : Int → Int → Prop} : (∀ k, k < (R + 2) * (C + 2) → Q (lyi C k) (lyj C k)) ↔ ∀ i j : Int, -1 ≤ i → i ≤ R → -1 ≤ j → j ≤ C → Q i j := by
  constructor
  · intro h i j h1 h2 h3 h4
    have h5 := h ((C + 2) * (i + 1).toNat + (j + 1).toNat) (ly_k (by omega) (by omega))
    obtain ⟨e1, e2⟩ := ly_at (C := C) (y := (i + 1).toNat) (x := (j + 1).toNat) (by omega)
    rw [e1, e2, show (((i + 1).toNat : Nat) : Int) - 1 = i by omega, show (((j + 1).toNat : Nat) : Int) - 1 = j by omega] at h5
    exact h5
  · intro h k hk
    have h1 := gs_kk (R := R + 2) (C := C + 2) hk
    unfold lyi lyj
    generalize k / (C + 2) = y at h1 ⊢
    generalize k % (C + 2) = x at h1 ⊢
    exact h _ _ (by omega) (by omega) (by omega) (by omega)
