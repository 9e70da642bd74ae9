/-! ===== the class's searches: what they find, as the boards tell it ===== -/
theorem ly_o (R C nb dw k : Nat) : cl_o (lyc R C nb dw) k = bitN (lyi C k) (lyj C k) R C := rfl
theorem ly_n (R C nb dw k : Nat) : cl_n (lyc R C nb dw) k = nrN (lyi C k) (lyj C k) R C nb := rfl
theorem ly_d (R C nb dw k : Nat) : cl_d (lyc R C nb dw) k = if bitN (lyi C k) (lyj C k) R C = 0 then 0 else dw := rfl
theorem CLb.ly {R C nb dw : Nat} (hR : 1 ≤ R) (hC : 1 ≤ C) (h : R * C ≤ 16) (h64 : (R + 2) * (C + 2) ≤ 64) (hdw : dw ≤ 3) : CLb ((R + 2) * (C + 2)) (R * C) (lyc R C nb dw) := by
  refine ⟨h64, ⟨Nat.mul_pos hR hC, h⟩, fun k _ => ⟨bitN_lt h, nrN_lt h _, ?_⟩⟩
  rw [ly_d]
  split <;> omega
theorem agc_st {bo st R C nb k p : Nat} : agc bo st (lyc R C nb 2) k p ↔ nxc bo st (bitN (lyi C k) (lyj C k) R C) (nrN (lyi C k) (lyj C k) R C nb) p = tBp p (lyi C k) (lyj C k) R C := by
  unfold agc
  rw [ly_o, ly_n, ly_d]
  unfold tBp
  by_cases e : bitN (lyi C k) (lyj C k) R C = 0
  · rw [if_pos e, e, Nat.and_zero]; rfl
  · rw [if_neg e, if_pos rfl]
theorem pat_sz (R C : Nat) : (R + 4 - 2 * 2) * (C + 4 - 2 * 2) = R * C := by rw [show R + 4 - 2 * 2 = R by omega, show C + 4 - 2 * 2 = C by omega]
theorem pat_still {r : mu_RS} (hbo : rs_bo r % 2 = 0) {R C p : Nat} (hp : p < 2 ^ (R * C)) : (∀ i j : Int, -1 ≤ i → i ≤ R → -1 ≤ j → j ≤ C → sp_nx r R C p (j + 2).toNat (i + 2).toNat = tBp p i j R C) ↔ PAT (C + 4) (R + 4) 2 (sp_nx r R C p) (p : Int) := by
  have eR : R + 4 - 2 * 2 = R := by omega
  have eC : C + 4 - 2 * 2 = C := by omega
  constructor
  · intro h
    refine Or.inr ⟨p, rfl, by rw [pat_sz]; exact hp, fun x y hx hy h1 => ?_, fun i j hi hj => ?_⟩
    · by_cases q : x = 0 ∨ C + 3 ≤ x ∨ y = 0 ∨ R + 3 ≤ y
      · rw [nx_ring hbo q] at h1; cases h1
      · have h2 := h ((y : Int) - 2) ((x : Int) - 2) (by omega) (by omega) (by omega) (by omega)
        rw [show ((x : Int) - 2 + 2).toNat = x by omega, show ((y : Int) - 2 + 2).toNat = y by omega, h1] at h2
        by_cases q2 : 0 ≤ (y : Int) - 2 ∧ (y : Int) - 2 < R ∧ 0 ≤ (x : Int) - 2 ∧ (x : Int) - 2 < C
        · unfold pt_in; omega
        · rw [tBp_out q2] at h2; cases h2
    · rw [eR] at hi
      rw [eC] at hj ⊢
      have h2 := h (i : Int) (j : Int) (by omega) (by omega) (by omega) (by omega)
      rw [show ((j : Int) + 2).toNat = j + 2 by omega, show ((i : Int) + 2).toNat = i + 2 by omega, tBp_in (by omega), Int.toNat_natCast, Int.toNat_natCast] at h2
      rw [h2, Nat.testBit_eq_decide_div_mod_eq, decide_eq_true_eq]
  · intro h i j h1 h2 h3 h4
    rcases h with ⟨e, _⟩ | ⟨n, e, g1, g2, g3⟩
    · omega
    · have e2 : n = p := by omega
      subst e2
      have hle := nx_le r R C n (j + 2).toNat (i + 2).toNat
      by_cases q : 0 ≤ i ∧ i < R ∧ 0 ≤ j ∧ j < C
      · have g4 := g3 i.toNat j.toNat (by omega) (by omega)
        rw [eC, show j.toNat + 2 = (j + 2).toNat by omega, show i.toNat + 2 = (i + 2).toNat by omega, Nat.testBit_eq_decide_div_mod_eq, decide_eq_true_eq] at g4
        rw [tBp_in q]
        omega
      · rw [tBp_out q]
        by_cases q2 : sp_nx r R C n (j + 2).toNat (i + 2).toNat = 1
        · have := g2 _ _ (by omega) (by omega) q2
          unfold pt_in at this
          omega
        · omega
theorem still_iff {r : mu_RS} (hnb : rs_nb r = 4 ∨ rs_nb r = 6 ∨ rs_nb r = 8) (hbo : rs_bo r % 2 = 0) {R C : Nat} (h : R * C ≤ 16) {p : Nat} (hp : p < 2 ^ (R * C)) : okP (rs_bo r) (rs_st r) ((R + 2) * (C + 2)) (lyc R C (rs_nb r) 2) (R * C) p ↔ PAT (C + 4) (R + 4) 2 (sp_nx r R C p) (p : Int) := by
  rw [okP_iff (R := R) (C := C) (nb := rs_nb r) hbo (fun k _ => rfl) (fun k _ => rfl) (fun k _ q => by rw [ly_d]; rw [ly_o] at q; rw [if_pos q]), ← pat_still hbo hp]
  have h1 := ly_all (R := R) (C := C) (Q := fun i j => nxc (rs_bo r) (rs_st r) (bitN i j R C) (nrN i j R C (rs_nb r)) p = tBp p i j R C)
  constructor
  · intro g i j a1 a2 a3 a4
    rw [← nxc_eq hnb h p ⟨a1, a2⟩ ⟨a3, a4⟩]
    exact h1.mp (fun k hk => agc_st.mp (g k hk (by rw [ly_d]; split <;> omega))) i j a1 a2 a3 a4
  · intro g k hk _
    exact agc_st.mpr (h1.mpr (fun i j a1 a2 a3 a4 => by rw [nxc_eq hnb h p ⟨a1, a2⟩ ⟨a3, a4⟩]; exact g i j a1 a2 a3 a4) k hk)
/-- what stays within the box -/
theorem in_iff {r : mu_RS} (hnb : rs_nb r = 4 ∨ rs_nb r = 6 ∨ rs_nb r = 8) (hbo : rs_bo r % 2 = 0) {R C : Nat} (h : R * C ≤ 16) (p : Nat) : okP (rs_bo r) (rs_st r) ((R + 2) * (C + 2)) (lyc R C (rs_nb r) 3) (R * C) p ↔ ∀ x y, x < C + 4 → y < R + 4 → sp_nx r R C p x y = 1 → pt_in (C + 4) (R + 4) 2 x y := by
  rw [okP_iff (R := R) (C := C) (nb := rs_nb r) hbo (fun k _ => rfl) (fun k _ => rfl) (fun k _ q => by rw [ly_d]; rw [ly_o] at q; rw [if_pos q])]
  have h1 := ly_all (R := R) (C := C) (Q := fun i j => bitN i j R C = 0 → nxc (rs_bo r) (rs_st r) (bitN i j R C) (nrN i j R C (rs_nb r)) p = 0)
  have h2 : (∀ k, k < (R + 2) * (C + 2) → cl_d (lyc R C (rs_nb r) 3) k ≠ 3 → agc (rs_bo r) (rs_st r) (lyc R C (rs_nb r) 3) k p) ↔ ∀ k, k < (R + 2) * (C + 2) → (bitN (lyi C k) (lyj C k) R C = 0 → nxc (rs_bo r) (rs_st r) (bitN (lyi C k) (lyj C k) R C) (nrN (lyi C k) (lyj C k) R C (rs_nb r)) p = 0) := by
    constructor
    · intro g k hk q
      have g2 := g k hk (by rw [ly_d, if_pos q]; decide)
      unfold agc at g2
      rw [ly_o, ly_n, ly_d, if_pos q] at g2
      exact g2
    · intro g k hk hd
      rw [ly_d] at hd
      by_cases q : bitN (lyi C k) (lyj C k) R C = 0
      · unfold agc
        rw [ly_o, ly_n, ly_d, if_pos q]
        exact g k hk q
      · rw [if_neg q] at hd; exact absurd rfl hd
  rw [h2, h1]
  constructor
  · intro g x y hx hy h3
    by_cases q : x = 0 ∨ C + 3 ≤ x ∨ y = 0 ∨ R + 3 ≤ y
    · rw [nx_ring hbo q] at h3; cases h3
    · by_cases q2 : 0 ≤ (y : Int) - 2 ∧ (y : Int) - 2 < R ∧ 0 ≤ (x : Int) - 2 ∧ (x : Int) - 2 < C
      · unfold pt_in; omega
      · have g2 := g ((y : Int) - 2) ((x : Int) - 2) (by omega) (by omega) (by omega) (by omega) (bitN_out q2)
        rw [nxc_eq hnb h p ⟨by omega, by omega⟩ ⟨by omega, by omega⟩, show ((x : Int) - 2 + 2).toNat = x by omega, show ((y : Int) - 2 + 2).toNat = y by omega, h3] at g2
        cases g2
  · intro g i j a1 a2 a3 a4 hb
    rw [nxc_eq hnb h p ⟨a1, a2⟩ ⟨a3, a4⟩]
    have hle := nx_le r R C p (j + 2).toNat (i + 2).toNat
    by_cases q2 : sp_nx r R C p (j + 2).toNat (i + 2).toNat = 1
    · have := g _ _ (by omega) (by omega) q2
      unfold pt_in at this
      rw [bitN_in (by omega)] at hb
      have := Nat.two_pow_pos (i.toNat * C + j.toNat)
      omega
    · omega
/-- the next pattern, cell by cell -/
def nwr (bo st : Nat) (c : mu_CL) (p : Nat) : Nat → Nat
  | 0 => 0
  | k + 1 => nwr bo st c p k ||| (nxc bo st (cl_o c k) (cl_n c k) p * cl_o c k)
theorem nwr_lt {bo st Kc : Nat} {c : mu_CL} {p n : Nat} (h : ∀ k, k < Kc → cl_o c k < 2 ^ n) : ∀ k, k ≤ Kc → nwr bo st c p k < 2 ^ n
  | 0, _ => by rw [nwr]; exact Nat.two_pow_pos n
  | k + 1, hk => by
    rw [nwr]
    refine Nat.or_lt_two_pow (nwr_lt h k (by omega)) ?_
    have h1 := nxc_le bo st (cl_o c k) (cl_n c k) p
    have h2 := h k (by omega)
    have h3 := Nat.mul_le_mul_right (cl_o c k) h1
    omega
theorem nwr_bit {bo st : Nat} {c : mu_CL} {p t : Nat} : ∀ K, (nwr bo st c p K).testBit t = true ↔ ∃ k, k < K ∧ nxc bo st (cl_o c k) (cl_n c k) p = 1 ∧ (cl_o c k).testBit t = true
  | 0 => by
    rw [nwr, Nat.zero_testBit]
    exact ⟨fun h => absurd h (by decide), fun ⟨k, h, _⟩ => absurd h (Nat.not_lt_zero k)⟩
  | K + 1 => by
    rw [nwr, Nat.testBit_or, Bool.or_eq_true, nwr_bit K]
    have h1 := nxc_le bo st (cl_o c K) (cl_n c K) p
    constructor
    · rintro (⟨k, a1, a2⟩ | a)
      · exact ⟨k, by omega, a2⟩
      · by_cases e : nxc bo st (cl_o c K) (cl_n c K) p = 1
        · rw [e, Nat.one_mul] at a; exact ⟨K, by omega, e, a⟩
        · rw [show nxc bo st (cl_o c K) (cl_n c K) p = 0 by omega, Nat.zero_mul, Nat.zero_testBit] at a; cases a
    · rintro ⟨k, a1, a2, a3⟩
      by_cases e : k = K
      · right; rw [← e, a2, Nat.one_mul]; exact a3
      · exact Or.inl ⟨k, by omega, a2, a3⟩
theorem nwr_pat {r : mu_RS} (hnb : rs_nb r = 4 ∨ rs_nb r = 6 ∨ rs_nb r = 8) {R C dw : Nat} (h : R * C ≤ 16) {p : Nat} (hin : ∀ x y, x < C + 4 → y < R + 4 → sp_nx r R C p x y = 1 → pt_in (C + 4) (R + 4) 2 x y) : PAT (C + 4) (R + 4) 2 (sp_nx r R C p) ((nwr (rs_bo r) (rs_st r) (lyc R C (rs_nb r) dw) p ((R + 2) * (C + 2)) : Nat) : Int) := by
  have eR : R + 4 - 2 * 2 = R := by omega
  have eC : C + 4 - 2 * 2 = C := by omega
  refine Or.inr ⟨_, rfl, by rw [pat_sz]; exact nwr_lt (Kc := (R + 2) * (C + 2)) (fun k _ => by rw [ly_o]; exact bitN_2) _ (Nat.le_refl _), hin, fun i j hi hj => ?_⟩
  rw [eR] at hi
  rw [eC] at hj ⊢
  rw [nwr_bit]
  obtain ⟨e1, e2⟩ := ly_at (C := C) (y := i + 1) (x := j + 1) (by omega)
  have f1 : lyi C ((C + 2) * (i + 1) + (j + 1)) = (i : Int) := by rw [e1]; omega
  have f2 : lyj C ((C + 2) * (i + 1) + (j + 1)) = (j : Int) := by rw [e2]; omega
  have hx := nxc_eq (r := r) hnb h p (i := (i : Int)) (j := (j : Int)) (by omega) (by omega)
  rw [show ((j : Int) + 2).toNat = j + 2 by omega, show ((i : Int) + 2).toNat = i + 2 by omega] at hx
  constructor
  · rintro ⟨k, hk, a1, a2⟩
    rw [ly_o] at a2
    rw [ly_o, ly_n] at a1
    have hq : 0 ≤ lyi C k ∧ lyi C k < R ∧ 0 ≤ lyj C k ∧ lyj C k < C := by
      by_cases q : 0 ≤ lyi C k ∧ lyi C k < R ∧ 0 ≤ lyj C k ∧ lyj C k < C
      · exact q
      · rw [bitN_out q, Nat.zero_testBit] at a2; cases a2
    rw [bitN_in hq, Nat.testBit_two_pow, decide_eq_true_eq, Nat.mul_comm, Nat.mul_comm i] at a2
    have a3 := gs_inj (C := C) (by omega) hj a2
    rw [show lyi C k = (i : Int) by omega, show lyj C k = (j : Int) by omega, hx] at a1
    exact a1
  · intro a
    refine ⟨(C + 2) * (i + 1) + (j + 1), ly_k (by omega) (by omega), ?_, ?_⟩
    · rw [ly_o, ly_n, f1, f2, hx]; exact a
    · rw [ly_o, f1, f2, bitN_in (by omega), Nat.testBit_two_pow, Int.toNat_natCast, Int.toNat_natCast, decide_eq_true_eq]
/-- what a cell has to be, of the first t cells of the pattern o -/
def dT (R C o t : Nat) (i j : Int) : Nat := if (1 ≤ i ∧ i ≤ R ∧ 1 ≤ j ∧ j ≤ C) ∧ (i - 1).toNat * C + (j - 1).toNat < t then o / 2 ^ ((i - 1).toNat * C + (j - 1).toNat) % 2 else 0
def anc (R C nb o t : Nat) : mu_CL := fun k => (bitN (lyi (C + 2) k) (lyj (C + 2) k) (R + 2) (C + 2), nrN (lyi (C + 2) k) (lyj (C + 2) k) (R + 2) (C + 2) nb, dT R C o t (lyi (C + 2) k) (lyj (C + 2) k))
theorem an_o (R C nb o t k : Nat) : cl_o (anc R C nb o t) k = bitN (lyi (C + 2) k) (lyj (C + 2) k) (R + 2) (C + 2) := rfl
theorem an_n (R C nb o t k : Nat) : cl_n (anc R C nb o t) k = nrN (lyi (C + 2) k) (lyj (C + 2) k) (R + 2) (C + 2) nb := rfl
theorem an_d (R C nb o t k : Nat) : cl_d (anc R C nb o t) k = dT R C o t (lyi (C + 2) k) (lyj (C + 2) k) := rfl
theorem dT_le (R C o t : Nat) (i j : Int) : dT R C o t i j ≤ 1 := by unfold dT; split <;> omega
theorem dT_0 (R C o : Nat) (i j : Int) : dT R C o 0 i j = 0 := by unfold dT; rw [if_neg (by omega)]
theorem dT_S {R C o t : Nat} {i j : Int} : dT R C o (t + 1) i j = if (1 ≤ i ∧ i ≤ R ∧ 1 ≤ j ∧ j ≤ C) ∧ (i - 1).toNat * C + (j - 1).toNat = t then o / 2 ^ t % 2 else dT R C o t i j := by
  unfold dT
  by_cases q : (1 ≤ i ∧ i ≤ R ∧ 1 ≤ j ∧ j ≤ C) ∧ (i - 1).toNat * C + (j - 1).toNat = t
  · rw [if_pos q, if_pos ⟨q.1, by omega⟩, q.2]
  · rw [if_neg q]
    by_cases q2 : (1 ≤ i ∧ i ≤ R ∧ 1 ≤ j ∧ j ≤ C) ∧ (i - 1).toNat * C + (j - 1).toNat < t
    · rw [if_pos q2, if_pos ⟨q2.1, by omega⟩]
    · rw [if_neg q2, if_neg (fun q3 => q2 ⟨q3.1, by have := q3.2; have : ¬ (i - 1).toNat * C + (j - 1).toNat = t := fun e => q ⟨q3.1, e⟩; omega⟩)]
theorem pat_anc {r : mu_RS} (hbo : rs_bo r % 2 = 0) {R C p o : Nat} (ho : o < 2 ^ (R * C)) : (∀ i j : Int, -1 ≤ i → i ≤ ((R + 2 : Nat) : Int) → -1 ≤ j → j ≤ ((C + 2 : Nat) : Int) → sp_nx r (R + 2) (C + 2) p (j + 2).toNat (i + 2).toNat = dT R C o (R * C) i j) ↔ PAT (C + 2 + 4) (R + 2 + 4) 3 (sp_nx r (R + 2) (C + 2) p) (o : Int) := by
  have eR : R + 2 + 4 - 2 * 3 = R := by omega
  have eC : C + 2 + 4 - 2 * 3 = C := by omega
  have hix : ∀ i j : Nat, i < R → j < C → i * C + j < R * C := fun i j hi hj => by
    have h1 : (i + 1) * C ≤ R * C := Nat.mul_le_mul_right C hi
    rw [Nat.add_mul, Nat.one_mul] at h1
    omega
  constructor
  · intro h
    refine Or.inr ⟨o, rfl, by rw [eR, eC]; exact ho, fun x y hx hy h1 => ?_, fun i j hi hj => ?_⟩
    · by_cases q : x = 0 ∨ (C + 2) + 3 ≤ x ∨ y = 0 ∨ (R + 2) + 3 ≤ y
      · rw [nx_ring hbo q] at h1; cases h1
      · have h2 := h ((y : Int) - 2) ((x : Int) - 2) (by omega) (by omega) (by omega) (by omega)
        rw [show ((x : Int) - 2 + 2).toNat = x by omega, show ((y : Int) - 2 + 2).toNat = y by omega, h1] at h2
        unfold dT at h2
        by_cases q2 : (1 ≤ (y : Int) - 2 ∧ (y : Int) - 2 ≤ R ∧ 1 ≤ (x : Int) - 2 ∧ (x : Int) - 2 ≤ C) ∧ ((y : Int) - 2 - 1).toNat * C + ((x : Int) - 2 - 1).toNat < R * C
        · have q3 := q2.1
          unfold pt_in; omega
        · rw [if_neg q2] at h2; cases h2
    · rw [eR] at hi
      rw [eC] at hj ⊢
      have h2 := h ((i : Int) + 1) ((j : Int) + 1) (by omega) (by omega) (by omega) (by omega)
      unfold dT at h2
      rw [show ((j : Int) + 1 + 2).toNat = j + 3 by omega, show ((i : Int) + 1 + 2).toNat = i + 3 by omega, show ((i : Int) + 1 - 1).toNat = i by omega, show ((j : Int) + 1 - 1).toNat = j by omega, if_pos ⟨by omega, hix i j hi hj⟩] at h2
      rw [h2, Nat.testBit_eq_decide_div_mod_eq, decide_eq_true_eq]
  · intro h i j h1 h2 h3 h4
    rcases h with ⟨e, _⟩ | ⟨n, e, g1, g2, g3⟩
    · omega
    · have e2 : n = o := by omega
      subst e2
      have hle := nx_le r (R + 2) (C + 2) p (j + 2).toNat (i + 2).toNat
      unfold dT
      by_cases q : 1 ≤ i ∧ i ≤ R ∧ 1 ≤ j ∧ j ≤ C
      · have g4 := g3 (i - 1).toNat (j - 1).toNat (by omega) (by omega)
        rw [eC, show (j - 1).toNat + 3 = (j + 2).toNat by omega, show (i - 1).toNat + 3 = (i + 2).toNat by omega, Nat.testBit_eq_decide_div_mod_eq, decide_eq_true_eq] at g4
        rw [if_pos ⟨q, hix _ _ (by omega) (by omega)⟩]
        omega
      · rw [if_neg (fun q2 => q q2.1)]
        by_cases q2 : sp_nx r (R + 2) (C + 2) p (j + 2).toNat (i + 2).toNat = 1
        · have := g2 _ _ (by omega) (by omega) q2
          unfold pt_in at this
          omega
        · omega
theorem anc_iff {r : mu_RS} (hnb : rs_nb r = 4 ∨ rs_nb r = 6 ∨ rs_nb r = 8) (hbo : rs_bo r % 2 = 0) {R C : Nat} (h : (R + 2) * (C + 2) ≤ 16) {o p : Nat} (ho : o < 2 ^ (R * C)) : okP (rs_bo r) (rs_st r) ((R + 2 + 2) * (C + 2 + 2)) (anc R C (rs_nb r) o (R * C)) ((R + 2) * (C + 2)) p ↔ PAT (C + 2 + 4) (R + 2 + 4) 3 (sp_nx r (R + 2) (C + 2) p) (o : Int) := by
  rw [okP_iff (R := R + 2) (C := C + 2) (nb := rs_nb r) hbo (fun k _ => rfl) (fun k _ => rfl) (fun k hk q => by
    rw [an_o] at q
    rw [an_d]
    unfold dT
    by_cases q2 : 1 ≤ lyi (C + 2) k ∧ lyi (C + 2) k ≤ R ∧ 1 ≤ lyj (C + 2) k ∧ lyj (C + 2) k ≤ C
    · rw [bitN_in (by omega)] at q
      have := Nat.two_pow_pos ((lyi (C + 2) k).toNat * (C + 2) + (lyj (C + 2) k).toNat)
      omega
    · rw [if_neg (fun q3 => q2 q3.1)]), ← pat_anc hbo ho]
  have h1 := ly_all (R := R + 2) (C := C + 2) (Q := fun i j => nxc (rs_bo r) (rs_st r) (bitN i j (R + 2) (C + 2)) (nrN i j (R + 2) (C + 2) (rs_nb r)) p = dT R C o (R * C) i j)
  have ha : ∀ k, agc (rs_bo r) (rs_st r) (anc R C (rs_nb r) o (R * C)) k p ↔ nxc (rs_bo r) (rs_st r) (bitN (lyi (C + 2) k) (lyj (C + 2) k) (R + 2) (C + 2)) (nrN (lyi (C + 2) k) (lyj (C + 2) k) (R + 2) (C + 2) (rs_nb r)) p = dT R C o (R * C) (lyi (C + 2) k) (lyj (C + 2) k) := fun k => by
    unfold agc
    rw [an_o, an_n, an_d, if_neg (by have := dT_le R C o (R * C) (lyi (C + 2) k) (lyj (C + 2) k); omega)]
  constructor
  · intro g i j a1 a2 a3 a4
    rw [← nxc_eq hnb h p ⟨a1, a2⟩ ⟨a3, a4⟩]
    exact h1.mp (fun k hk => (ha k).mp (g k hk (by rw [an_d]; have := dT_le R C o (R * C) (lyi (C + 2) k) (lyj (C + 2) k); omega))) i j a1 a2 a3 a4
  · intro g k hk _
    exact (ha k).mpr (h1.mpr (fun i j a1 a2 a3 a4 => by rw [nxc_eq hnb h p ⟨a1, a2⟩ ⟨a3, a4⟩]; exact g i j a1 a2 a3 a4) k hk)
