/-! ===== the box of a field of the class ===== -/
theorem cntX_word {c : Nat → Nat → Nat} (hc : ∀ i j, c i j ≤ 1) (y : Nat) : ∀ n b v, (∀ i, i < n → v.testBit i = decide (c (b + i) y = 1)) → cntX c y (b + n) = cntX c y b + pcn n v
  | 0, b, v, _ => rfl
  | n + 1, b, v, h => by
    have h0 := h 0 (by omega)
    have h1 := cntX_word hc y n (b + 1) (v / 2) (fun i hi => by
      rw [Nat.testBit_div_two, h (i + 1) (by omega), show b + (i + 1) = b + 1 + i by omega])
    have h2 := hc b y
    rw [show b + (n + 1) = b + 1 + n by omega, h1, cntX, pcn]
    rw [Nat.testBit_zero, Nat.add_zero] at h0
    by_cases e : c b y = 1
    · rw [e] at h0 ⊢
      have : v % 2 = 1 := of_decide_eq_true (h0.trans (decide_eq_true rfl))
      omega
    · have : ¬ v % 2 = 1 := of_decide_eq_false (h0.trans (decide_eq_false e))
      omega
theorem cntX_z {c : Nat → Nat → Nat} {y : Nat} : ∀ n, cntX c y n = 0 → ∀ i, i < n → c i y = 0
  | 0, _, i, hi => absurd hi (Nat.not_lt_zero i)
  | n + 1, h, i, hi => by
    rw [cntX] at h
    by_cases e : i = n
    · rw [e]; omega
    · exact cntX_z n (by omega) i (by omega)
theorem cntX_0 {c : Nat → Nat → Nat} {y : Nat} : ∀ n, (∀ i, i < n → c i y = 0) → cntX c y n = 0
  | 0, _ => rfl
  | n + 1, h => by rw [cntX, cntX_0 n (fun i hi => h i (by omega)), h n (by omega)]
theorem cntX_p {c : Nat → Nat → Nat} (hc : ∀ i j, c i j ≤ 1) {y n : Nat} (h : cntX c y n ≠ 0) : ∃ i, i < n ∧ c i y = 1 := by
  refine Classical.byContradiction (fun hh => h (cntX_0 n (fun i hi => ?_)))
  have := hc i y
  by_cases e : c i y = 1
  · exact absurd ⟨i, hi, e⟩ hh
  · omega
theorem cntR_z {c : Nat → Nat → Nat} : ∀ n, cntR c n = 0 → ∀ i j, i < 256 → j < n → c i j = 0
  | 0, _, _, j, _, hj => absurd hj (Nat.not_lt_zero j)
  | n + 1, h, i, j, hi, hj => by
    rw [cntR] at h
    by_cases e : j = n
    · rw [e]; exact cntX_z 256 (by omega) i hi
    · exact cntR_z n (by omega) i j hi (by omega)
theorem cntR_same {c : Nat → Nat → Nat} {y : Nat} : ∀ n, (∀ i j, i < 256 → y ≤ j → j < y + n → c i j = 0) → cntR c (y + n) = cntR c y
  | 0, _ => rfl
  | n + 1, h => by rw [show y + (n + 1) = (y + n) + 1 by omega, cntR, cntR_same n (fun i j hi h1 h2 => h i j hi h1 (by omega)), cntX_0 256 (fun i hi => h i (y + n) hi (by omega) (by omega)), Nat.add_zero]
def CMx (c : Nat → Nat → Nat) (L R U D : Int) (M : Nat) : Prop := (M = 0 ∧ L = 0 ∧ R = 0 ∧ U = 0 ∧ D = 0 ∧ LKP c 256 0 256 (-1) 256 (-1) 0) ∨ (M ≠ 0 ∧ LKP c 256 0 L R U D M)
def CFm (w : mu_W) (a : Nat) (L R U D : Int) (M : Nat) : Prop := mu_iv w a 5 = mI M ∧ mu_iv w a 6 = mI L ∧ mu_iv w a 7 = mI U ∧ mu_iv w a 8 = mI R ∧ mu_iv w a 9 = mI D
theorem CFm.fi {S : Nat → Nat → Prop} {w w' : mu_W} {a : Nat} {L R U D : Int} {M : Nat} (h : CFm w a L R U D M) (hF : mu_Fi S w w') (hn : ∀ j, 5 ≤ j → j ≤ 9 → ¬ S a j) : CFm w' a L R U D M := ⟨hF.iv (hn 5 (by decide) (by decide)) h.1, hF.iv (hn 6 (by decide) (by decide)) h.2.1, hF.iv (hn 7 (by decide) (by decide)) h.2.2.1, hF.iv (hn 8 (by decide) (by decide)) h.2.2.2.1, hF.iv (hn 9 (by decide) (by decide)) h.2.2.2.2⟩
def meS (a : Nat) : Nat → Nat → Prop := fun e j => (e = a ∧ 5 ≤ j ∧ j ≤ 9) ∨ e = a + 2
def me_post (w : mu_W) (a : Nat) (c : Nat → Nat → Nat) (r : Option Value) (w' : mu_W) : Prop := r = none ∧ mu_Fi (meS a) w w' ∧ ∃ L R U D M, CMx c L R U D M ∧ CFm w' a L R U D M
/-- rows before y measured -/
def MEp (s : mu_W) (a : Nat) (c : Nat → Nat → Nat) (y M : Nat) (U D : Int) : Prop := M = cntR c y ∧ CFm s a 0 0 U D M ∧ (M = 0 → U = 0 ∧ D = 0) ∧ (M ≠ 0 → 0 ≤ U ∧ U ≤ D ∧ D < y ∧ (∃ i, i < 256 ∧ c i U.toNat = 1) ∧ (∃ i, i < 256 ∧ c i D.toNat = 1) ∧ ∀ i j, i < 256 → j < y → c i j = 1 → U ≤ j ∧ (j : Int) ≤ D)
def MEc (s : mu_W) (a : Nat) (c : Nat → Nat → Nat) (y k : Nat) : Prop := ∀ x, x < 256 → (b4 s (a + 2) 0 x = true ↔ ∃ j, j < (if x / 64 < k then y + 1 else y) ∧ c x j = 1)
theorem MEp.toEnd {s : mu_W} {a : Nat} {c : Nat → Nat → Nat} {y M : Nat} {U D : Int} (hc : ∀ i j, c i j ≤ 1) (h : MEp s a c y M U D) (hy : y ≤ 256) (hz : ∀ i j, i < 256 → y ≤ j → j < 256 → c i j = 1 → False) : MEp s a c 256 M U D := by
  have h0 : ∀ i j, i < 256 → y ≤ j → j < 256 → c i j = 0 := fun i j h1 h2 h3 => by
    have := hc i j
    by_cases e : c i j = 1
    · exact absurd e (hz i j h1 h2 h3)
    · omega
  obtain ⟨g1, g2, g3, g4⟩ := h
  have e := cntR_same (c := c) (y := y) (256 - y) (fun i j h1 h2 h3 => h0 i j h1 h2 (by omega))
  rw [show y + (256 - y) = 256 by omega] at e
  refine ⟨g1.trans e.symm, g2, g3, fun hM => ?_⟩
  obtain ⟨q1, q2, q3, q4, q5, q6⟩ := g4 hM
  refine ⟨q1, q2, by omega, q4, q5, fun i j hi hj h1 => ?_⟩
  by_cases e : j < y
  · exact q6 i j hi e h1
  · exact (hz i j hi (by omega) hj h1).elim
theorem MEc.toEnd {s : mu_W} {a : Nat} {c : Nat → Nat → Nat} {y : Nat} (h : MEc s a c y 0) (hy : y ≤ 256) (hz : ∀ i j, i < 256 → y ≤ j → j < 256 → c i j = 1 → False) : MEc s a c 256 0 := fun x hx => by
  rw [h x hx, if_neg (Nat.not_lt_zero _), if_neg (Nat.not_lt_zero _)]
  constructor
  · exact fun ⟨j, h1, h2⟩ => ⟨j, by omega, h2⟩
  · refine fun ⟨j, h1, h2⟩ => ⟨j, ?_, h2⟩
    by_cases e : j < y
    · exact e
    · exact (hz x j hx (by omega) h1 h2).elim
theorem MEc.row {s : mu_W} {a : Nat} {c : Nat → Nat → Nat} {y : Nat} (h : MEc s a c y 4) : MEc s a c (y + 1) 0 := fun x hx => by rw [h x hx, if_pos (by omega), if_neg (Nat.not_lt_zero _)]
theorem MEp.dead {s : mu_W} {a : Nat} {c : Nat → Nat → Nat} {y M : Nat} {U D : Int} (h : MEp s a c y M U D) (h0 : cntX c y 256 = 0) : MEp s a c (y + 1) M U D := by
  obtain ⟨g1, g2, g3, g4⟩ := h
  refine ⟨by rw [cntR, h0]; exact g1, g2, g3, fun hM => ?_⟩
  obtain ⟨q1, q2, q3, q4, q5, q6⟩ := g4 hM
  refine ⟨q1, q2, by omega, q4, q5, fun i j hi hj h1 => ?_⟩
  by_cases e : j = y
  · rw [e, cntX_z 256 h0 i hi] at h1; cases h1
  · exact q6 i j hi (by omega) h1
theorem MEp.live {s s' : mu_W} {a : Nat} {c : Nat → Nat → Nat} (hc : ∀ i j, c i j ≤ 1) {y M M' : Nat} {U D U' : Int} (h : MEp s a c y M U D) (h0 : cntX c y 256 ≠ 0) (hU : (M = 0 → U' = y) ∧ (M ≠ 0 → U' = U)) (hM' : M' = M + cntX c y 256) (hs : CFm s' a 0 0 U' y M') : MEp s' a c (y + 1) M' U' y := by
  obtain ⟨g1, g2, g3, g4⟩ := h
  obtain ⟨i0, hi0, hc0⟩ := cntX_p hc h0
  refine ⟨by rw [cntR, hM', g1], hs, fun e => by clear g4 g3 g2; omega, fun _ => ?_⟩
  by_cases e : M = 0
  · rw [hU.1 e]
    refine ⟨by omega, by omega, by omega, ⟨i0, hi0, by rw [Int.toNat_natCast]; exact hc0⟩, ⟨i0, hi0, by rw [Int.toNat_natCast]; exact hc0⟩, fun i j hi hj h1 => ?_⟩
    by_cases e2 : j = y
    · omega
    · rw [cntR_z (c := c) y (by omega) i j hi (by omega)] at h1; cases h1
  · rw [hU.2 e]
    obtain ⟨q1, q2, q3, q4, q5, q6⟩ := g4 e
    refine ⟨q1, by omega, by omega, q4, ⟨i0, hi0, by rw [Int.toNat_natCast]; exact hc0⟩, fun i j hi hj h1 => ?_⟩
    by_cases e2 : j = y
    · omega
    · have := q6 i j hi (by omega) h1; omega
theorem ME_fin {s : mu_W} {a : Nat} {c : Nat → Nat → Nat} {M x z : Nat} {U D : Int} (h : MEp s a c 256 M U D) (hC : MEc s a c 256 0) (hM : M ≠ 0) (hx : x < 256) (hx1 : b4 s (a + 2) 0 x = true) (hx2 : ∀ j, j < x → b4 s (a + 2) 0 j = false) (hz : z < 256) (hz1 : b4 s (a + 2) 0 z = true) (hz2 : ∀ j, z < j → j < 256 → b4 s (a + 2) 0 j = false) : CMx c x z U D M := by
  obtain ⟨g1, g2, g3, g4⟩ := h
  obtain ⟨q1, q2, q3, q4, q5, q6⟩ := g4 hM
  have hb : ∀ i j, i < 256 → j < 256 → c i j = 1 → b4 s (a + 2) 0 i = true := fun i j hi hj h1 => (hC i hi).mpr ⟨j, by rw [if_neg (Nat.not_lt_zero _)]; exact hj, h1⟩
  obtain ⟨j1, hj1, hc1⟩ := (hC x hx).mp hx1
  obtain ⟨j2, hj2, hc2⟩ := (hC z hz).mp hz1
  rw [if_neg (Nat.not_lt_zero _)] at hj1 hj2
  have hxz : x ≤ z := by
    refine Classical.byContradiction (fun hh => ?_)
    have := hz2 x (by omega) hx
    rw [hx1] at this; cases this
  refine Or.inr ⟨hM, by rw [cntX, Nat.add_zero]; exact g1, fun i j hi hj h1 => ?_, fun e => absurd e hM, fun _ => ⟨⟨by omega, by omega, by omega, q1, q2, by omega⟩, ⟨j1, hj1, by rw [Int.toNat_natCast]; exact hc1⟩, ⟨j2, hj2, by rw [Int.toNat_natCast]; exact hc2⟩, q4, q5⟩⟩
  have hj' : j < 256 := by omega
  have h3 := hb i j hi hj' h1
  have h4 : x ≤ i := by
    refine Classical.byContradiction (fun hh => ?_)
    have := hx2 i (by omega)
    rw [h3] at this; cases this
  have h5 : i ≤ z := by
    refine Classical.byContradiction (fun hh => ?_)
    have := hz2 i (by omega) hi
    rw [h3] at this; cases this
  have := q6 i j hi hj' h1
  omega
theorem ME_none {s : mu_W} {a : Nat} {c : Nat → Nat → Nat} {M : Nat} {U D : Int} (h : MEp s a c 256 M U D) (hM : M = 0) : CMx c 0 0 U D M := by
  obtain ⟨g1, g2, g3, g4⟩ := h
  refine Or.inl ⟨hM, rfl, rfl, (g3 hM).1, (g3 hM).2, by rw [cntX, Nat.add_zero]; omega, fun i j hi hj h1 => ?_, fun _ => ⟨rfl, rfl, rfl, rfl⟩, fun e => absurd rfl e⟩
  rw [cntR_z (c := c) 256 (by omega) i j hi (by omega)] at h1; cases h1

set_option maxHeartbeats 4000000 in
set_option maxRecDepth 100000 in
theorem c_X1_measure (G : mu_G) {w : mu_W} {a : Nat} (ho : CFo w a) {c : Nat → Nat → Nat} (hb : CFb w a c) {p q : Nat} (hp : p < 256) (hq : q < 256) (hrow : ∀ i j, i < 256 → j < 256 → c i j = 1 → p ≤ j ∧ j ≤ q) : mu_Ct G M_X1_measure [.ref a, .int (mI p), .int (mI q)] w (me_post w a c) := by
  obtain ⟨ka, r0, k1, r1, k2⟩ := id ho
  refine mu_ofWA G M_X1_measure [.ref a, .int (mI p), .int (mI q), mu_no, mu_no, mu_no, mu_no, mu_no] (by decide) rfl (Nat.le_of_ble_eq_true rfl) ?_
  intro X E
  have B : mu_B X G cX1_measure RX1 8 (mu_rm M_X1_measure) := E.1
  have EX : ∀ (s : mu_W) (U D : Int) (M : Nat) (u3 : Int32), mu_Fi (meS a) w s → MEp s a c 256 M U D → MEc s a c 256 0 → mu_WA X G 8 (mu_Q X G M_X1_measure (me_post w a c)) s 0 0 150 [.ref a, .int (mI p), .int (mI q), .int u3, mu_no, mu_no, mu_no, mu_no] [] := by
    intro s U D M u3 hF hP hC
    have hMb := cntR_le hb.1 256
    have hM1 := hP.1
    have ks := hF.kd ka
    have rs1 := hF.rv r1
    have ks2 := hF.kd k2
    refine mu_al_0 B dX1_measure_150 ?_
    refine mu_getI B dX1_measure_151 fX1_46 rfl (by assumption) ?_
    rw [hP.2.1.1]
    refine mu_if_le (tgt := 180) B dX1_measure_154 (by decide) (fun c154 => ?_) (fun c154 => ?_)
    · try rw [mI_le0 ⟨by omega, by omega⟩] at c154
      have hM0 : M = 0 := by omega
      refine mu_vret E rfl (by decide) (by decide) dX1_measure_180 ?_
      first
        | exact ⟨rfl, hF, 0, 0, U, D, M, ME_none hP hM0, hP.2.1⟩
        | refine ⟨rfl, (hF.si (Or.inl ⟨rfl, by decide, by decide⟩)).si (Or.inl ⟨rfl, by decide, by decide⟩), x, z, U, D, M, ME_fin hP hC hM0 hx hx1 hx2 hz hz1 hz2, ?_⟩
          obtain ⟨f1, f2, f3, f4, f5⟩ := hP.2.1
          refine ⟨?_, ?_, ?_, ?_, ?_⟩ <;> simp [mu_iv_si, f1, f3, f5]
    · try rw [mI_le0 ⟨by omega, by omega⟩] at c154
      have hM0 : M ≠ 0 := by omega
      refine mu_al_0 B dX1_measure_157 ?_
      refine mu_al_0 B dX1_measure_158 ?_
      refine mu_getR B dX1_measure_159 fX1_13 rfl (by assumption) (by assumption) ?_
      refine mu_cS1 B dX1_measure_162 mX1_91 ⟨⟨by decide, by decide⟩, by decide, by decide⟩ (Nat.le_of_ble_eq_true rfl) (c_X1_lowestOf G ks2) (fun r162 w162 q162 => ?_)
      obtain ⟨rfl, ⟨x, hx, hx1, hx2, rfl⟩ | ⟨hno, rfl⟩⟩ := q162
      rotate_left
      · obtain ⟨i0, hi0, hc0⟩ := (hP.2.2.2 hM0).2.2.2.1
        have h9 := (hC i0 hi0).mpr ⟨U.toNat, by rw [if_neg (Nat.not_lt_zero _)]; have := hP.2.2.2 hM0; omega, hc0⟩
        rw [hno i0 hi0] at h9; cases h9
      refine mu_putI B dX1_measure_165 fX1_49 fwX1_6 rfl (by assumption) ?_
      refine mu_al_0 B dX1_measure_168 ?_
      refine mu_al_0 B dX1_measure_169 ?_
      refine mu_getR B dX1_measure_170 fX1_13 rfl (by assumption) (by assumption) ?_
      refine mu_iconst (v := mI 0) B dX1_measure_173 rfl ?_
      refine mu_cS2 B dX1_measure_174 mX1_95 ⟨⟨by decide, by decide⟩, by decide, by decide⟩ (Nat.le_of_ble_eq_true rfl) (c_X1_highestOf G (N := 4) (fr := 0) ks2 (by decide) (by decide)) (fun r174 w174 q174 => ?_)
      obtain ⟨rfl, ⟨z, hz, hz1, hz2, rfl⟩ | ⟨hno, rfl⟩⟩ := q174
      rotate_left
      · have h9 := hno x hx
        rw [show b4 (mu_si w162 a 6 (mI x)) (a + 2) 0 x = b4 w162 (a + 2) 0 x from rfl, hx1] at h9; cases h9
      refine mu_putI B dX1_measure_177 fX1_55 fwX1_8 rfl (by assumption) ?_
      refine mu_vret E rfl (by decide) (by decide) dX1_measure_180 ?_
      first
        | exact ⟨rfl, hF, 0, 0, U, D, M, ME_none hP hM0, hP.2.1⟩
        | refine ⟨rfl, (hF.si (Or.inl ⟨rfl, by decide, by decide⟩)).si (Or.inl ⟨rfl, by decide, by decide⟩), x, z, U, D, M, ME_fin hP hC hM0 hx hx1 hx2 hz hz1 hz2, ?_⟩
          obtain ⟨f1, f2, f3, f4, f5⟩ := hP.2.1
          refine ⟨?_, ?_, ?_, ?_, ?_⟩ <;> simp [mu_iv_si, f1, f3, f5]
  have LO : ∀ y (s : mu_W), y ≤ (256 : Nat) → (mu_Fi (meS a) w s ∧ ∃ U D M, MEp s a c y M U D ∧ MEc s a c y 0) → mu_WA X G 8 (mu_Q X G M_X1_measure (me_post w a c)) s 0 0 39 [.ref a, .int (mI p), .int (mI q), .int (mI y), mu_no, mu_no, mu_no, mu_no] [] := by
    refine mu_ind ((256 : Nat)) (fun y (s : mu_W) => mu_WA X G 8 (mu_Q X G M_X1_measure (me_post w a c)) s 0 0 39 [.ref a, .int (mI p), .int (mI q), .int (mI y), mu_no, mu_no, mu_no, mu_no] []) (fun y (s : mu_W) => mu_Fi (meS a) w s ∧ ∃ U D M, MEp s a c y M U D ∧ MEc s a c y 0) ?_
    intro y s hy ⟨hF, U, D, M, hP, hC⟩ ih
    refine mu_il_3 B dX1_measure_39 ?_
    refine mu_il_2 B dX1_measure_40 ?_
    refine mu_icmp_gt (tgt := 150) B dX1_measure_41 (by decide) (fun c41 => ?_) (fun c41 => ?_)
    · try rw [mI_lt ⟨by omega, by omega⟩ ⟨by omega, by omega⟩] at c41
      try rw [mI_lt ⟨by omega, by omega⟩ ⟨by omega, by omega⟩] at c41
      exact EX s U D M _ hF (hP.toEnd hb.1 hy (fun i j h1 h2 h3 h4 => by have := hrow i j h1 h3 h4; omega)) (hC.toEnd hy (fun i j h1 h2 h3 h4 => by have := hrow i j h1 h3 h4; omega))
    · try rw [mI_lt ⟨by omega, by omega⟩ ⟨by omega, by omega⟩] at c41
      refine mu_il_3 B dX1_measure_44 ?_
      refine mu_sipush (v := mI 256) B dX1_measure_45 (by decide) ?_
      refine mu_icmp_ge (tgt := 150) B dX1_measure_48 (by decide) (fun c48 => ?_) (fun c48 => ?_)
      · try rw [mI_le ⟨by omega, by omega⟩ ⟨by omega, by omega⟩] at c48
        try rw [mI_le ⟨by omega, by omega⟩ ⟨by omega, by omega⟩] at c48
        obtain rfl : 256 = y := by omega
        exact EX s U D M _ hF hP hC
      · try rw [mI_le ⟨by omega, by omega⟩ ⟨by omega, by omega⟩] at c48
        have AF : ∀ t : mu_W, mu_Fi (meS a) w t → CFm t a 0 0 U D M → MEc t a c y 4 → mu_WA X G 8 (mu_Q X G M_X1_measure (me_post w a c)) t 0 0 104 [.ref a, .int (mI p), .int (mI q), .int (mI y), .int (mI ((cntX c y (64 * 4) : Nat) : Int)), .int (mI ((4 : Nat) : Int)), mu_no, mu_no] [] := by
          intro t hFt hmt hct
          have hxb := cntX_le hb.1 y 256
          have hMb := cntR_le hb.1 y
          have hM1 := hP.1
          have kt := hFt.kd ka
          rw [show 64 * 4 = 256 from rfl]
          refine mu_il_4 B dX1_measure_104 ?_
          refine mu_if_le (tgt := 144) B dX1_measure_106 (by decide) (fun c106 => ?_) (fun c106 => ?_)
          · try rw [mI_le0 ⟨by omega, by omega⟩] at c106
            refine mu_inc_3 (c := mI 1) B dX1_measure_144 rfl (by decide) rfl ?_
            try rw [mI_add]
            refine mu_goto (tgt := 39) B dX1_measure_147 (by decide) ?_
            first
              | refine mu_fg (ih t (by omega) ⟨hFt, U, D, M, MEp.dead ⟨hP.1, hmt, hP.2.2⟩ (by omega), hct.row⟩) rfl (by rw [show ((y + 1 : Nat) : Int) = (y : Int) + 1 by omega]; exact ⟨Or.inl rfl, Or.inl rfl, Or.inl rfl, Or.inl rfl, Or.inr rfl, Or.inr rfl, Or.inl rfl, Or.inl rfl, trivial⟩)
              | refine mu_fg (ih _ (by omega) ⟨(((hFt.si (Or.inl ⟨rfl, by decide, by decide⟩)).si (Or.inl ⟨rfl, by decide, by decide⟩)).si (Or.inl ⟨rfl, by decide, by decide⟩)), (y : Int), (y : Int), M + cntX c y 256, MEp.live hb.1 hP (by omega) ⟨fun _ => rfl, fun e => absurd hM0 e⟩ rfl ?_, hct.row⟩) rfl (by rw [show ((y + 1 : Nat) : Int) = (y : Int) + 1 by omega]; exact ⟨Or.inl rfl, Or.inl rfl, Or.inl rfl, Or.inl rfl, Or.inr rfl, Or.inr rfl, Or.inl rfl, Or.inl rfl, trivial⟩)
                refine ⟨?_, ?_, ?_, ?_, ?_⟩ <;> simp [mu_iv_si, hmt.1, hmt.2.1, hmt.2.2.1, hmt.2.2.2.1, hmt.2.2.2.2]
              | refine mu_fg (ih _ (by omega) ⟨(((hFt.si (Or.inl ⟨rfl, by decide, by decide⟩)).si (Or.inl ⟨rfl, by decide, by decide⟩)).si (Or.inl ⟨rfl, by decide, by decide⟩)), U, (y : Int), M + cntX c y 256, MEp.live hb.1 hP (by omega) ⟨fun e => absurd e hM0, fun _ => rfl⟩ rfl ?_, hct.row⟩) rfl (by rw [show ((y + 1 : Nat) : Int) = (y : Int) + 1 by omega]; exact ⟨Or.inl rfl, Or.inl rfl, Or.inl rfl, Or.inl rfl, Or.inr rfl, Or.inr rfl, Or.inl rfl, Or.inl rfl, trivial⟩)
                refine ⟨?_, ?_, ?_, ?_, ?_⟩ <;> simp [mu_iv_si, hmt.1, hmt.2.1, hmt.2.2.1, hmt.2.2.2.1, hmt.2.2.2.2]
          · try rw [mI_le0 ⟨by omega, by omega⟩] at c106
            refine mu_al_0 B dX1_measure_109 ?_
            refine mu_al_0 B dX1_measure_110 ?_
            refine mu_getI B dX1_measure_111 fX1_46 rfl (by assumption) ?_
            rw [hmt.1]
            refine mu_if_ne (tgt := 121) B dX1_measure_114 (by decide) (fun c114 => ?_) (fun c114 => ?_)
            · try rw [mI_eq0 ⟨by omega, by omega⟩] at c114
              have hM0 : M ≠ 0 := by omega
              refine mu_al_0 B dX1_measure_121 ?_
              refine mu_getI B dX1_measure_122 fX1_52 rfl (by assumption) ?_
              rw [hmt.2.2.1]
              refine mu_putI B dX1_measure_125 fX1_52 fwX1_7 rfl (by assumption) ?_
              refine mu_al_0 B dX1_measure_128 ?_
              refine mu_il_3 B dX1_measure_129 ?_
              refine mu_putI B dX1_measure_130 fX1_58 fwX1_9 rfl (by assumption) ?_
              refine mu_al_0 B dX1_measure_133 ?_
              refine mu_dup B dX1_measure_134 rfl ?_
              refine mu_getI B dX1_measure_135 fX1_46 rfl (by assumption) ?_
              simp only [mu_iv_si]
              rw [if_neg (by omega), if_neg (by omega), hmt.1]
              refine mu_il_4 B dX1_measure_138 ?_
              refine mu_iadd B dX1_measure_140 ?_
              try rw [mI_add]
              refine mu_putI B dX1_measure_141 fX1_46 fwX1_5 rfl (by assumption) ?_
              refine mu_inc_3 (c := mI 1) B dX1_measure_144 rfl (by decide) rfl ?_
              try rw [mI_add]
              refine mu_goto (tgt := 39) B dX1_measure_147 (by decide) ?_
              first
                | refine mu_fg (ih t (by omega) ⟨hFt, U, D, M, MEp.dead ⟨hP.1, hmt, hP.2.2⟩ (by omega), hct.row⟩) rfl (by rw [show ((y + 1 : Nat) : Int) = (y : Int) + 1 by omega]; exact ⟨Or.inl rfl, Or.inl rfl, Or.inl rfl, Or.inl rfl, Or.inr rfl, Or.inr rfl, Or.inl rfl, Or.inl rfl, trivial⟩)
                | refine mu_fg (ih _ (by omega) ⟨(((hFt.si (Or.inl ⟨rfl, by decide, by decide⟩)).si (Or.inl ⟨rfl, by decide, by decide⟩)).si (Or.inl ⟨rfl, by decide, by decide⟩)), (y : Int), (y : Int), M + cntX c y 256, MEp.live hb.1 hP (by omega) ⟨fun _ => rfl, fun e => absurd hM0 e⟩ rfl ?_, hct.row⟩) rfl (by rw [show ((y + 1 : Nat) : Int) = (y : Int) + 1 by omega]; exact ⟨Or.inl rfl, Or.inl rfl, Or.inl rfl, Or.inl rfl, Or.inr rfl, Or.inr rfl, Or.inl rfl, Or.inl rfl, trivial⟩)
                  refine ⟨?_, ?_, ?_, ?_, ?_⟩ <;> simp [mu_iv_si, hmt.1, hmt.2.1, hmt.2.2.1, hmt.2.2.2.1, hmt.2.2.2.2]
                | refine mu_fg (ih _ (by omega) ⟨(((hFt.si (Or.inl ⟨rfl, by decide, by decide⟩)).si (Or.inl ⟨rfl, by decide, by decide⟩)).si (Or.inl ⟨rfl, by decide, by decide⟩)), U, (y : Int), M + cntX c y 256, MEp.live hb.1 hP (by omega) ⟨fun e => absurd e hM0, fun _ => rfl⟩ rfl ?_, hct.row⟩) rfl (by rw [show ((y + 1 : Nat) : Int) = (y : Int) + 1 by omega]; exact ⟨Or.inl rfl, Or.inl rfl, Or.inl rfl, Or.inl rfl, Or.inr rfl, Or.inr rfl, Or.inl rfl, Or.inl rfl, trivial⟩)
                  refine ⟨?_, ?_, ?_, ?_, ?_⟩ <;> simp [mu_iv_si, hmt.1, hmt.2.1, hmt.2.2.1, hmt.2.2.2.1, hmt.2.2.2.2]
            · try rw [mI_eq0 ⟨by omega, by omega⟩] at c114
              have hM0 : M = 0 := by omega
              refine mu_il_3 B dX1_measure_117 ?_
              refine mu_goto (tgt := 125) B dX1_measure_118 (by decide) ?_
              refine mu_putI B dX1_measure_125 fX1_52 fwX1_7 rfl (by assumption) ?_
              refine mu_al_0 B dX1_measure_128 ?_
              refine mu_il_3 B dX1_measure_129 ?_
              refine mu_putI B dX1_measure_130 fX1_58 fwX1_9 rfl (by assumption) ?_
              refine mu_al_0 B dX1_measure_133 ?_
              refine mu_dup B dX1_measure_134 rfl ?_
              refine mu_getI B dX1_measure_135 fX1_46 rfl (by assumption) ?_
              simp only [mu_iv_si]
              rw [if_neg (by omega), if_neg (by omega), hmt.1]
              refine mu_il_4 B dX1_measure_138 ?_
              refine mu_iadd B dX1_measure_140 ?_
              try rw [mI_add]
              refine mu_putI B dX1_measure_141 fX1_46 fwX1_5 rfl (by assumption) ?_
              refine mu_inc_3 (c := mI 1) B dX1_measure_144 rfl (by decide) rfl ?_
              try rw [mI_add]
              refine mu_goto (tgt := 39) B dX1_measure_147 (by decide) ?_
              first
                | refine mu_fg (ih t (by omega) ⟨hFt, U, D, M, MEp.dead ⟨hP.1, hmt, hP.2.2⟩ (by omega), hct.row⟩) rfl (by rw [show ((y + 1 : Nat) : Int) = (y : Int) + 1 by omega]; exact ⟨Or.inl rfl, Or.inl rfl, Or.inl rfl, Or.inl rfl, Or.inr rfl, Or.inr rfl, Or.inl rfl, Or.inl rfl, trivial⟩)
                | refine mu_fg (ih _ (by omega) ⟨(((hFt.si (Or.inl ⟨rfl, by decide, by decide⟩)).si (Or.inl ⟨rfl, by decide, by decide⟩)).si (Or.inl ⟨rfl, by decide, by decide⟩)), (y : Int), (y : Int), M + cntX c y 256, MEp.live hb.1 hP (by omega) ⟨fun _ => rfl, fun e => absurd hM0 e⟩ rfl ?_, hct.row⟩) rfl (by rw [show ((y + 1 : Nat) : Int) = (y : Int) + 1 by omega]; exact ⟨Or.inl rfl, Or.inl rfl, Or.inl rfl, Or.inl rfl, Or.inr rfl, Or.inr rfl, Or.inl rfl, Or.inl rfl, trivial⟩)
                  refine ⟨?_, ?_, ?_, ?_, ?_⟩ <;> simp [mu_iv_si, hmt.1, hmt.2.1, hmt.2.2.1, hmt.2.2.2.1, hmt.2.2.2.2]
                | refine mu_fg (ih _ (by omega) ⟨(((hFt.si (Or.inl ⟨rfl, by decide, by decide⟩)).si (Or.inl ⟨rfl, by decide, by decide⟩)).si (Or.inl ⟨rfl, by decide, by decide⟩)), U, (y : Int), M + cntX c y 256, MEp.live hb.1 hP (by omega) ⟨fun e => absurd e hM0, fun _ => rfl⟩ rfl ?_, hct.row⟩) rfl (by rw [show ((y + 1 : Nat) : Int) = (y : Int) + 1 by omega]; exact ⟨Or.inl rfl, Or.inl rfl, Or.inl rfl, Or.inl rfl, Or.inr rfl, Or.inr rfl, Or.inl rfl, Or.inl rfl, trivial⟩)
                  refine ⟨?_, ?_, ?_, ?_, ?_⟩ <;> simp [mu_iv_si, hmt.1, hmt.2.1, hmt.2.2.1, hmt.2.2.2.1, hmt.2.2.2.2]
        have LI : ∀ k (t : mu_W), k ≤ (4 : Nat) → (mu_Fi (meS a) w t ∧ CFm t a 0 0 U D M ∧ MEc t a c y k) → mu_WA X G 8 (mu_Q X G M_X1_measure (me_post w a c)) t 0 0 57 [.ref a, .int (mI p), .int (mI q), .int (mI y), .int (mI ((cntX c y (64 * k) : Nat) : Int)), .int (mI k), mu_no, mu_no] [] := by
          refine mu_ind ((4 : Nat)) (fun k (t : mu_W) => mu_WA X G 8 (mu_Q X G M_X1_measure (me_post w a c)) t 0 0 57 [.ref a, .int (mI p), .int (mI q), .int (mI y), .int (mI ((cntX c y (64 * k) : Nat) : Int)), .int (mI k), mu_no, mu_no] []) (fun k (t : mu_W) => mu_Fi (meS a) w t ∧ CFm t a 0 0 U D M ∧ MEc t a c y k) ?_
          intro k t hk ⟨hFt, hmt, hct⟩ iht
          have hbt := hb.fi hFt (fun j hh => by rcases hh with hh | hh <;> omega)
          have kt := hFt.kd ka
          have kt1 := hFt.kd k1
          have kt2 := hFt.kd k2
          have rt0 := hFt.rv r0
          have rt1 := hFt.rv r1
          have hcw : k < 4 → cntX c y (64 * (k + 1)) = cntX c y (64 * k) + pcn 64 (un (mu_lg t (a + 1) (4 * y + k))) := fun hk4 => by
            rw [show 64 * (k + 1) = 64 * k + 64 by omega]
            refine cntX_word hb.1 y 64 (64 * k) _ (fun i hi => ?_)
            have h3 := hbt.2 (64 * k + i) y (by omega) (by omega)
            rw [show (64 * k + i) / 64 = k by omega, show (64 * k + i) % 64 = i by omega] at h3
            rw [← lb_un, h3]
          refine mu_il_5 B dX1_measure_57 ?_
          refine mu_iconst (v := mI 4) B dX1_measure_59 rfl ?_
          refine mu_icmp_ge (tgt := 104) B dX1_measure_60 (by decide) (fun c60 => ?_) (fun c60 => ?_)
          · try rw [mI_le ⟨by omega, by omega⟩ ⟨by omega, by omega⟩] at c60
            try rw [mI_le ⟨by omega, by omega⟩ ⟨by omega, by omega⟩] at c60
            obtain rfl : 4 = k := by omega
            exact AF t hFt hmt hct
          · try rw [mI_le ⟨by omega, by omega⟩ ⟨by omega, by omega⟩] at c60
            refine mu_al_0 B dX1_measure_63 ?_
            refine mu_getR B dX1_measure_64 fX1_9 rfl (by assumption) (by assumption) ?_
            refine mu_il_3 B dX1_measure_67 ?_
            refine mu_iconst (v := mI 4) B dX1_measure_68 rfl ?_
            refine mu_imul B dX1_measure_69 ?_
            try rw [mI_mul]
            refine mu_il_5 B dX1_measure_70 ?_
            refine mu_iadd B dX1_measure_72 ?_
            try rw [mI_add]
            rw [show (y : Int) * 4 + (k : Int) = ((4 * y + k : Nat) : Int) by omega]
            refine mu_lald B dX1_measure_73 kt1 (mI_inN (by omega) (by decide)) ?_
            rw [mI_clampN (by omega)]
            refine mu_ls_6 B dX1_measure_74 (by decide) rfl ?_
            refine mu_al_0 B dX1_measure_76 ?_
            refine mu_getR B dX1_measure_77 fX1_13 rfl (by assumption) (by assumption) ?_
            refine mu_il_5 B dX1_measure_80 ?_
            refine mu_dup2_11 B dX1_measure_82 rfl rfl ?_
            refine mu_lald B dX1_measure_83 kt2 (mI_inN (by omega) (by decide)) ?_
            rw [mI_clampN (by omega)]
            refine mu_ll_6 B dX1_measure_84 ?_
            refine mu_lor B dX1_measure_86 ?_
            refine mu_last B dX1_measure_87 kt2 (mI_inN (by omega) (by decide)) ?_
            rw [mI_clampN (by omega)]
            refine mu_il_4 B dX1_measure_88 ?_
            refine mu_ll_6 B dX1_measure_90 ?_
            refine mu_eS1 B dX1_measure_92 mX1_85 ⟨⟨by decide, by decide⟩, by decide, by decide⟩ (Nat.le_of_ble_eq_true rfl) (c_J13_bitCount G) ?_
            refine mu_iadd B dX1_measure_95 ?_
            try rw [mI_add]
            rw [show ((cntX c y (64 * k) : Nat) : Int) + ((pcn 64 (un (mu_lg t (a + 1) (4 * y + k))) : Nat) : Int) = ((cntX c y (64 * (k + 1)) : Nat) : Int) by rw [hcw (by omega)]; omega]
            refine mu_is_4 B dX1_measure_96 (by decide) rfl ?_
            refine mu_inc_5 (c := mI 1) B dX1_measure_98 rfl (by decide) rfl ?_
            try rw [mI_add]
            refine mu_goto (tgt := 57) B dX1_measure_101 (by decide) ?_
            refine mu_fg (iht (mu_sl t (a + 2) k (mu_lg t (a + 2) k ||| mu_lg t (a + 1) (4 * y + k))) (by omega) ⟨hFt.sl (Or.inr rfl), hmt, fun x hx => ?_⟩) rfl (by rw [show ((k + 1 : Nat) : Int) = (k : Int) + 1 by omega]; exact ⟨Or.inl rfl, Or.inl rfl, Or.inl rfl, Or.inl rfl, Or.inl rfl, Or.inl rfl, Or.inr rfl, Or.inr rfl, trivial⟩)
            have h7 := hct x hx
            unfold b4 at h7 ⊢
            rw [Nat.zero_add] at h7 ⊢
            by_cases e9 : x / 64 = k
            · rw [e9] at h7 ⊢
              rw [mu_lg_same, lb_or, Bool.or_eq_true, h7, if_neg (Nat.lt_irrefl k), if_pos (Nat.lt_succ_self k)]
              have h8 := hbt.2 x y hx (by omega)
              rw [e9] at h8
              rw [h8]
              constructor
              · rintro (⟨j, h1, h2⟩ | h1)
                · exact ⟨j, by omega, h2⟩
                · exact ⟨y, by omega, of_decide_eq_true h1⟩
              · rintro ⟨j, h1, h2⟩
                by_cases e8 : j = y
                · right; rw [← e8]; exact decide_eq_true h2
                · left; exact ⟨j, by omega, h2⟩
            · rw [mu_lg_oth _ _ (fun q => e9 q.2), h7]
              have e7 : (if x / 64 < k + 1 then y + 1 else y) = (if x / 64 < k then y + 1 else y) := by
                by_cases e6 : x / 64 < k
                · rw [if_pos e6, if_pos (by omega)]
                · rw [if_neg e6, if_neg (by omega)]
              rw [e7]
        refine mu_iconst (v := mI 0) B dX1_measure_51 rfl ?_
        refine mu_is_4 B dX1_measure_52 (by decide) rfl ?_
        refine mu_iconst (v := mI 0) B dX1_measure_54 rfl ?_
        refine mu_is_5 B dX1_measure_55 (by decide) rfl ?_
        exact LI 0 s (by decide) ⟨hF, hP.2.1, hC⟩
  show mu_WA X G 8 _ _ 0 0 0 _ []
  refine mu_al_0 B dX1_measure_0 ?_
  refine mu_iconst (v := mI 0) B dX1_measure_1 rfl ?_
  refine mu_putI B dX1_measure_2 fX1_46 fwX1_5 rfl (by assumption) ?_
  refine mu_al_0 B dX1_measure_5 ?_
  refine mu_iconst (v := mI 0) B dX1_measure_6 rfl ?_
  refine mu_putI B dX1_measure_7 fX1_49 fwX1_6 rfl (by assumption) ?_
  refine mu_al_0 B dX1_measure_10 ?_
  refine mu_iconst (v := mI 0) B dX1_measure_11 rfl ?_
  refine mu_putI B dX1_measure_12 fX1_52 fwX1_7 rfl (by assumption) ?_
  refine mu_al_0 B dX1_measure_15 ?_
  refine mu_iconst (v := mI 0) B dX1_measure_16 rfl ?_
  refine mu_putI B dX1_measure_17 fX1_55 fwX1_8 rfl (by assumption) ?_
  refine mu_al_0 B dX1_measure_20 ?_
  refine mu_iconst (v := mI 0) B dX1_measure_21 rfl ?_
  refine mu_putI B dX1_measure_22 fX1_58 fwX1_9 rfl (by assumption) ?_
  refine mu_al_0 B dX1_measure_25 ?_
  refine mu_getR B dX1_measure_26 fX1_13 rfl (by assumption) (by assumption) ?_
  refine mu_lconst (v := mL 0) B dX1_measure_29 rfl ?_
  refine mu_cS2 B dX1_measure_30 mX1_27 ⟨⟨by decide, by decide⟩, by decide, by decide⟩ (Nat.le_of_ble_eq_true rfl) (c_J7_fillL G (N := 4) (by exact k2) (by decide)) (fun r30 w30 q30 => ?_)
  obtain ⟨rfl, hf, hz⟩ := q30
  refine mu_il_1 B dX1_measure_33 ?_
  refine mu_iconst (v := mI 0) B dX1_measure_34 rfl ?_
  refine mu_mmax B dX1_measure_35 mlX1_78 ⟨by decide, by decide⟩ (Nat.le_of_ble_eq_true rfl) ⟨by decide, by decide⟩ ?_
  rw [if_neg (by rw [mI_lt ⟨by omega, by omega⟩ ⟨by omega, by omega⟩]; omega)]
  refine mu_is_3 B dX1_measure_38 (by decide) rfl ?_
  have hF5 : mu_Fi (meS a) w w30 := mu_Fi.trans (((((mu_Fi.refl _).si (Or.inl ⟨rfl, by decide, by decide⟩)).si (Or.inl ⟨rfl, by decide, by decide⟩)).si (Or.inl ⟨rfl, by decide, by decide⟩)).si (Or.inl ⟨rfl, by decide, by decide⟩) |>.si (Or.inl ⟨rfl, by decide, by decide⟩)) (hf.mono (fun e j hh => Or.inr hh))
  have h0 : ∀ i j, i < 256 → j < p → c i j = 0 := fun i j hi hj => by
    have := hb.1 i j
    by_cases e : c i j = 1
    · have := hrow i j hi (by omega) e; omega
    · omega
  have hR0 : cntR c p = 0 := by
    have := cntR_same (c := c) (y := 0) p (fun i j hi _ hj => h0 i j hi (by omega))
    rw [Nat.zero_add] at this; exact this
  refine LO p w30 (by omega) ⟨hF5, 0, 0, 0, ⟨hR0.symm, ⟨?_, ?_, ?_, ?_, ?_⟩, fun _ => ⟨rfl, rfl⟩, fun e => absurd rfl e⟩, fun x hx => ?_⟩
  · exact hf.iv (fun hh => by omega) (by simp [mu_iv_si])
  · exact hf.iv (fun hh => by omega) (by simp [mu_iv_si])
  · exact hf.iv (fun hh => by omega) (by simp [mu_iv_si])
  · exact hf.iv (fun hh => by omega) (by simp [mu_iv_si])
  · exact hf.iv (fun hh => by omega) (by simp [mu_iv_si])
  · unfold b4
    rw [Nat.zero_add, hz _ (by omega), if_neg (Nat.not_lt_zero _)]
    constructor
    · intro h9; exact absurd h9 (by rw [show mL 0 = 0 from rfl, lb_0]; decide)
    · rintro ⟨j, h1, h2⟩; rw [h0 x j hx h1] at h2; cases h2
