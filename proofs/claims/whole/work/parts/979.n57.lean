/-! ===== the class's balance: equations reduced ===== -/
def bR (p m : Nat) : Nat := if p = 3 then (if 3 ≤ m then 4 else if m = 2 then 256 else 1048576) else if p = 2 then (if 2 ≤ m then 32 else 131072) else if p = 1 then 2048 else 8388608
theorem bR_st1 : ∀ p, p < 4 → ∀ m, m < 4 → (m = 0 ∨ p < m ∨ ((m < 2 ∨ 2 * (bR p m * bB (m - 1)) ≤ bR p (m - 1)) ∧ bR p m ≤ bR p (m - 1))) := by decide
theorem bR_st (p : Nat) (hp : p < 4) (m : Nat) (hm : m < 4) (h1 : 1 ≤ m) (h2 : m ≤ p) : (2 ≤ m → 2 * (bR p m * bB (m - 1)) ≤ bR p (m - 1)) ∧ bR p m ≤ bR p (m - 1) := by
  rcases bR_st1 p hp m hm with h | h | ⟨h, h9⟩
  · omega
  · omega
  · refine ⟨fun h3 => ?_, h9⟩
    rcases h with h | h
    · omega
    · exact h
theorem bR_top : ∀ p, p < 4 → bB p ≤ bR p p := by decide
theorem bR_all : ∀ p, p < 4 → ∀ m, m < 4 → bR p m ≤ 8388608 := by decide
/-- what holds of the equations all the while -/
def RDB (r : mu_RS) (row : Nat → Nat → Int) : Prop := (∀ p, p < 4 → row p p = 0 → ∀ c, c < 4 → row p c = 0) ∧ (∀ p c, p < 4 → c < 4 → (p < c ∨ rs_S r ≤ c) → row p c = 0) ∧ (∀ p, p < 4 → sm (row p) 4 = 0) ∧ (∀ x, CW r x ↔ ∀ p, p < 4 → dt 4 (row p) x = 0)
def rdd (row : Nat → Nat → Int) (q m : Nat) : Prop := row q q ≠ 0 → ∀ c, m ≤ c → c < q → row c c ≠ 0 → row q c = 0
/-- the equations from P on are reduced -/
def RDO (r : mu_RS) (row : Nat → Nat → Int) (P : Nat) : Prop := RDB r row ∧ (∀ q c, q < 4 → c < 4 → (row q c).natAbs ≤ if q < P then bB q else bR q 0) ∧ ∀ q, P ≤ q → q < 4 → rdd row q 0
/-- and equation p of its states from m on -/
def RDI (r : mu_RS) (row : Nat → Nat → Int) (p m : Nat) : Prop := RDB r row ∧ (∀ q c, q < 4 → c < 4 → (row q c).natAbs ≤ if q < p then bB q else if q = p then bR p m else bR q 0) ∧ (∀ q, p < q → q < 4 → rdd row q 0) ∧ rdd row p m
theorem RDO.in {r : mu_RS} {row : Nat → Nat → Int} {p : Nat} (hp : p < 4) (h : RDO r row (p + 1)) : RDI r row p p := by
  obtain ⟨h1, h2, h3⟩ := h
  refine ⟨h1, fun q c hq hc => ?_, fun q q1 q2 => h3 q (by omega) q2, fun _ c c1 c2 => by omega⟩
  have := h2 q c hq hc
  by_cases e1 : q < p
  · rw [if_pos (by omega)] at this; rw [if_pos e1]; exact this
  · rw [if_neg e1]
    by_cases e2 : q = p
    · rw [if_pos (by omega)] at this; rw [if_pos e2]; rw [e2] at this ⊢; exact Nat.le_trans this (bR_top p hp)
    · rw [if_neg (by omega)] at this; rw [if_neg e2]; exact this
theorem RDI.out {r : mu_RS} {row : Nat → Nat → Int} {p : Nat} (h : RDI r row p 0) : RDO r row p := by
  obtain ⟨h1, h2, h3, h4⟩ := h
  refine ⟨h1, fun q c hq hc => ?_, fun q q1 q2 => ?_⟩
  · have := h2 q c hq hc
    by_cases e1 : q < p
    · rw [if_pos e1] at this ⊢; exact this
    · rw [if_neg e1] at this ⊢
      by_cases e2 : q = p
      · rw [if_pos e2] at this; rw [e2]; rw [e2] at this; exact this
      · rw [if_neg e2] at this; exact this
  · by_cases e : q = p
    · rw [e]; exact h4
    · exact h3 q (by omega) q2
theorem RDB.z0 {r : mu_RS} {row : Nat → Nat → Int} (h : RDB r row) : row 0 0 = 0 := by
  have h1 := h.2.2.1 0 (by decide)
  have : sm (row 0) 4 = row 0 0 + row 0 1 + row 0 2 + row 0 3 := by
    show 0 + row 0 0 + row 0 1 + row 0 2 + row 0 3 = _
    omega
  have a1 := h.2.1 0 1 (by decide) (by decide) (Or.inl (by decide))
  have a2 := h.2.1 0 2 (by decide) (by decide) (Or.inl (by decide))
  have a3 := h.2.1 0 3 (by decide) (by decide) (Or.inl (by decide))
  omega
theorem RDI.skip {r : mu_RS} {row : Nat → Nat → Int} {p q : Nat} (hp : p < 4) (hq : q < p) (h : RDI r row p (q + 1)) (hn : row q q = 0 ∨ row p q = 0) : RDI r row p q := by
  obtain ⟨h1, h2, h3, h4⟩ := h
  have hb := bR_st p hp (q + 1) (by omega) (by omega) (by omega)
  rw [Nat.add_sub_cancel] at hb
  refine ⟨h1, fun a c ha hc => ?_, h3, fun g c c1 c2 c3 => ?_⟩
  · have := h2 a c ha hc
    by_cases e1 : a < p
    · rw [if_pos e1] at this ⊢; exact this
    · rw [if_neg e1] at this ⊢
      by_cases e2 : a = p
      · rw [if_pos e2] at this ⊢; exact Nat.le_trans this hb.2
      · rw [if_neg e2] at this ⊢; exact this
  · by_cases e : c = q
    · rw [e] at c3 ⊢
      rcases hn with hn | hn
      · exact absurd hn c3
      · exact hn
    · exact h4 g c (by omega) c2 c3
theorem RDI.cancel {r : mu_RS} {row row' : Nat → Nat → Int} {p q : Nat} (hp : p < 4) (hq : q < p) (h : RDI r row p (q + 1)) (hqq : row q q ≠ 0) (hpq : row p q ≠ 0) (e1 : ∀ a, a ≠ p → row' a = row a) (e2 : row' p = wo 4 (row p) (row q) q) : RDI r row' p q := by
  obtain ⟨⟨b1, b2, b3, b4⟩, h2, h3, h4⟩ := h
  have hq1 : 1 ≤ q := by
    by_cases e : q = 0
    · exfalso; subst e; exact hqq (RDB.z0 ⟨b1, b2, b3, b4⟩)
    · omega
  have hpp : row p p ≠ 0 := fun e => hpq (b1 p hp e q (by omega))
  have hne : wo 4 (row p) (row q) q p ≠ 0 := wo_ne hp hpp (b2 q p (by omega) hp (Or.inl hq)) hqq
  have hb := bR_st p hp (q + 1) (by omega) (by omega) (by omega)
  rw [Nat.add_sub_cancel] at hb
  have hd : ∀ a, a < 4 → (row' a a = 0 ↔ row a a = 0) := fun a _ => by
    by_cases e : a = p
    · rw [e, e2]; exact ⟨fun z => absurd z hne, fun z => absurd z hpp⟩
    · rw [e1 a e]
  refine ⟨⟨fun a ha h0 => ?_, fun a c ha hc hh => ?_, fun a ha => ?_, fun x => ?_⟩, fun a c ha hc => ?_, fun a a1 a2 => ?_, fun _ c c1 c2 c3 => ?_⟩
  · by_cases e : a = p
    · rw [e, e2] at h0; exact absurd h0 hne
    · rw [e1 a e] at h0 ⊢; exact b1 a ha h0
  · by_cases e : a = p
    · rw [e, e2]
      rw [e] at hh
      refine wo_0 hc (b2 p c hp hc hh) (fun _ => b2 q c (by omega) hc ?_)
      omega
    · rw [e1 a e]; exact b2 a c ha hc hh
  · by_cases e : a = p
    · rw [e, e2]; exact wo_sum (b3 p hp) (b3 q (by omega))
    · rw [e1 a e]; exact b3 a ha
  · rw [b4 x]
    constructor
    · intro g a ha
      by_cases e : a = p
      · rw [e, e2, wo_dt hqq (g q (by omega))]; exact g p hp
      · rw [e1 a e]; exact g a ha
    · intro g a ha
      by_cases e : a = p
      · have g1 := g p hp
        have g2 := g q (by omega)
        rw [e1 q (by omega)] at g2
        rw [e2, wo_dt hqq g2] at g1
        rw [e]; exact g1
      · have := g a ha; rw [e1 a e] at this; exact this
  · by_cases e : a = p
    · rw [e, e2, if_neg (Nat.lt_irrefl _), if_pos rfl]
      have := wo_bd (s := 4) (e := row p) (d := row q) (c := q) (A := bR p (q + 1)) (B := bB q) (by omega) (by have := (bB_all q (by omega)).1; omega) (fun z hz => by have := h2 p z hp hz; rw [if_neg (Nat.lt_irrefl _), if_pos rfl] at this; exact this) (fun z hz => by have := h2 q z (by omega) hz; rw [if_pos hq] at this; exact this) c hc
      exact Nat.le_trans this (hb.1 (by omega))
    · rw [e1 a e]
      have := h2 a c ha hc
      by_cases e3 : a < p
      · rw [if_pos e3] at this ⊢; exact this
      · rw [if_neg e3, if_neg e] at this ⊢; exact this
  · have g := h3 a a1 a2
    intro g1 c c1 c2 c3
    rw [e1 a (by omega)] at g1 ⊢
    exact g g1 c c1 c2 (fun z => c3 ((hd c (by omega)).mpr z))
  · rw [e2]
    by_cases e : c = q
    · rw [e]; exact wo_c (by omega)
    · exact wo_0 (by omega) (h4 hpp c (by omega) c2 (fun z => c3 ((hd c (by omega)).mpr z))) (fun _ => b2 q c (by omega) (by omega) (Or.inl (by omega)))
theorem EQI.rdo {r : mu_RS} {row : Nat → Nat → Int} (h : EQI r (rs_N r) row) : RDO r row (rs_S r) := by
  obtain ⟨h1, h2, h3, h4, h5⟩ := h
  refine ⟨⟨h1, h2, h3, h5⟩, fun q c hq hc => ?_, fun q q1 q2 => ?_⟩
  · by_cases e : q < rs_S r
    · rw [if_pos e]; exact h4 q c hq hc
    · rw [if_neg e]
      have : row q q = 0 := h2 q q hq hq (Or.inr (by omega))
      rw [h1 q hq this c hc]; exact Nat.zero_le _
  · intro g
    exact absurd (h2 q q q2 q2 (Or.inr q1)) g
/-- reduced, the equations tell the basis -/
theorem RDO.red {r : mu_RS} (hS : rs_S r ≤ 4) {row : Nat → Nat → Int} (h : RDO r row 0) : RED (rs_S r) (fun p => p < 4 ∧ row p p ≠ 0) row ∧ ∀ x, CW r x ↔ SOL (rs_S r) (fun p => p < 4 ∧ row p p ≠ 0) row x := by
  obtain ⟨⟨b1, b2, b3, b4⟩, h2, h3⟩ := h
  refine ⟨fun p ⟨hp, hh⟩ => ⟨?_, hh, fun q hq hpq => b2 p q hp (by omega) (Or.inl hpq), fun q hq ⟨hq4, hqq⟩ hne => ?_⟩, fun x => ?_⟩
  · by_cases e : p < rs_S r
    · exact e
    · exact absurd (b2 p p hp hp (Or.inr (by omega))) hh
  · by_cases e : q < p
    · exact h3 p (Nat.zero_le _) hp hh q (Nat.zero_le _) e hqq
    · exact b2 p q hp hq4 (Or.inl (by omega))
  · rw [b4 x]
    have e4 : ∀ p, p < 4 → dt 4 (row p) x = dt (rs_S r) (row p) x := fun p hp => by
      have := sm_more (f := fun v => (if v < 4 then row p v else 0) * x v) (n := rs_S r) (4 - rs_S r) (fun v hv => by
        show (if v < 4 then row p v else 0) * x v = 0
        by_cases q : v < 4
        · rw [if_pos q, b2 p v hp q (Or.inr hv), Int.zero_mul]
        · rw [if_neg q, Int.zero_mul])
      rw [show rs_S r + (4 - rs_S r) = 4 by omega] at this
      have a1 : dt 4 (row p) x = sm (fun v => (if v < 4 then row p v else 0) * x v) 4 := sm_ext (fun v hv => by rw [if_pos hv])
      have a2 : dt (rs_S r) (row p) x = sm (fun v => (if v < 4 then row p v else 0) * x v) (rs_S r) := sm_ext (fun v hv => by rw [if_pos (by omega)])
      rw [a1, a2, this]
    constructor
    · intro g p ⟨hp, _⟩
      rw [← e4 p hp]; exact g p hp
    · intro g p hp
      by_cases e : row p p = 0
      · exact sm_zero (fun v hv => by rw [b1 p hp e v hv, Int.zero_mul])
      · rw [e4 p hp]; exact g p ⟨hp, e⟩

set_option maxHeartbeats 4000000 in
set_option maxRecDepth 100000 in
theorem c_X0_reduce (G : mu_G) {w : mu_W} {a : Nat} (ho : CBo w a) {ru : mu_RS} (hS : 2 ≤ rs_S ru ∧ rs_S ru ≤ 4) {row0 : Nat → Nat → Int} (hQ : EQI ru (rs_N ru) row0) (hq : EQw w a row0) : mu_Ct G M_X0_reduce [.ref a, .int (mI ((rs_S ru : Nat) : Int))] w (fun r9 w' => r9 = none ∧ mu_Fi (dmS a) w w' ∧ ∃ row', RDO ru row' 0 ∧ EQw w' a row') := by
  obtain ⟨ka, r0, k1, hrw, r1, k6⟩ := id ho
  refine mu_ofWA G M_X0_reduce [.ref a, .int (mI ((rs_S ru : Nat) : Int)), mu_no, mu_no] (by decide) rfl (Nat.le_of_ble_eq_true rfl) ?_
  intro X E
  have B : mu_B X G cX0_reduce RX0 4 (mu_rm M_X0_reduce) := E.1
  have LR9 : ∀ d (s : mu_W), d ≤ rs_S ru → (mu_Fi (dmS a) w s ∧ ∃ row, RDO ru row (rs_S ru - d) ∧ EQw s a row) → mu_WA X G 4 (mu_Q X G M_X0_reduce (fun r9 w' => r9 = none ∧ mu_Fi (dmS a) w w' ∧ ∃ row', RDO ru row' 0 ∧ EQw w' a row')) s 0 0 4 [.ref a, .int (mI ((rs_S ru : Nat) : Int)), .int (mI ((rs_S ru : Int) - 1 - (d : Int))), mu_no] [] := by
    refine mu_ind (rs_S ru) (fun d (s : mu_W) => mu_WA X G 4 (mu_Q X G M_X0_reduce (fun r9 w' => r9 = none ∧ mu_Fi (dmS a) w w' ∧ ∃ row', RDO ru row' 0 ∧ EQw w' a row')) s 0 0 4 [.ref a, .int (mI ((rs_S ru : Nat) : Int)), .int (mI ((rs_S ru : Int) - 1 - (d : Int))), mu_no] []) (fun d (s : mu_W) => mu_Fi (dmS a) w s ∧ ∃ row, RDO ru row (rs_S ru - d) ∧ EQw s a row) ?_
    intro d s hd ⟨hFs, row, hO, hqs⟩ ih
    refine mu_il_2 B dX0_reduce_4 ?_
    refine mu_if_lt (tgt := 74) B dX0_reduce_5 (by decide) (fun c5 => ?_) (fun c5 => ?_)
    · try rw [mI_lt0 ⟨by omega, by omega⟩] at c5
      try rw [mI_lt0 ⟨by omega, by omega⟩] at c5
      obtain rfl : rs_S ru = d := by omega
      rw [Nat.sub_self] at hO
      refine mu_vret E rfl (by decide) (by decide) dX0_reduce_74 ?_
      exact ⟨rfl, hFs, row, hO, hqs⟩
    · try rw [mI_lt0 ⟨by omega, by omega⟩] at c5
      obtain ⟨p, hpd⟩ : ∃ p : Nat, rs_S ru - d = p + 1 := ⟨rs_S ru - d - 1, by omega⟩
      rw [hpd] at hO
      rw [show (rs_S ru : Int) - 1 - (d : Int) = ((p : Nat) : Int) by omega]
      refine mu_il_2 B dX0_reduce_8 ?_
      refine mu_iconst (v := mI 1) B dX0_reduce_9 rfl ?_
      refine mu_isub B dX0_reduce_10 ?_
      try rw [mI_sub]
      refine mu_is_3 B dX0_reduce_11 (by decide) rfl ?_
      have LQ : ∀ i (t : mu_W), i ≤ p → (mu_Fi (dmS a) w t ∧ ∃ row, RDI ru row p (p - i) ∧ EQw t a row) → mu_WA X G 4 (mu_Q X G M_X0_reduce (fun r9 w' => r9 = none ∧ mu_Fi (dmS a) w w' ∧ ∃ row', RDO ru row' 0 ∧ EQw w' a row')) t 0 0 12 [.ref a, .int (mI ((rs_S ru : Nat) : Int)), .int (mI (p : Nat)), .int (mI ((p : Int) - 1 - (i : Int)))] [] := by
        refine mu_ind (p) (fun i (t : mu_W) => mu_WA X G 4 (mu_Q X G M_X0_reduce (fun r9 w' => r9 = none ∧ mu_Fi (dmS a) w w' ∧ ∃ row', RDO ru row' 0 ∧ EQw w' a row')) t 0 0 12 [.ref a, .int (mI ((rs_S ru : Nat) : Int)), .int (mI (p : Nat)), .int (mI ((p : Int) - 1 - (i : Int)))] []) (fun i (t : mu_W) => mu_Fi (dmS a) w t ∧ ∃ row, RDI ru row p (p - i) ∧ EQw t a row) ?_
        intro i t hi ⟨hFt, row, hI, hqt⟩ ihi
        refine mu_il_3 B dX0_reduce_12 ?_
        refine mu_if_lt (tgt := 68) B dX0_reduce_13 (by decide) (fun c13 => ?_) (fun c13 => ?_)
        · try rw [mI_lt0 ⟨by omega, by omega⟩] at c13
          try rw [mI_lt0 ⟨by omega, by omega⟩] at c13
          obtain rfl : p = i := by omega
          rw [Nat.sub_self] at hI
          refine mu_inc_2 (c := mI (-1)) B dX0_reduce_68 rfl (by decide) rfl ?_
          try rw [mI_add]
          refine mu_goto (tgt := 4) B dX0_reduce_71 (by decide) ?_
          refine mu_fg (ih t (by omega) ⟨hFt, row, ?_, hqt⟩) rfl (by rw [show (rs_S ru : Int) - 1 - ((d + 1 : Nat) : Int) = ((p : Nat) : Int) + -1 by omega]; exact ⟨Or.inl rfl, Or.inl rfl, Or.inl rfl, Or.inr rfl, trivial⟩)
          rw [show rs_S ru - (d + 1) = p by omega]; exact hI.out
        · try rw [mI_lt0 ⟨by omega, by omega⟩] at c13
          obtain ⟨q, hqd⟩ : ∃ q : Nat, p - i = q + 1 := ⟨p - i - 1, by omega⟩
          rw [hqd] at hI
          rw [show (p : Int) - 1 - (i : Int) = ((q : Nat) : Int) by omega]
          have hqb : (row q q).natAbs ≤ 8388608 := (by have h9 := hI.2.1 q q (by omega) (by omega); have h8 := bR_all p (by omega) (q + 1) (by omega); have h7 := (bB_all q (by omega)).2; have h6 := bR_all q (by omega) 0 (by decide); (repeat' split at h9) <;> omega)
          have hpb : (row p q).natAbs ≤ 8388608 := (by have h9 := hI.2.1 p q (by omega) (by omega); have h8 := bR_all p (by omega) (q + 1) (by omega); have h7 := (bB_all p (by omega)).2; have h6 := bR_all p (by omega) 0 (by decide); (repeat' split at h9) <;> omega)
          refine mu_al_0 B dX0_reduce_16 ?_
          refine mu_il_3 B dX0_reduce_17 ?_
          refine mu_eV1 B dX0_reduce_18 mX0_35 ⟨⟨by decide, by decide⟩, by decide, by decide⟩ (Nat.le_of_ble_eq_true rfl) (hFt.kd ka) (c_X0_isHeld G (ho.fi hFt) hqt (p := q) (by omega) (by omega)) ?_
          refine mu_if_eq (tgt := 62) B dX0_reduce_21 (by decide) (fun c21 => ?_) (fun c21 => ?_)
          · have hheld : row q q = 0 := Classical.byContradiction (fun q9 => by rw [if_neg q9] at c21; exact absurd c21 (by decide))
            refine mu_inc_3 (c := mI (-1)) B dX0_reduce_62 rfl (by decide) rfl ?_
            try rw [mI_add]
            refine mu_goto (tgt := 12) B dX0_reduce_65 (by decide) ?_
            first
              | (refine mu_to (ihi w59 (by omega) ⟨hFt.trans (lr_dm hF1 ⟨by omega, by omega⟩), (fun z => if z = p then wo 4 (row p) (row q) q else row z), ?_, fun z hz c hc => ?_⟩) rfl (by rw [show (p : Int) - 1 - ((i + 1 : Nat) : Int) = ((q : Nat) : Int) + -1 by omega])
                 · rw [show p - (i + 1) = q by omega]
                   exact hI.cancel (by omega) (by omega) hheld c34 (fun z hz => if_neg hz) (if_pos rfl)
                 · show mu_lg w59 (a + 2 + z) (0 + c) = mL ((if z = p then wo 4 (row p) (row q) q else row z) c)
                   by_cases e9 : z = p
                   · rw [if_pos e9, e9]; exact hL1 c hc
                   · rw [if_neg e9]; exact (hqt z hz).fi hF1 (fun j _ _ hh => by have := hh.1; omega) c hc)
              | (refine mu_to (ihi t (by omega) ⟨hFt, row, ?_, hqt⟩) rfl (by rw [show (p : Int) - 1 - ((i + 1 : Nat) : Int) = ((q : Nat) : Int) + -1 by omega])
                 rw [show p - (i + 1) = q by omega]
                 exact hI.skip (by omega) (by omega) (Or.inl hheld))
              | (refine mu_to (ihi t (by omega) ⟨hFt, row, ?_, hqt⟩) rfl (by rw [show (p : Int) - 1 - ((i + 1 : Nat) : Int) = ((q : Nat) : Int) + -1 by omega])
                 rw [show p - (i + 1) = q by omega]
                 exact hI.skip (by omega) (by omega) (Or.inr c34))
          · have hheld : row q q ≠ 0 := fun q9 => by rw [if_pos q9] at c21; exact c21 rfl
            refine mu_al_0 B dX0_reduce_24 ?_
            refine mu_getR B dX0_reduce_25 fX0_11 rfl (hFt.kd ka) (hFt.rv r0) ?_
            refine mu_il_2 B dX0_reduce_28 ?_
            refine mu_aald B dX0_reduce_29 (hFt.kd k1) (by simp) (mI_inN (by omega) (by decide)) (by rw [mI_clampN (by omega)]; exact hFt.rv (hrw p (by omega)).1) ?_
            refine mu_il_3 B dX0_reduce_30 ?_
            refine mu_lald B dX0_reduce_31 (hFt.kd (hrw p (by omega)).2) (mI_inN (by omega) (by decide)) ?_
            rw [mI_clampN (by omega), (hqt p (by omega)).at (by omega)]
            refine mu_lconst (v := mL 0) B dX0_reduce_32 rfl ?_
            refine mu_lcmp B dX0_reduce_33 ?_
            refine mu_if_eq (tgt := 62) B dX0_reduce_34 (by decide) (fun c34 => ?_) (fun c34 => ?_)
            · rw [lg_cmp_eq, mL_eq ⟨by omega, by omega⟩ ⟨by omega, by omega⟩] at c34
              refine mu_inc_3 (c := mI (-1)) B dX0_reduce_62 rfl (by decide) rfl ?_
              try rw [mI_add]
              refine mu_goto (tgt := 12) B dX0_reduce_65 (by decide) ?_
              first
                | (refine mu_to (ihi w59 (by omega) ⟨hFt.trans (lr_dm hF1 ⟨by omega, by omega⟩), (fun z => if z = p then wo 4 (row p) (row q) q else row z), ?_, fun z hz c hc => ?_⟩) rfl (by rw [show (p : Int) - 1 - ((i + 1 : Nat) : Int) = ((q : Nat) : Int) + -1 by omega])
                   · rw [show p - (i + 1) = q by omega]
                     exact hI.cancel (by omega) (by omega) hheld c34 (fun z hz => if_neg hz) (if_pos rfl)
                   · show mu_lg w59 (a + 2 + z) (0 + c) = mL ((if z = p then wo 4 (row p) (row q) q else row z) c)
                     by_cases e9 : z = p
                     · rw [if_pos e9, e9]; exact hL1 c hc
                     · rw [if_neg e9]; exact (hqt z hz).fi hF1 (fun j _ _ hh => by have := hh.1; omega) c hc)
                | (refine mu_to (ihi t (by omega) ⟨hFt, row, ?_, hqt⟩) rfl (by rw [show (p : Int) - 1 - ((i + 1 : Nat) : Int) = ((q : Nat) : Int) + -1 by omega])
                   rw [show p - (i + 1) = q by omega]
                   exact hI.skip (by omega) (by omega) (Or.inl hheld))
                | (refine mu_to (ihi t (by omega) ⟨hFt, row, ?_, hqt⟩) rfl (by rw [show (p : Int) - 1 - ((i + 1 : Nat) : Int) = ((q : Nat) : Int) + -1 by omega])
                   rw [show p - (i + 1) = q by omega]
                   exact hI.skip (by omega) (by omega) (Or.inr c34))
            · rw [lg_cmp_eq, mL_eq ⟨by omega, by omega⟩ ⟨by omega, by omega⟩] at c34
              refine mu_al_0 B dX0_reduce_37 ?_
              refine mu_getR B dX0_reduce_38 fX0_11 rfl (hFt.kd ka) (hFt.rv r0) ?_
              refine mu_il_2 B dX0_reduce_41 ?_
              refine mu_aald B dX0_reduce_42 (hFt.kd k1) (by simp) (mI_inN (by omega) (by decide)) (by rw [mI_clampN (by omega)]; exact hFt.rv (hrw p (by omega)).1) ?_
              refine mu_al_0 B dX0_reduce_43 ?_
              refine mu_getR B dX0_reduce_44 fX0_11 rfl (hFt.kd ka) (hFt.rv r0) ?_
              refine mu_il_3 B dX0_reduce_47 ?_
              refine mu_aald B dX0_reduce_48 (hFt.kd k1) (by simp) (mI_inN (by omega) (by decide)) (by rw [mI_clampN (by omega)]; exact hFt.rv (hrw q (by omega)).1) ?_
              refine mu_il_3 B dX0_reduce_49 ?_
              refine mu_cS3 B dX0_reduce_50 mX0_49 ⟨⟨by decide, by decide⟩, by decide, by decide⟩ (Nat.le_of_ble_eq_true rfl) (c_X0_cancel G (hFt.kd (hrw p (by omega)).2) (hFt.kd (hrw q (by omega)).2) (by omega) (hqt p (by omega)) (hqt q (by omega)) (col := q) (by omega)) (fun r50 w50 q50 => ?_)
              obtain ⟨rfl, hF0, hL0⟩ := q50
              refine mu_al_0 B dX0_reduce_53 ?_
              refine mu_getR B dX0_reduce_54 fX0_11 rfl (hF0.kd (hFt.kd ka)) (hF0.rv (hFt.rv r0)) ?_
              refine mu_il_2 B dX0_reduce_57 ?_
              refine mu_aald B dX0_reduce_58 (hF0.kd (hFt.kd k1)) (by simp) (mI_inN (by omega) (by decide)) (by rw [mI_clampN (by omega)]; exact hF0.rv (hFt.rv (hrw p (by omega)).1)) ?_
              refine mu_cS1 B dX0_reduce_59 mX0_53 ⟨⟨by decide, by decide⟩, by decide, by decide⟩ (Nat.le_of_ble_eq_true rfl) (c_X0_shorten G (hF0.kd (hFt.kd (hrw p (by omega)).2)) hL0 (cnf_bd (col := q) (by omega) (A := 8388608) (B := 8388608) (fun c hc => (by have h9 := hI.2.1 p c (by omega) (by omega); have h8 := bR_all p (by omega) (q + 1) (by omega); have h7 := (bB_all p (by omega)).2; have h6 := bR_all p (by omega) 0 (by decide); (repeat' split at h9) <;> omega)) (fun c hc => (by have h9 := hI.2.1 q c (by omega) (by omega); have h8 := bR_all p (by omega) (q + 1) (by omega); have h7 := (bB_all q (by omega)).2; have h6 := bR_all q (by omega) 0 (by decide); (repeat' split at h9) <;> omega)) (by decide))) (fun r59 w59 q59 => ?_)
              obtain ⟨rfl, hF2, hL2⟩ := q59
              have hF1 := hF0.trans hF2
              have hL1 := hL2
              rw [cnf_wo c34] at hL1
              refine mu_inc_3 (c := mI (-1)) B dX0_reduce_62 rfl (by decide) rfl ?_
              try rw [mI_add]
              refine mu_goto (tgt := 12) B dX0_reduce_65 (by decide) ?_
              first
                | (refine mu_to (ihi w59 (by omega) ⟨hFt.trans (lr_dm hF1 ⟨by omega, by omega⟩), (fun z => if z = p then wo 4 (row p) (row q) q else row z), ?_, fun z hz c hc => ?_⟩) rfl (by rw [show (p : Int) - 1 - ((i + 1 : Nat) : Int) = ((q : Nat) : Int) + -1 by omega])
                   · rw [show p - (i + 1) = q by omega]
                     exact hI.cancel (by omega) (by omega) hheld c34 (fun z hz => if_neg hz) (if_pos rfl)
                   · show mu_lg w59 (a + 2 + z) (0 + c) = mL ((if z = p then wo 4 (row p) (row q) q else row z) c)
                     by_cases e9 : z = p
                     · rw [if_pos e9, e9]; exact hL1 c hc
                     · rw [if_neg e9]; exact (hqt z hz).fi hF1 (fun j _ _ hh => by have := hh.1; omega) c hc)
                | (refine mu_to (ihi t (by omega) ⟨hFt, row, ?_, hqt⟩) rfl (by rw [show (p : Int) - 1 - ((i + 1 : Nat) : Int) = ((q : Nat) : Int) + -1 by omega])
                   rw [show p - (i + 1) = q by omega]
                   exact hI.skip (by omega) (by omega) (Or.inl hheld))
                | (refine mu_to (ihi t (by omega) ⟨hFt, row, ?_, hqt⟩) rfl (by rw [show (p : Int) - 1 - ((i + 1 : Nat) : Int) = ((q : Nat) : Int) + -1 by omega])
                   rw [show p - (i + 1) = q by omega]
                   exact hI.skip (by omega) (by omega) (Or.inr c34))
      exact mu_to (LQ 0 s (Nat.zero_le _) ⟨hFs, row, by rw [Nat.sub_zero]; exact hO.in (by omega), hqs⟩) rfl (by rw [show (p : Int) - 1 - ((0 : Nat) : Int) = (p : Int) - 1 by omega])
  show mu_WA X G 4 _ _ 0 0 0 _ []
  refine mu_il_1 B dX0_reduce_0 ?_
  refine mu_iconst (v := mI 1) B dX0_reduce_1 rfl ?_
  refine mu_isub B dX0_reduce_2 ?_
  try rw [mI_sub]
  refine mu_is_2 B dX0_reduce_3 (by decide) rfl ?_
  exact mu_to (LR9 0 w (Nat.zero_le _) ⟨mu_Fi.refl _, row0, by rw [Nat.sub_zero]; exact hQ.rdo, hq⟩) rfl (by rw [show (rs_S ru : Int) - 1 - ((0 : Nat) : Int) = (rs_S ru : Int) - 1 by omega])
