/-! ===== different blocks ===== -/
/-- the squares of side 2^p in row y, column x of squares: the same cells -/
def EQ (c : Nat → Nat → Nat) (p y x y' x' : Nat) : Prop := ∀ a b, a < 2 ^ p → b < 2 ^ p → c (2 ^ p * x + a) (2 ^ p * y + b) = c (2 ^ p * x' + a) (2 ^ p * y' + b)
theorem EQ_0 (c : Nat → Nat → Nat) (y x y' x' : Nat) : EQ c 0 y x y' x' ↔ c x y = c x' y' := by
  unfold EQ
  constructor
  · intro h
    have := h 0 0 (by decide) (by decide)
    simpa using this
  · intro h a b ha hb
    have e1 : a = 0 := by simpa using ha
    have e2 : b = 0 := by simpa using hb
    subst e1 e2
    simpa using h
theorem EQ_S (c : Nat → Nat → Nat) (p y x y' x' : Nat) : EQ c (p + 1) y x y' x' ↔ EQ c p (2 * y) (2 * x) (2 * y') (2 * x') ∧ EQ c p (2 * y) (2 * x + 1) (2 * y') (2 * x' + 1) ∧ EQ c p (2 * y + 1) (2 * x) (2 * y' + 1) (2 * x') ∧ EQ c p (2 * y + 1) (2 * x + 1) (2 * y' + 1) (2 * x' + 1) := by
  have e : ∀ z : Nat, 2 ^ (p + 1) * z = 2 ^ p * (2 * z) := fun z => by rw [Nat.pow_succ, Nat.mul_assoc]
  have e1 : ∀ z : Nat, 2 ^ p * (z + 1) = 2 ^ p * z + 2 ^ p := fun z => Nat.mul_succ _ _
  have e2 : 2 ^ (p + 1) = 2 ^ p + 2 ^ p := by rw [Nat.pow_succ]; omega
  constructor
  · intro h
    have h' : ∀ a b, a < 2 ^ p + 2 ^ p → b < 2 ^ p + 2 ^ p → c (2 ^ p * (2 * x) + a) (2 ^ p * (2 * y) + b) = c (2 ^ p * (2 * x') + a) (2 ^ p * (2 * y') + b) := fun a b ha hb => by
      have := h a b (by rw [e2]; exact ha) (by rw [e2]; exact hb)
      rw [e, e, e, e] at this
      exact this
    refine ⟨fun a b ha hb => h' a b (by omega) (by omega), fun a b ha hb => ?_, fun a b ha hb => ?_, fun a b ha hb => ?_⟩
    · rw [e1, e1, Nat.add_assoc, Nat.add_assoc]; exact h' _ _ (by omega) (by omega)
    · rw [e1, e1, Nat.add_assoc (2 ^ p * (2 * y)), Nat.add_assoc (2 ^ p * (2 * y'))]; exact h' _ _ (by omega) (by omega)
    · rw [e1, e1, e1, e1, Nat.add_assoc, Nat.add_assoc, Nat.add_assoc, Nat.add_assoc]; exact h' _ _ (by omega) (by omega)
  · rintro ⟨h1, h2, h3, h4⟩ a b ha hb
    rw [e2] at ha hb
    rw [e, e, e, e]
    by_cases qa : a < 2 ^ p
    · by_cases qb : b < 2 ^ p
      · exact h1 a b qa qb
      · have := h3 a (b - 2 ^ p) qa (by omega)
        rw [e1, e1, Nat.add_assoc (2 ^ p * (2 * y)), Nat.add_assoc (2 ^ p * (2 * y')), show 2 ^ p + (b - 2 ^ p) = b by omega] at this
        exact this
    · by_cases qb : b < 2 ^ p
      · have := h2 (a - 2 ^ p) b (by omega) qb
        rw [e1, e1, Nat.add_assoc, Nat.add_assoc, show 2 ^ p + (a - 2 ^ p) = a by omega] at this
        exact this
      · have := h4 (a - 2 ^ p) (b - 2 ^ p) (by omega) (by omega)
        rw [e1, e1, e1, e1, Nat.add_assoc, Nat.add_assoc, Nat.add_assoc, Nat.add_assoc, show 2 ^ p + (a - 2 ^ p) = a by omega, show 2 ^ p + (b - 2 ^ p) = b by omega] at this
        exact this
/-- a numbering of the squares: n a line, D numbers, each used -/
def LAB (c : Nat → Nat → Nat) (p n D : Nat) (id : Nat → Nat → Nat) : Prop := (∀ i j, i < n → j < n → id i j < D) ∧ (∀ k, k < D → ∃ i j, i < n ∧ j < n ∧ id i j = k) ∧ ∀ i j i' j', i < n → j < n → i' < n → j' < n → (id i j = id i' j' ↔ EQ c p i j i' j')
def DIFF (c : Nat → Nat → Nat) (p D : Nat) : Prop := ∃ id, LAB c p (256 / 2 ^ p) D id
theorem pg_le {a b : Nat} {f : Nat → Nat} (hlt : ∀ j, j < a → f j < b) (hinj : ∀ x y, x < a → y < a → f x = f y → x = y) : a ≤ b := by
  by_cases h : a ≤ b
  · exact h
  · obtain ⟨j, hj, e⟩ := pg_surj a f (fun j hj => by have := hlt j hj; omega) hinj b (by omega)
    have := hlt j hj
    omega
theorem LAB.le {c : Nat → Nat → Nat} {p n D D' : Nat} {id id' : Nat → Nat → Nat} (h : LAB c p n D id) (h' : LAB c p n D' id') : D ≤ D' := by
  have hex : ∀ k : Nat, ∃ v : Nat, k < D → v < D' ∧ ∃ i j, i < n ∧ j < n ∧ id i j = k ∧ id' i j = v := fun k => by
    by_cases hk : k < D
    · obtain ⟨i, j, hi, hj, e⟩ := h.2.1 k hk
      exact ⟨id' i j, fun _ => ⟨h'.1 i j hi hj, i, j, hi, hj, e, rfl⟩⟩
    · exact ⟨0, fun q => absurd q hk⟩
  have hf := fun k => Classical.choose_spec (hex k)
  refine pg_le (f := fun k => Classical.choose (hex k)) (fun j hj => (hf j hj).1) (fun x y hx hy e => ?_)
  obtain ⟨-, i, j, hi, hj, e1, e2⟩ := hf x hx
  obtain ⟨-, i', j', hi', hj', e1', e2'⟩ := hf y hy
  have e3 : id' i j = id' i' j' := by rw [e2, e2']; exact e
  have e4 := (h.2.2 i j i' j' hi hj hi' hj').mpr ((h'.2.2 i j i' j' hi hj hi' hj').mp e3)
  rw [← e1, ← e1', e4]
theorem DIFF.uniq {c : Nat → Nat → Nat} {p D D' : Nat} (h : DIFF c p D) (h' : DIFF c p D') : D = D' := by
  obtain ⟨id, h⟩ := h
  obtain ⟨id', h'⟩ := h'
  exact Nat.le_antisymm (h.le h') (h'.le h)
def sumf (f : Nat → Nat) : Nat → Nat
  | 0 => 0
  | p + 1 => sumf f p + f (p + 1)
def DTOT (c : Nat → Nat → Nat) (P S : Nat) : Prop := ∃ f : Nat → Nat, (∀ q, 1 ≤ q → q ≤ P → DIFF c q (f q)) ∧ S = sumf f P
theorem sumf_eq {f g : Nat → Nat} : ∀ {P : Nat}, (∀ q, 1 ≤ q → q ≤ P → f q = g q) → sumf f P = sumf g P
  | 0, _ => rfl
  | P + 1, h => by rw [sumf, sumf, sumf_eq (fun q h1 h2 => h q h1 (by omega)), h (P + 1) (by omega) (Nat.le_refl _)]
theorem DTOT.uniq {c : Nat → Nat → Nat} {P S S' : Nat} (h : DTOT c P S) (h' : DTOT c P S') : S = S' := by
  obtain ⟨f, h1, e⟩ := h
  obtain ⟨g, h2, e'⟩ := h'
  rw [e, e', sumf_eq (fun q a b => (h1 q a b).uniq (h2 q a b))]
theorem DTOT.succ {c : Nat → Nat → Nat} {P S D : Nat} (h : DTOT c P S) (hd : DIFF c (P + 1) D) : DTOT c (P + 1) (S + D) := by
  obtain ⟨f, h1, e⟩ := h
  refine ⟨fun q => if q = P + 1 then D else f q, fun q a b => ?_, ?_⟩
  · show DIFF c q (if q = P + 1 then D else f q)
    by_cases q9 : q = P + 1
    · rw [if_pos q9, q9]; exact hd
    · rw [if_neg q9]; exact h1 q a (by omega)
  · rw [sumf, if_pos rfl, e]
    congr 1
    exact sumf_eq (fun q a b => by rw [if_neg (by omega)])
theorem DTOT.zero (c : Nat → Nat → Nat) : DTOT c 0 0 := ⟨fun _ => 0, fun q a b => by omega, rfl⟩
abbrev mu_Q4 : Type := Nat × Nat × Nat × Nat
/-- the reference's table of parts -/
def TBq (w : mu_W) (m D : Nat) (q : Nat → mu_Q4) : Prop := mu_iv w m 35 = mI D ∧ ∀ k, k < D → mu_iv w (m + 19) k = mI (q k).1 ∧ mu_iv w (m + 20) k = mI (q k).2.1 ∧ mu_iv w (m + 21) k = mI (q k).2.2.1 ∧ mu_iv w (m + 22) k = mI (q k).2.2.2
def q4_ok (t : mu_Q4) : Prop := t.1 < 65536 ∧ t.2.1 < 65536 ∧ t.2.2.1 < 65536 ∧ t.2.2.2 < 65536
def wh_S (m : Nat) : Nat → Nat → Prop := fun q j => (q = m ∧ j = 35) ∨ (m + 19 ≤ q ∧ q ≤ m + 22)
def wh_post (w : mu_W) (m D : Nat) (q : Nat → mu_Q4) (t : mu_Q4) (r : Option Value) (w' : mu_W) : Prop := mu_Fi (wh_S m) w w' ∧ ∃ k, r = some (.int (mI (k : Nat))) ∧ ((k < D ∧ q k = t ∧ TBq w' m D q) ∨ (k = D ∧ (∀ j, j < D → q j ≠ t) ∧ TBq w' m (D + 1) (rs_up q D t)))
theorem TBq.add {w : mu_W} {m D : Nat} {q : Nat → mu_Q4} (h : TBq w m D q) (t : mu_Q4) : TBq (mu_si (mu_si (mu_si (mu_si (mu_si w (m + 19) D (mI t.1)) (m + 20) D (mI t.2.1)) (m + 21) D (mI t.2.2.1)) (m + 22) D (mI t.2.2.2)) m 35 (mI ((D + 1 : Nat) : Int))) m (D + 1) (rs_up q D t) := ⟨mu_iv_same _ _ _ _, fun k hk => by
  by_cases e : k = D
  · subst e
    have e1 : rs_up q k t k = t := by unfold rs_up; rw [if_pos rfl]
    rw [e1]
    refine ⟨?_, ?_, ?_, ?_⟩
    · rw [mu_iv_oth _ _ (by omega), mu_iv_oth _ _ (by omega), mu_iv_oth _ _ (by omega), mu_iv_oth _ _ (by omega), mu_iv_same]
    · rw [mu_iv_oth _ _ (by omega), mu_iv_oth _ _ (by omega), mu_iv_oth _ _ (by omega), mu_iv_same]
    · rw [mu_iv_oth _ _ (by omega), mu_iv_oth _ _ (by omega), mu_iv_same]
    · rw [mu_iv_oth _ _ (by omega), mu_iv_same]
  · have e1 : rs_up q D t k = q k := by unfold rs_up; rw [if_neg e]
    rw [e1]
    obtain ⟨a1, a2, a3, a4⟩ := h.2 k (by omega)
    refine ⟨?_, ?_, ?_, ?_⟩
    · rw [mu_iv_oth _ _ (by omega), mu_iv_oth _ _ (by omega), mu_iv_oth _ _ (by omega), mu_iv_oth _ _ (by omega), mu_iv_oth _ _ (by omega)]; exact a1
    · rw [mu_iv_oth _ _ (by omega), mu_iv_oth _ _ (by omega), mu_iv_oth _ _ (by omega), mu_iv_oth _ _ (by omega), mu_iv_oth _ _ (by omega)]; exact a2
    · rw [mu_iv_oth _ _ (by omega), mu_iv_oth _ _ (by omega), mu_iv_oth _ _ (by omega), mu_iv_oth _ _ (by omega), mu_iv_oth _ _ (by omega)]; exact a3
    · rw [mu_iv_oth _ _ (by omega), mu_iv_oth _ _ (by omega), mu_iv_oth _ _ (by omega), mu_iv_oth _ _ (by omega), mu_iv_oth _ _ (by omega)]; exact a4⟩
theorem q4_ne {a b : mu_Q4} (h : a.1 ≠ b.1 ∨ a.2.1 ≠ b.2.1 ∨ a.2.2.1 ≠ b.2.2.1 ∨ a.2.2.2 ≠ b.2.2.2) : a ≠ b := fun e => by
  subst e
  rcases h with h | h | h | h <;> exact h rfl
theorem q4_eq {a b : mu_Q4} (h1 : a.1 = b.1) (h2 : a.2.1 = b.2.1) (h3 : a.2.2.1 = b.2.2.1) (h4 : a.2.2.2 = b.2.2.2) : a = b := Prod.ext h1 (Prod.ext h2 (Prod.ext h3 h4))

set_option maxHeartbeats 4000000 in
set_option maxRecDepth 100000 in
theorem c_X12_which (G : mu_G) {w : mu_W} {m : Nat} (hm : mo_ok w m) {D : Nat} {q : Nat → mu_Q4} (hq : TBq w m D q) (hD : D < 16384) (hqo : ∀ k, k < D → q4_ok (q k)) {t : mu_Q4} (ht : q4_ok t) : mu_Ct G M_X12_which [.ref m, .int (mI t.1), .int (mI t.2.1), .int (mI t.2.2.1), .int (mI t.2.2.2)] w (wh_post w m D q t) := by
  have hk0 := hm.1
  obtain ⟨r31, k31⟩ := mo_31 hm
  obtain ⟨r32, k32⟩ := mo_32 hm
  obtain ⟨r33, k33⟩ := mo_33 hm
  obtain ⟨r34, k34⟩ := mo_34 hm
  obtain ⟨t1, t2, t3, t4⟩ := ht
  refine mu_ofWA G M_X12_which [.ref m, .int (mI t.1), .int (mI t.2.1), .int (mI t.2.2.1), .int (mI t.2.2.2), mu_no] (by decide) rfl (Nat.le_of_ble_eq_true rfl) ?_
  intro X E
  have B : mu_B X G cX12_which RX12 6 (mu_rm M_X12_which) := E.1
  have LW : ∀ k (u9 : Unit), k ≤ D → (∀ j, j < k → q j ≠ t) → mu_WA X G 6 (mu_Q X G M_X12_which (wh_post w m D q t)) w 0 0 3 [.ref m, .int (mI (t.1 : Int)), .int (mI (t.2.1 : Int)), .int (mI (t.2.2.1 : Int)), .int (mI (t.2.2.2 : Int)), .int (mI k)] [] := by
    refine mu_ind (D) (fun k (u9 : Unit) => mu_WA X G 6 (mu_Q X G M_X12_which (wh_post w m D q t)) w 0 0 3 [.ref m, .int (mI (t.1 : Int)), .int (mI (t.2.1 : Int)), .int (mI (t.2.2.1 : Int)), .int (mI (t.2.2.2 : Int)), .int (mI k)] []) (fun k (u9 : Unit) => ∀ j, j < k → q j ≠ t) ?_
    intro k u9 hk hno ih
    refine mu_il_5 B dX12_which_3 ?_
    refine mu_al_0 B dX12_which_5 ?_
    refine mu_getI B dX12_which_6 fX12_254 rfl (by assumption) ?_
    rw [hq.1]
    refine mu_icmp_ge (tgt := 66) B dX12_which_9 (by decide) (fun c9 => ?_) (fun c9 => ?_)
    · try rw [mI_le ⟨by omega, by omega⟩ ⟨by omega, by omega⟩] at c9
      obtain rfl : D = k := by omega
      refine mu_al_0 B dX12_which_66 ?_
      refine mu_getR B dX12_which_67 fX12_68 rfl (by assumption) (by assumption) ?_
      refine mu_al_0 B dX12_which_70 ?_
      refine mu_getI B dX12_which_71 fX12_254 rfl (by assumption) ?_
      rw [hq.1]
      refine mu_il_1 B dX12_which_74 ?_
      refine mu_iast B dX12_which_75 (by assumption) (mI_inN (by omega) (by decide)) ?_
      rw [mI_clampN (by omega)]
      refine mu_al_0 B dX12_which_76 ?_
      refine mu_getR B dX12_which_77 fX12_71 rfl (by assumption) (by assumption) ?_
      refine mu_al_0 B dX12_which_80 ?_
      refine mu_getI B dX12_which_81 fX12_254 rfl (by assumption) ?_
      rw [mu_iv_oth _ _ (by omega), hq.1]
      refine mu_il_2 B dX12_which_84 ?_
      refine mu_iast B dX12_which_85 (by assumption) (mI_inN (by omega) (by decide)) ?_
      rw [mI_clampN (by omega)]
      refine mu_al_0 B dX12_which_86 ?_
      refine mu_getR B dX12_which_87 fX12_74 rfl (by assumption) (by assumption) ?_
      refine mu_al_0 B dX12_which_90 ?_
      refine mu_getI B dX12_which_91 fX12_254 rfl (by assumption) ?_
      rw [mu_iv_oth _ _ (by omega), mu_iv_oth _ _ (by omega), hq.1]
      refine mu_il_3 B dX12_which_94 ?_
      refine mu_iast B dX12_which_95 (by assumption) (mI_inN (by omega) (by decide)) ?_
      rw [mI_clampN (by omega)]
      refine mu_al_0 B dX12_which_96 ?_
      refine mu_getR B dX12_which_97 fX12_77 rfl (by assumption) (by assumption) ?_
      refine mu_al_0 B dX12_which_100 ?_
      refine mu_getI B dX12_which_101 fX12_254 rfl (by assumption) ?_
      rw [mu_iv_oth _ _ (by omega), mu_iv_oth _ _ (by omega), mu_iv_oth _ _ (by omega), hq.1]
      refine mu_il_4 B dX12_which_104 ?_
      refine mu_iast B dX12_which_106 (by assumption) (mI_inN (by omega) (by decide)) ?_
      rw [mI_clampN (by omega)]
      refine mu_al_0 B dX12_which_107 ?_
      refine mu_dup B dX12_which_108 rfl ?_
      refine mu_getI B dX12_which_109 fX12_254 rfl (by assumption) ?_
      rw [mu_iv_oth _ _ (by omega), mu_iv_oth _ _ (by omega), mu_iv_oth _ _ (by omega), mu_iv_oth _ _ (by omega), hq.1]
      refine mu_iconst (v := mI 1) B dX12_which_112 rfl ?_
      refine mu_iadd B dX12_which_113 ?_
      try rw [mI_add]
      refine mu_putI B dX12_which_114 fX12_254 fwX12_35 rfl (by assumption) ?_
      rw [show (D : Int) + 1 = ((D + 1 : Nat) : Int) by omega]
      refine mu_al_0 B dX12_which_117 ?_
      refine mu_getI B dX12_which_118 fX12_254 rfl (by assumption) ?_
      rw [mu_iv_same]
      refine mu_iconst (v := mI 1) B dX12_which_121 rfl ?_
      refine mu_isub B dX12_which_122 ?_
      try rw [mI_sub]
      refine mu_iret E rfl (by decide) (by decide) dX12_which_123 ?_
      refine ⟨(((((mu_Fi.refl _).si (Or.inr ⟨by omega, by omega⟩)).si (Or.inr ⟨by omega, by omega⟩)).si (Or.inr ⟨by omega, by omega⟩)).si (Or.inr ⟨by omega, by omega⟩)).si (Or.inl ⟨rfl, rfl⟩), D, by congr 3; omega, Or.inr ⟨rfl, hno, hq.add t⟩⟩
    · try rw [mI_le ⟨by omega, by omega⟩ ⟨by omega, by omega⟩] at c9
      obtain ⟨a1, a2, a3, a4⟩ := hq.2 k (by omega)
      obtain ⟨b1, b2, b3, b4⟩ := hqo k (by omega)
      refine mu_al_0 B dX12_which_12 ?_
      refine mu_getR B dX12_which_13 fX12_68 rfl (by assumption) (by assumption) ?_
      refine mu_il_5 B dX12_which_16 ?_
      refine mu_iald B dX12_which_18 (by assumption) (mI_inN (by omega) (by decide)) ?_
      rw [mI_clampN (by omega), a1]
      refine mu_il_1 B dX12_which_19 ?_
      refine mu_icmp_ne (tgt := 60) B dX12_which_20 (by decide) (fun c20 => ?_) (fun c20 => ?_)
      · try rw [mI_eq ⟨by omega, by omega⟩ ⟨by omega, by omega⟩] at c20
        refine mu_inc_5 (c := mI 1) B dX12_which_60 rfl (by decide) rfl ?_
        try rw [mI_add]
        refine mu_goto (tgt := 3) B dX12_which_63 (by decide) ?_
        exact mu_to (ih () (by omega) (fun j hj => by by_cases e9 : j = k; (rw [e9]; exact q4_ne (by omega)); exact hno j (by omega))) rfl (by rw [show ((k + 1 : Nat) : Int) = (k : Int) + 1 by omega])
      · try rw [mI_eq ⟨by omega, by omega⟩ ⟨by omega, by omega⟩] at c20
        refine mu_al_0 B dX12_which_23 ?_
        refine mu_getR B dX12_which_24 fX12_71 rfl (by assumption) (by assumption) ?_
        refine mu_il_5 B dX12_which_27 ?_
        refine mu_iald B dX12_which_29 (by assumption) (mI_inN (by omega) (by decide)) ?_
        rw [mI_clampN (by omega), a2]
        refine mu_il_2 B dX12_which_30 ?_
        refine mu_icmp_ne (tgt := 60) B dX12_which_31 (by decide) (fun c31 => ?_) (fun c31 => ?_)
        · try rw [mI_eq ⟨by omega, by omega⟩ ⟨by omega, by omega⟩] at c31
          refine mu_inc_5 (c := mI 1) B dX12_which_60 rfl (by decide) rfl ?_
          try rw [mI_add]
          refine mu_goto (tgt := 3) B dX12_which_63 (by decide) ?_
          exact mu_to (ih () (by omega) (fun j hj => by by_cases e9 : j = k; (rw [e9]; exact q4_ne (by omega)); exact hno j (by omega))) rfl (by rw [show ((k + 1 : Nat) : Int) = (k : Int) + 1 by omega])
        · try rw [mI_eq ⟨by omega, by omega⟩ ⟨by omega, by omega⟩] at c31
          refine mu_al_0 B dX12_which_34 ?_
          refine mu_getR B dX12_which_35 fX12_74 rfl (by assumption) (by assumption) ?_
          refine mu_il_5 B dX12_which_38 ?_
          refine mu_iald B dX12_which_40 (by assumption) (mI_inN (by omega) (by decide)) ?_
          rw [mI_clampN (by omega), a3]
          refine mu_il_3 B dX12_which_41 ?_
          refine mu_icmp_ne (tgt := 60) B dX12_which_42 (by decide) (fun c42 => ?_) (fun c42 => ?_)
          · try rw [mI_eq ⟨by omega, by omega⟩ ⟨by omega, by omega⟩] at c42
            refine mu_inc_5 (c := mI 1) B dX12_which_60 rfl (by decide) rfl ?_
            try rw [mI_add]
            refine mu_goto (tgt := 3) B dX12_which_63 (by decide) ?_
            exact mu_to (ih () (by omega) (fun j hj => by by_cases e9 : j = k; (rw [e9]; exact q4_ne (by omega)); exact hno j (by omega))) rfl (by rw [show ((k + 1 : Nat) : Int) = (k : Int) + 1 by omega])
          · try rw [mI_eq ⟨by omega, by omega⟩ ⟨by omega, by omega⟩] at c42
            refine mu_al_0 B dX12_which_45 ?_
            refine mu_getR B dX12_which_46 fX12_77 rfl (by assumption) (by assumption) ?_
            refine mu_il_5 B dX12_which_49 ?_
            refine mu_iald B dX12_which_51 (by assumption) (mI_inN (by omega) (by decide)) ?_
            rw [mI_clampN (by omega), a4]
            refine mu_il_4 B dX12_which_52 ?_
            refine mu_icmp_ne (tgt := 60) B dX12_which_54 (by decide) (fun c54 => ?_) (fun c54 => ?_)
            · try rw [mI_eq ⟨by omega, by omega⟩ ⟨by omega, by omega⟩] at c54
              refine mu_inc_5 (c := mI 1) B dX12_which_60 rfl (by decide) rfl ?_
              try rw [mI_add]
              refine mu_goto (tgt := 3) B dX12_which_63 (by decide) ?_
              exact mu_to (ih () (by omega) (fun j hj => by by_cases e9 : j = k; (rw [e9]; exact q4_ne (by omega)); exact hno j (by omega))) rfl (by rw [show ((k + 1 : Nat) : Int) = (k : Int) + 1 by omega])
            · try rw [mI_eq ⟨by omega, by omega⟩ ⟨by omega, by omega⟩] at c54
              refine mu_il_5 B dX12_which_57 ?_
              refine mu_iret E rfl (by decide) (by decide) dX12_which_59 ?_
              exact ⟨mu_Fi.refl _, k, rfl, Or.inl ⟨by omega, q4_eq (by omega) (by omega) (by omega) (by omega), hq⟩⟩
  show mu_WA X G 6 _ _ 0 0 0 _ []
  refine mu_iconst (v := mI 0) B dX12_which_0 rfl ?_
  refine mu_is_5 B dX12_which_1 (by decide) rfl ?_
  exact LW 0 () (Nat.zero_le _) (fun j hj => absurd hj (Nat.not_lt_zero j))

/-- the squares numbered so far: v numbers those of half the side -/
def qd (v : Nat → Nat → Nat) (i j : Nat) : mu_Q4 := (v (2 * i) (2 * j), v (2 * i) (2 * j + 1), v (2 * i + 1) (2 * j), v (2 * i + 1) (2 * j + 1))
def PGq (n : Nat) (v : Nat → Nat → Nat) (y x D : Nat) (q : Nat → mu_Q4) (id : Nat → Nat → Nat) : Prop := D ≤ n * y + x ∧ (∀ a b, a < D → b < D → q a = q b → a = b) ∧ (∀ k, k < D → q4_ok (q k)) ∧
  (∀ i j, j < n → pt_bf x y j i → id i j < D ∧ q (id i j) = qd v i j) ∧ ∀ k, k < D → ∃ i j, j < n ∧ pt_bf x y j i ∧ id i j = k
theorem PGq.start (n : Nat) (v : Nat → Nat → Nat) (q : Nat → mu_Q4) (id : Nat → Nat → Nat) : PGq n v 0 0 0 q id := ⟨Nat.zero_le _, fun a b h => absurd h (Nat.not_lt_zero a), fun k h => absurd h (Nat.not_lt_zero k), fun i j _ h => by unfold pt_bf at h; omega, fun k h => absurd h (Nat.not_lt_zero k)⟩
theorem PGq.row {n y D : Nat} {v : Nat → Nat → Nat} {q : Nat → mu_Q4} {id : Nat → Nat → Nat} (h : PGq n v y n D q id) : PGq n v (y + 1) 0 D q id := ⟨by rw [Nat.mul_succ]; exact h.1, h.2.1, h.2.2.1, fun i j hj hb => h.2.2.2.1 i j hj (by unfold pt_bf at hb ⊢; omega), fun k hk => by
  obtain ⟨i, j, h1, h2, h3⟩ := h.2.2.2.2 k hk
  exact ⟨i, j, h1, by unfold pt_bf at h2 ⊢; omega, h3⟩⟩
theorem PGq.step {n y x D k : Nat} {v : Nat → Nat → Nat} {q : Nat → mu_Q4} {id : Nat → Nat → Nat} (h : PGq n v y x D q id) (hx : x < n) (hok : q4_ok (qd v y x)) (hk : (k < D ∧ q k = qd v y x) ∨ (k = D ∧ ∀ j, j < D → q j ≠ qd v y x)) : PGq n v y (x + 1) (if k = D then D + 1 else D) (if k = D then rs_up q D (qd v y x) else q) (cu id y x k) := by
  obtain ⟨h1, h2, h3, h4, h5⟩ := h
  have hcu : ∀ i j, cu id y x k i j = if i = y ∧ j = x then k else id i j := fun i j => rfl
  rcases hk with ⟨hk, hq⟩ | ⟨hk, hq⟩
  · rw [if_neg (by omega), if_neg (by omega)]
    refine ⟨by omega, h2, h3, fun i j hj hb => ?_, fun p hp => ?_⟩
    · rw [hcu]
      by_cases e : i = y ∧ j = x
      · rw [if_pos e, e.1, e.2]; exact ⟨hk, hq⟩
      · rw [if_neg e]; exact h4 i j hj (by unfold pt_bf at hb ⊢; omega)
    · obtain ⟨i, j, g1, g2, g3⟩ := h5 p hp
      refine ⟨i, j, g1, by unfold pt_bf at g2 ⊢; omega, ?_⟩
      rw [hcu, if_neg (by unfold pt_bf at g2; omega)]; exact g3
  · rw [if_pos hk, if_pos hk]
    have hup : ∀ p, rs_up q D (qd v y x) p = if p = D then qd v y x else q p := fun p => rfl
    refine ⟨by omega, fun a b ha hb e => ?_, fun p hp => ?_, fun i j hj hb => ?_, fun p hp => ?_⟩
    · rw [hup, hup] at e
      by_cases ea : a = D
      · by_cases eb : b = D
        · omega
        · rw [if_pos ea, if_neg eb] at e; exact absurd e.symm (hq b (by omega))
      · by_cases eb : b = D
        · rw [if_neg ea, if_pos eb] at e; exact absurd e (hq a (by omega))
        · rw [if_neg ea, if_neg eb] at e; exact h2 a b (by omega) (by omega) e
    · rw [hup]
      by_cases e : p = D
      · rw [if_pos e]; exact hok
      · rw [if_neg e]; exact h3 p (by omega)
    · rw [hcu, hup]
      by_cases e : i = y ∧ j = x
      · rw [if_pos e, if_pos hk, e.1, e.2]; exact ⟨by omega, rfl⟩
      · rw [if_neg e]
        obtain ⟨g1, g2⟩ := h4 i j hj (by unfold pt_bf at hb ⊢; omega)
        rw [if_neg (by omega)]
        exact ⟨by omega, g2⟩
    · by_cases e : p = D
      · exact ⟨y, x, hx, by unfold pt_bf; omega, by rw [hcu, if_pos ⟨rfl, rfl⟩]; omega⟩
      · obtain ⟨i, j, g1, g2, g3⟩ := h5 p (by omega)
        refine ⟨i, j, g1, by unfold pt_bf at g2 ⊢; omega, ?_⟩
        rw [hcu, if_neg (by unfold pt_bf at g2; omega)]; exact g3
theorem PGq.lab {c : Nat → Nat → Nat} {p n D : Nat} {v : Nat → Nat → Nat} {q : Nat → mu_Q4} {id : Nat → Nat → Nat} (h : PGq n v n 0 D q id) (hv : ∀ i j i' j', i < 2 * n → j < 2 * n → i' < 2 * n → j' < 2 * n → (v i j = v i' j' ↔ EQ c p i j i' j')) : LAB c (p + 1) n D id := by
  obtain ⟨h1, h2, h3, h4, h5⟩ := h
  refine ⟨fun i j hi hj => (h4 i j hj (by unfold pt_bf; omega)).1, fun k hk => ?_, fun i j i' j' hi hj hi' hj' => ?_⟩
  · obtain ⟨i, j, g1, g2, g3⟩ := h5 k hk
    exact ⟨i, j, by unfold pt_bf at g2; omega, g1, g3⟩
  · obtain ⟨a1, a2⟩ := h4 i j hj (by unfold pt_bf; omega)
    obtain ⟨b1, b2⟩ := h4 i' j' hj' (by unfold pt_bf; omega)
    rw [EQ_S, ← hv _ _ _ _ (by omega) (by omega) (by omega) (by omega), ← hv _ _ _ _ (by omega) (by omega) (by omega) (by omega), ← hv _ _ _ _ (by omega) (by omega) (by omega) (by omega), ← hv _ _ _ _ (by omega) (by omega) (by omega) (by omega)]
    constructor
    · intro e
      have e2 : qd v i j = qd v i' j' := by rw [← a2, ← b2, e]
      unfold qd at e2
      simp only [Prod.mk.injEq] at e2
      exact e2
    · rintro ⟨e1, e2, e3, e4⟩
      refine h2 _ _ a1 b1 ?_
      rw [a2, b2]
      unfold qd
      rw [e1, e2, e3, e4]
def db_S (m : Nat) : Nat → Nat → Prop := fun q j => (q = m ∧ j = 35) ∨ (m + 17 ≤ q ∧ q ≤ m + 22)
theorem wh_db {m : Nat} {w w' : mu_W} (h : mu_Fi (wh_S m) w w') : mu_Fi (db_S m) w w' := h.mono (fun q j hh => by unfold wh_S at hh; unfold db_S; omega)
theorem TBq.oth {w : mu_W} {m D a j : Nat} {q : Nat → mu_Q4} {x : Int32} (h : TBq w m D q) (ha : a = m + 17 ∨ a = m + 18) : TBq (mu_si w a j x) m D q := ⟨by rw [mu_iv_oth _ _ (by omega)]; exact h.1, fun k hk => by
  obtain ⟨a1, a2, a3, a4⟩ := h.2 k hk
  refine ⟨?_, ?_, ?_, ?_⟩
  · rw [mu_iv_oth _ _ (by omega)]; exact a1
  · rw [mu_iv_oth _ _ (by omega)]; exact a2
  · rw [mu_iv_oth _ _ (by omega)]; exact a3
  · rw [mu_iv_oth _ _ (by omega)]; exact a4⟩
