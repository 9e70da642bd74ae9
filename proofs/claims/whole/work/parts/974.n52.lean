/-! ===== the class's squares: of side 2, and all of them ===== -/
def r2 (c : Nat → Nat → Nat) (x y : Nat) : Nat := c x y + 2 * c (x + 1) y
def k2 (c : Nat → Nat → Nat) (i j : Nat) : Nat := r2 c (2 * j) (2 * i) + 4 * r2 c (2 * j) (2 * i + 1)
theorem r2_lt {c : Nat → Nat → Nat} (hc : ∀ i j, c i j ≤ 1) (x y : Nat) : r2 c x y < 4 := by
  have b0 := hc x y
  have b1 := hc (x + 1) y
  unfold r2
  omega
theorem kq2_lt {c : Nat → Nat → Nat} (hc : ∀ i j, c i j ≤ 1) (i j : Nat) : k2 c i j < 16 := by
  have := r2_lt hc (2 * j) (2 * i)
  have := r2_lt hc (2 * j) (2 * i + 1)
  unfold k2
  omega
theorem un_3 {c : Nat → Nat → Nat} (hc : ∀ i j, c i j ≤ 1) {x y : Nat} (hx : x + 1 < 256) (hy : y < 256) {d : Int64} (hd : WDx c x y d) : un (d &&& mL 3) = r2 c x y := by
  rw [un_and, show un (mL 3) = 3 from by decide]
  have hb : ∀ i, i < 2 → ((un d).testBit i = decide (c (x + i) y = 1)) := fun i hi => by
    have h1 := hd i (by omega)
    rw [lb_un, show (x : Int) + (i : Int) = ((x + i : Nat) : Int) by omega, al_in (by omega) (by omega)] at h1
    exact h1
  have h0 := hb 0 (by decide)
  have h1 := hb 1 (by decide)
  have b0 := hc x y
  have b1 := hc (x + 1) y
  rw [Nat.testBit_eq_decide_div_mod_eq] at h0 h1
  have g0 := decide_eq_decide.mp h0
  have g1 := decide_eq_decide.mp h1
  rw [show (3 : Nat) = 2 ^ 2 - 1 from rfl, Nat.and_two_pow_sub_one_eq_mod]
  unfold r2
  rw [Nat.add_zero] at g0
  simp only [Nat.pow_zero, Nat.pow_one, Nat.div_one] at g0 g1
  generalize un d = n at *
  generalize c x y = e0 at *
  generalize c (x + 1) y = e1 at *
  omega
theorem l2_ (P : Nat → Nat → Prop) : (∀ a b, a < 2 ^ 1 → b < 2 ^ 1 → P a b) ↔ ((P 0 0 ∧ P 1 0) ∧ (P 0 1 ∧ P 1 1)) := by
  constructor
  · intro h
    exact ⟨⟨h _ _ (by decide) (by decide), h _ _ (by decide) (by decide)⟩, ⟨h _ _ (by decide) (by decide), h _ _ (by decide) (by decide)⟩⟩
  · rintro ⟨⟨a1, a2⟩, ⟨b1, b2⟩⟩ a b ha hb
    rcases (show a = 0 ∨ a = 1 by omega) with rfl | rfl <;> rcases (show b = 0 ∨ b = 1 by omega) with rfl | rfl <;> assumption
theorem kq2_eq {c : Nat → Nat → Nat} (hc : ∀ i j, c i j ≤ 1) (i j i' j' : Nat) : k2 c i j = k2 c i' j' ↔ EQ c 1 i j i' j' := by
  unfold EQ
  rw [l2_ (fun a b => c (2 ^ 1 * j + a) (2 ^ 1 * i + b) = c (2 ^ 1 * j' + a) (2 ^ 1 * i' + b))]
  have b0 := hc (2 * j) (2 * i)
  have b1 := hc (2 * j + 1) (2 * i)
  have b2 := hc (2 * j) (2 * i + 1)
  have b3 := hc (2 * j + 1) (2 * i + 1)
  have c0 := hc (2 * j') (2 * i')
  have c1 := hc (2 * j' + 1) (2 * i')
  have c2 := hc (2 * j') (2 * i' + 1)
  have c3 := hc (2 * j' + 1) (2 * i' + 1)
  unfold k2 r2
  rw [Nat.pow_one]
  simp only [Nat.add_zero]
  omega
theorem kq2_0 {c : Nat → Nat → Nat} {i j : Nat} (h : EMP c 1 i j) : k2 c i j = 0 := by
  unfold EMP at h
  rw [l2_ (fun a b => c (2 ^ 1 * j + a) (2 ^ 1 * i + b) = 0)] at h
  rw [Nat.pow_one] at h
  simp only [Nat.add_zero] at h
  unfold k2 r2
  omega
/-- which of the 16 have been seen -/
def SN (c : Nat → Nat → Nat) (lv : Prop) (Pr : Nat → Nat → Prop) (sn : Nat) : Prop := sn < 65536 ∧ ∀ v, v < 32 → (sn.testBit v = true ↔ ((v = 0 ∧ lv) ∨ ∃ x y, x < 128 ∧ y < 128 ∧ Pr x y ∧ k2 c x y = v))
theorem SN.pr {c : Nat → Nat → Nat} {lv : Prop} {Pr Pr' : Nat → Nat → Prop} {sn : Nat} (h : SN c lv Pr sn) (he : ∀ x y, x < 128 → y < 128 → (Pr x y ↔ Pr' x y)) : SN c lv Pr' sn := ⟨h.1, fun v hv => by
  rw [h.2 v hv]
  constructor
  · rintro (q | ⟨x, y, b1, b2, b3, b4⟩)
    · exact Or.inl q
    · exact Or.inr ⟨x, y, b1, b2, (he x y b1 b2).mp b3, b4⟩
  · rintro (q | ⟨x, y, b1, b2, b3, b4⟩)
    · exact Or.inl q
    · exact Or.inr ⟨x, y, b1, b2, (he x y b1 b2).mpr b3, b4⟩⟩
theorem SN.step {c : Nat → Nat → Nat} (hc : ∀ i j, c i j ≤ 1) {lv : Prop} {l r u d i j sn : Nat} (h : SN c lv (PRb l r u d 1 i j) sn) (hi : i < 128) (hj : j < 128) (hm : mtB l r u d 1 i j) : SN c lv (PRb l r u d 1 i (j + 1)) (sn ||| 2 ^ k2 c i j) := by
  have hk := kq2_lt hc i j
  refine ⟨Nat.or_lt_two_pow (n := 16) h.1 (Nat.pow_lt_pow_right (by decide) hk), fun v hv => ?_⟩
  rw [Nat.testBit_or, Bool.or_eq_true, h.2 v hv, Nat.testBit_two_pow, decide_eq_true_eq]
  constructor
  · rintro ((q | ⟨x, y, b1, b2, b3, b4⟩) | q)
    · exact Or.inl q
    · exact Or.inr ⟨x, y, b1, b2, ⟨b3.1, by have := b3.2; omega⟩, b4⟩
    · exact Or.inr ⟨i, j, hi, hj, ⟨hm, by omega⟩, q⟩
  · rintro (q | ⟨x, y, b1, b2, b3, b4⟩)
    · exact Or.inl (Or.inl q)
    · by_cases q : x = i ∧ y = j
      · right; rw [← b4, q.1, q.2]
      · exact Or.inl (Or.inr ⟨x, y, b1, b2, ⟨b3.1, by have := b3.2; omega⟩, b4⟩)
theorem SN.done {c : Nat → Nat → Nat} (hc : ∀ i j, c i j ≤ 1) {l r u d sn : Nat} (hbx : BXc c l r u d) (h1 : l ≤ r) (h2 : r < 256) (h3 : u ≤ d) (h4 : d < 256) (h : SN c (sqm l r u d 1 < 256 / 2 ^ 1 * (256 / 2 ^ 1)) (mtB l r u d 1) sn) : DIFF c 1 (pcn 32 sn) := by
  have hem : ∀ i j, i < 128 → j < 128 → ¬ mtB l r u d 1 i j → k2 c i j = 0 := fun i j hi hj h9 => kq2_0 (mt_emp hc hbx (p := 1) (by omega) (by omega) h9)
  have hw := en_word (P := fun v => sn.testBit v = true) (b := 0) 32 sn (fun i hi => by rw [Nat.zero_add])
  rw [Nat.zero_add] at hw
  have hw2 : en_c (fun v => sn.testBit v = true) 32 = pcn 32 sn := by rw [hw]; exact Nat.zero_add _
  rw [← hw2]
  refine DIFF_of (key := k2 c) (fun i j _ _ => by have := kq2_lt hc i j; omega) (fun i j i' j' _ _ _ _ => kq2_eq hc i j i' j') (fun v hv => ?_)
  rw [h.2 v hv, lv_iff (p := 1) (by decide) h1 h2 h3 h4, show 256 / 2 ^ 1 = 128 from rfl]
  constructor
  · rintro (⟨q, i, j, b1, b2, b3⟩ | ⟨x, y, b1, b2, b3, b4⟩)
    · exact ⟨i, j, b1, b2, by rw [q]; exact hem i j b1 b2 b3⟩
    · exact ⟨x, y, b1, b2, b4⟩
  · rintro ⟨i, j, b1, b2, b3⟩
    by_cases q : mtB l r u d 1 i j
    · exact Or.inr ⟨i, j, b1, b2, q, b3⟩
    · exact Or.inl ⟨by rw [← b3]; exact hem i j b1 b2 q, i, j, b1, b2, q⟩
theorem un_pair2 {x y : Int64} (hx : un x < 4) (hy : un y < 4) : un (x ||| y <<< ((mI 2).toInt64 &&& 63)) = un x + 4 * un y := by
  have h1 := un_shl (x := y) (k := 2) (by decide) (by omega)
  rw [un_or, show (mI 2 : Int32) = mI ((2 : Nat) : Int) from rfl, h1, Nat.or_comm, Nat.mul_comm, ← Nat.two_pow_add_eq_or_of_lt (i := 2) hx]
  omega

set_option maxHeartbeats 4000000 in
set_option maxRecDepth 100000 in
theorem c_X8_differentPairs (G : mu_G) {w : mu_W} {f : Nat} (hof : CFo w f) {c : Nat → Nat → Nat} (hbf : CFb w f c) {l r u d : Nat} (hb : BXn w f l r u d) (hbx : BXc c l r u d) : mu_Ct G M_X8_differentPairs [.ref f] w (fun r9 w' => (∃ D, DIFF c 1 D ∧ D ≤ 32 ∧ r9 = some (.int (mI (D : Nat)))) ∧ w' = w) := by
  obtain ⟨kf0, rf0, kf1, rf1, kf2⟩ := id hof
  obtain ⟨⟨M, hm⟩, g1, g2, g3, g4⟩ := id hb
  obtain ⟨rp, hrp⟩ : ∃ x, r / 2 ^ 1 = x := ⟨_, rfl⟩
  obtain ⟨lp, hlp⟩ : ∃ x, l / 2 ^ 1 = x := ⟨_, rfl⟩
  obtain ⟨dp, hdp⟩ : ∃ x, d / 2 ^ 1 = x := ⟨_, rfl⟩
  obtain ⟨up, hup⟩ : ∃ x, u / 2 ^ 1 = x := ⟨_, rfl⟩
  have a1 : rp < 128 ∧ dp < 128 ∧ lp ≤ rp ∧ up ≤ dp := by omega
  refine mu_ofWA G M_X8_differentPairs [.ref f, mu_no, mu_no, mu_no, mu_no, mu_no, mu_no, mu_no] (by decide) rfl (Nat.le_of_ble_eq_true rfl) ?_
  intro X E
  have B : mu_B X G cX8_differentPairs RX8 8 (mu_rm M_X8_differentPairs) := E.1
  have LI : ∀ i (sn : Nat), i ≤ dp + 1 → (up ≤ i ∧ SN c (sqm l r u d 1 < 256 / 2 ^ 1 * (256 / 2 ^ 1)) (PRb l r u d 1 i 0) sn) → mu_WA X G 8 (mu_Q X G M_X8_differentPairs (fun r9 w' => (∃ D, DIFF c 1 D ∧ D ≤ 32 ∧ r9 = some (.int (mI (D : Nat)))) ∧ w' = w)) w 0 0 21 [.ref f, .int (mI (sn : Nat)), .int (mI i), mu_no, mu_no, mu_no, mu_no, mu_no] [] := by
    refine mu_ind (dp + 1) (fun i (sn : Nat) => mu_WA X G 8 (mu_Q X G M_X8_differentPairs (fun r9 w' => (∃ D, DIFF c 1 D ∧ D ≤ 32 ∧ r9 = some (.int (mI (D : Nat)))) ∧ w' = w)) w 0 0 21 [.ref f, .int (mI (sn : Nat)), .int (mI i), mu_no, mu_no, mu_no, mu_no, mu_no] []) (fun i (sn : Nat) => up ≤ i ∧ SN c (sqm l r u d 1 < 256 / 2 ^ 1 * (256 / 2 ^ 1)) (PRb l r u d 1 i 0) sn) ?_
    intro i sn hi ⟨hui, hS⟩ ih
    refine mu_il_2 B dX8_differentPairs_21 ?_
    refine mu_al_0 B dX8_differentPairs_22 ?_
    refine mu_getIN B dX8_differentPairs_23 fX8_40 rfl (by assumption) ?_
    rw [hm.2.2.2.2]
    refine mu_iconst (v := mI 1) B dX8_differentPairs_26 rfl ?_
    refine mu_ishr B dX8_differentPairs_27 ?_
    rw [show (mI 1 : Int32) = mI ((1 : Nat) : Int) from rfl, mI_shN (by omega) (by decide), hdp]
    refine mu_icmp_gt (tgt := 107) B dX8_differentPairs_28 (by decide) (fun c28 => ?_) (fun c28 => ?_)
    · try rw [mI_lt ⟨by omega, by omega⟩ ⟨by omega, by omega⟩] at c28
      try rw [mI_lt ⟨by omega, by omega⟩ ⟨by omega, by omega⟩] at c28
      obtain rfl : dp + 1 = i := by omega
      have hS9 := hS.pr (Pr' := mtB l r u d 1) (fun x y hx hy => by
        unfold PRb mtB
        rw [hrp, hlp, hup, hdp]
        omega)
      have hsl := hS.1
      refine mu_il_1 B dX8_differentPairs_107 ?_
      refine mu_eS1 B dX8_differentPairs_108 mX8_59 ⟨⟨by decide, by decide⟩, by decide, by decide⟩ (Nat.le_of_ble_eq_true rfl) (c_bc G (n := sn) (by omega)) ?_
      refine mu_iret E rfl (by decide) (by decide) dX8_differentPairs_111 ?_
      exact ⟨⟨_, SN.done hbf.1 hbx g1 g2 g3 g4 hS9, pcn_le 32 sn, rfl⟩, rfl⟩
    · try rw [mI_lt ⟨by omega, by omega⟩ ⟨by omega, by omega⟩] at c28
      refine mu_al_0 B dX8_differentPairs_31 ?_
      refine mu_getIN B dX8_differentPairs_32 fX8_37 rfl (by assumption) ?_
      rw [hm.2.1]
      refine mu_iconst (v := mI 1) B dX8_differentPairs_35 rfl ?_
      refine mu_ishr B dX8_differentPairs_36 ?_
      rw [show (mI 1 : Int32) = mI ((1 : Nat) : Int) from rfl, mI_shN (by omega) (by decide), hlp]
      refine mu_is_3 B dX8_differentPairs_37 (by decide) rfl ?_
      have LJ : ∀ j (sn : Nat), j ≤ rp + 1 → (lp ≤ j ∧ SN c (sqm l r u d 1 < 256 / 2 ^ 1 * (256 / 2 ^ 1)) (PRb l r u d 1 i j) sn) → mu_WA X G 8 (mu_Q X G M_X8_differentPairs (fun r9 w' => (∃ D, DIFF c 1 D ∧ D ≤ 32 ∧ r9 = some (.int (mI (D : Nat)))) ∧ w' = w)) w 0 0 38 [.ref f, .int (mI (sn : Nat)), .int (mI i), .int (mI j), mu_no, mu_no, mu_no, mu_no] [] := by
        refine mu_ind (rp + 1) (fun j (sn : Nat) => mu_WA X G 8 (mu_Q X G M_X8_differentPairs (fun r9 w' => (∃ D, DIFF c 1 D ∧ D ≤ 32 ∧ r9 = some (.int (mI (D : Nat)))) ∧ w' = w)) w 0 0 38 [.ref f, .int (mI (sn : Nat)), .int (mI i), .int (mI j), mu_no, mu_no, mu_no, mu_no] []) (fun j (sn : Nat) => lp ≤ j ∧ SN c (sqm l r u d 1 < 256 / 2 ^ 1 * (256 / 2 ^ 1)) (PRb l r u d 1 i j) sn) ?_
        intro j sn hj ⟨hlj, hS⟩ ihj
        refine mu_il_3 B dX8_differentPairs_38 ?_
        refine mu_al_0 B dX8_differentPairs_39 ?_
        refine mu_getIN B dX8_differentPairs_40 fX8_34 rfl (by assumption) ?_
        rw [hm.2.2.2.1]
        refine mu_iconst (v := mI 1) B dX8_differentPairs_43 rfl ?_
        refine mu_ishr B dX8_differentPairs_44 ?_
        rw [show (mI 1 : Int32) = mI ((1 : Nat) : Int) from rfl, mI_shN (by omega) (by decide), hrp]
        refine mu_icmp_gt (tgt := 101) B dX8_differentPairs_45 (by decide) (fun c45 => ?_) (fun c45 => ?_)
        · try rw [mI_lt ⟨by omega, by omega⟩ ⟨by omega, by omega⟩] at c45
          try rw [mI_lt ⟨by omega, by omega⟩ ⟨by omega, by omega⟩] at c45
          obtain rfl : rp + 1 = j := by omega
          refine mu_inc_2 (c := mI 1) B dX8_differentPairs_101 rfl (by decide) rfl ?_
          try rw [mI_add]
          refine mu_goto (tgt := 21) B dX8_differentPairs_104 (by decide) ?_
          refine mu_fg (ih sn (by omega) ⟨by omega, hS.pr (fun x y hx hy => ?_)⟩) rfl (by rw [show ((i + 1 : Nat) : Int) = (i : Int) + 1 by omega]; exact ⟨Or.inl rfl, Or.inl rfl, Or.inl rfl, Or.inr rfl, Or.inl rfl, Or.inl rfl, Or.inl rfl, Or.inl rfl, trivial⟩)
          unfold PRb mtB
          rw [hrp, hlp, hup, hdp]
          omega
        · try rw [mI_lt ⟨by omega, by omega⟩ ⟨by omega, by omega⟩] at c45
          have hmij : mtB l r u d 1 i j := by unfold mtB; rw [hrp, hlp, hup, hdp]; omega
          have hkl := kq2_lt hbf.1 i j
          have hr1 := r2_lt hbf.1 (2 * j) (2 * i)
          have hr2 := r2_lt hbf.1 (2 * j) (2 * i + 1)
          refine mu_al_0 B dX8_differentPairs_48 ?_
          refine mu_iconst (v := mI 2) B dX8_differentPairs_49 rfl ?_
          refine mu_il_3 B dX8_differentPairs_50 ?_
          refine mu_imul B dX8_differentPairs_51 ?_
          try rw [mI_mul]
          try rw [mI_mul]
          rw [show (2 : Int) * (j : Int) = ((2 * j : Nat) : Int) by omega]
          refine mu_iconst (v := mI 2) B dX8_differentPairs_52 rfl ?_
          refine mu_il_2 B dX8_differentPairs_53 ?_
          refine mu_imul B dX8_differentPairs_54 ?_
          try rw [mI_mul]
          try rw [mI_mul]
          rw [show (2 : Int) * (i : Int) = ((2 * i : Nat) : Int) by omega]
          refine mu_cV2 B dX8_differentPairs_55 mX8_53 ⟨⟨by decide, by decide⟩, by decide, by decide⟩ (Nat.le_of_ble_eq_true rfl) hof.1 (c_X1_window G hof hbf (p := 2 * j) (by omega) (y := ((2 * i : Nat) : Int)) ⟨by omega, by omega⟩) (fun r55 w55 q55 => ?_)
          obtain ⟨⟨d1, rfl, hd1⟩, rfl⟩ := q55
          have hu1 := un_3 hbf.1 (x := 2 * j) (y := 2 * i) (by omega) (by omega) hd1
          show mu_WA X G 8 _ _ 0 0 58 _ [.long d1]
          refine mu_ldc2 B kX8_57 dX8_differentPairs_58 ?_
          refine mu_land B dX8_differentPairs_61 ?_
          refine mu_ls_4 B dX8_differentPairs_62 (by decide) rfl ?_
          refine mu_al_0 B dX8_differentPairs_64 ?_
          refine mu_iconst (v := mI 2) B dX8_differentPairs_65 rfl ?_
          refine mu_il_3 B dX8_differentPairs_66 ?_
          refine mu_imul B dX8_differentPairs_67 ?_
          try rw [mI_mul]
          try rw [mI_mul]
          rw [show (2 : Int) * (j : Int) = ((2 * j : Nat) : Int) by omega]
          refine mu_iconst (v := mI 2) B dX8_differentPairs_68 rfl ?_
          refine mu_il_2 B dX8_differentPairs_69 ?_
          refine mu_imul B dX8_differentPairs_70 ?_
          try rw [mI_mul]
          try rw [mI_mul]
          rw [show (2 : Int) * (i : Int) = ((2 * i : Nat) : Int) by omega]
          refine mu_iconst (v := mI 1) B dX8_differentPairs_71 rfl ?_
          refine mu_iadd B dX8_differentPairs_72 ?_
          try rw [mI_add]
          try rw [mI_add]
          rw [show ((2 * i : Nat) : Int) + 1 = ((2 * i + 1 : Nat) : Int) by omega]
          refine mu_cV2 B dX8_differentPairs_73 mX8_53 ⟨⟨by decide, by decide⟩, by decide, by decide⟩ (Nat.le_of_ble_eq_true rfl) hof.1 (c_X1_window G hof hbf (p := 2 * j) (by omega) (y := ((2 * i + 1 : Nat) : Int)) ⟨by omega, by omega⟩) (fun r73 w73 q73 => ?_)
          obtain ⟨⟨d2, rfl, hd2⟩, rfl⟩ := q73
          have hu2 := un_3 hbf.1 (x := 2 * j) (y := 2 * i + 1) (by omega) (by omega) hd2
          show mu_WA X G 8 _ _ 0 0 76 _ [.long d2]
          refine mu_ldc2 B kX8_57 dX8_differentPairs_76 ?_
          refine mu_land B dX8_differentPairs_79 ?_
          refine mu_ls_6 B dX8_differentPairs_80 (by decide) rfl ?_
          refine mu_il_1 B dX8_differentPairs_82 ?_
          refine mu_iconst (v := mI 1) B dX8_differentPairs_83 rfl ?_
          refine mu_ll_4 B dX8_differentPairs_84 ?_
          refine mu_ll_6 B dX8_differentPairs_86 ?_
          refine mu_iconst (v := mI 2) B dX8_differentPairs_88 rfl ?_
          refine mu_lshl B dX8_differentPairs_89 rfl ?_
          refine mu_lor B dX8_differentPairs_90 ?_
          have hk9 : un ((d1 &&& mL 3) ||| (d2 &&& mL 3) <<< ((mI 2).toInt64 &&& 63)) = k2 c i j := by
            rw [un_pair2 (by rw [hu1]; exact hr1) (by rw [hu2]; exact hr2), hu1, hu2]; rfl
          refine mu_l2i B dX8_differentPairs_91 rfl ?_
          rw [l2i_s (by rw [hk9]; omega), hk9]
          refine mu_ishl B dX8_differentPairs_92 ?_
          rw [mI_shl _ _ (by omega), Int.one_mul, show (2 : Int) ^ k2 c i j = ((2 ^ k2 c i j : Nat) : Int) by rw [Int.natCast_pow]; rfl]
          refine mu_ior B dX8_differentPairs_93 ?_
          rw [mI_or (by have := hS.1; omega) (by have : 2 ^ k2 c i j < 2 ^ 16 := Nat.pow_lt_pow_right (by decide) hkl; omega)]
          refine mu_is_1 B dX8_differentPairs_94 (by decide) rfl ?_
          refine mu_inc_3 (c := mI 1) B dX8_differentPairs_95 rfl (by decide) rfl ?_
          try rw [mI_add]
          refine mu_goto (tgt := 38) B dX8_differentPairs_98 (by decide) ?_
          exact mu_fg (ihj _ (by omega) ⟨by omega, hS.step hbf.1 (by omega) (by omega) hmij⟩) rfl (by rw [show ((j + 1 : Nat) : Int) = (j : Int) + 1 by omega]; exact ⟨Or.inl rfl, Or.inl rfl, Or.inl rfl, Or.inl rfl, Or.inr rfl, Or.inr rfl, Or.inr rfl, Or.inr rfl, trivial⟩)
      exact LJ lp sn (by omega) ⟨Nat.le_refl _, hS.pr (fun x y hx hy => by unfold PRb mtB; rw [hrp, hlp, hup, hdp]; omega)⟩
  show mu_WA X G 8 _ _ 0 0 0 _ []
  refine mu_al_0 B dX8_differentPairs_0 ?_
  refine mu_iconst (v := mI 1) B dX8_differentPairs_1 rfl ?_
  refine mu_eS2 B dX8_differentPairs_2 mX8_49 ⟨⟨by decide, by decide⟩, by decide, by decide⟩ (Nat.le_of_ble_eq_true rfl) (c_X8_leavesEmptyOnes G hof.1 hb (p := 1) (by decide)) ?_
  refine mu_if_eq (tgt := 12) B dX8_differentPairs_5 (by decide) (fun c5 => ?_) (fun c5 => ?_)
  · have z5 := mu_bf c5
    refine mu_iconst (v := mI 0) B dX8_differentPairs_12 rfl ?_
    refine mu_is_1 B dX8_differentPairs_13 (by decide) rfl ?_
    refine mu_al_0 B dX8_differentPairs_14 ?_
    refine mu_getIN B dX8_differentPairs_15 fX8_43 rfl (by assumption) ?_
    rw [hm.2.2.1]
    refine mu_iconst (v := mI 1) B dX8_differentPairs_18 rfl ?_
    refine mu_ishr B dX8_differentPairs_19 ?_
    rw [show (mI 1 : Int32) = mI ((1 : Nat) : Int) from rfl, mI_shN (by omega) (by decide), hup]
    refine mu_is_2 B dX8_differentPairs_20 (by decide) rfl ?_
    have hno : ∀ x y, ¬ PRb l r u d 1 up 0 x y := fun x y q9 => by
      have h9 := q9.1.1.1
      have h8 := q9.2
      rw [hup] at h9
      omega
    first
      | (refine LI up 1 (by omega) ⟨Nat.le_refl _, by decide, fun v hv => ?_⟩
         rw [show (1 : Nat) = 2 ^ 0 from rfl, Nat.testBit_two_pow, decide_eq_true_eq]
         exact ⟨fun q9 => Or.inl ⟨q9.symm, z5⟩, fun q9 => q9.elim (fun q8 => q8.1.symm) (fun ⟨x, y, _, _, b3, _⟩ => absurd b3 (hno x y))⟩)
      | (refine LI up 0 (by omega) ⟨Nat.le_refl _, by decide, fun v hv => ?_⟩
         rw [Nat.zero_testBit]
         exact ⟨fun q9 => absurd q9 (by decide), fun q9 => q9.elim (fun q8 => absurd q8.2 z5) (fun ⟨x, y, _, _, b3, _⟩ => absurd b3 (hno x y))⟩)
  · have z5 := mu_bt c5
    refine mu_iconst (v := mI 1) B dX8_differentPairs_8 rfl ?_
    refine mu_goto (tgt := 13) B dX8_differentPairs_9 (by decide) ?_
    refine mu_is_1 B dX8_differentPairs_13 (by decide) rfl ?_
    refine mu_al_0 B dX8_differentPairs_14 ?_
    refine mu_getIN B dX8_differentPairs_15 fX8_43 rfl (by assumption) ?_
    rw [hm.2.2.1]
    refine mu_iconst (v := mI 1) B dX8_differentPairs_18 rfl ?_
    refine mu_ishr B dX8_differentPairs_19 ?_
    rw [show (mI 1 : Int32) = mI ((1 : Nat) : Int) from rfl, mI_shN (by omega) (by decide), hup]
    refine mu_is_2 B dX8_differentPairs_20 (by decide) rfl ?_
    have hno : ∀ x y, ¬ PRb l r u d 1 up 0 x y := fun x y q9 => by
      have h9 := q9.1.1.1
      have h8 := q9.2
      rw [hup] at h9
      omega
    first
      | (refine LI up 1 (by omega) ⟨Nat.le_refl _, by decide, fun v hv => ?_⟩
         rw [show (1 : Nat) = 2 ^ 0 from rfl, Nat.testBit_two_pow, decide_eq_true_eq]
         exact ⟨fun q9 => Or.inl ⟨q9.symm, z5⟩, fun q9 => q9.elim (fun q8 => q8.1.symm) (fun ⟨x, y, _, _, b3, _⟩ => absurd b3 (hno x y))⟩)
      | (refine LI up 0 (by omega) ⟨Nat.le_refl _, by decide, fun v hv => ?_⟩
         rw [Nat.zero_testBit]
         exact ⟨fun q9 => absurd q9 (by decide), fun q9 => q9.elim (fun q8 => absurd q8.2 z5) (fun ⟨x, y, _, _, b3, _⟩ => absurd b3 (hno x y))⟩)
