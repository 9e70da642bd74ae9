/-! ===== the class's squares: one side counted ===== -/
theorem p_n : ∀ p, p < 9 → 2 ^ p * (256 / 2 ^ p) = 256 ∧ 1 ≤ 256 / 2 ^ p := by decide
theorem p_lt {p x : Nat} (hp : p ≤ 8) (hx : x < 256) : x / 2 ^ p < 256 / 2 ^ p := by
  have h := p_n p (by omega)
  exact Nat.div_lt_of_lt_mul (by rw [h.1]; exact hx)
theorem p_fit {p i : Nat} (hp : p ≤ 8) (hi : i < 256 / 2 ^ p) : 2 ^ p * i + 2 ^ p ≤ 256 := by
  have h := p_n p (by omega)
  have : 2 ^ p * (i + 1) ≤ 2 ^ p * (256 / 2 ^ p) := Nat.mul_le_mul_left _ hi
  rw [Nat.mul_succ, h.1] at this
  exact this
theorem p_64 : ∀ p, p < 9 → 2 ≤ p → 256 / 2 ^ p ≤ 64 := by decide
theorem p_32 : ∀ p, p < 9 → 3 ≤ p → 256 / 2 ^ p ≤ 32 ∧ 256 / 2 ^ (p - 1) = 2 * (256 / 2 ^ p) := by decide
theorem lv_iff {l r u d p : Nat} (hp : p ≤ 8) (h1 : l ≤ r) (h2 : r < 256) (h3 : u ≤ d) (h4 : d < 256) : sqm l r u d p < 256 / 2 ^ p * (256 / 2 ^ p) ↔ ∃ i j, i < 256 / 2 ^ p ∧ j < 256 / 2 ^ p ∧ ¬ mtB l r u d p i j := by
  have hn := (p_n p (by omega)).2
  have a1 := p_lt hp h2
  have a2 := p_lt hp h4
  have a3 := Nat.div_le_div_right (c := 2 ^ p) h1
  have a4 := Nat.div_le_div_right (c := 2 ^ p) h3
  unfold sqm mtB
  generalize 256 / 2 ^ p = n at *
  generalize r / 2 ^ p = rp at *
  generalize l / 2 ^ p = lp at *
  generalize d / 2 ^ p = dp at *
  generalize u / 2 ^ p = up at *
  have hnn : n * (n - 1) + n = n * n := by
    obtain ⟨k, rfl⟩ : ∃ k, n = k + 1 := ⟨n - 1, by omega⟩
    rw [Nat.add_sub_cancel, Nat.mul_succ (k + 1) k]
  constructor
  · intro h
    by_cases q : lp = 0 ∧ up = 0 ∧ rp = n - 1 ∧ dp = n - 1
    · exfalso
      rw [q.1, q.2.1, q.2.2.1, q.2.2.2, show n - 1 - 0 + 1 = n by omega] at h
      omega
    · by_cases q1 : lp = 0 ∧ up = 0
      · exact ⟨n - 1, n - 1, by omega, by omega, by omega⟩
      · exact ⟨0, 0, by omega, by omega, by omega⟩
  · rintro ⟨i, j, b1, b2, b3⟩
    by_cases q : rp - lp + 1 = n
    · have h5 : dp - up + 1 ≤ n - 1 := by omega
      have := Nat.mul_le_mul (show rp - lp + 1 ≤ n by omega) h5
      omega
    · have h5 : rp - lp + 1 ≤ n - 1 := by omega
      have := Nat.mul_le_mul h5 (show dp - up + 1 ≤ n by omega)
      rw [Nat.mul_comm (n - 1) n] at this
      omega
def dqS (a : Nat) : Nat → Nat → Prop := fun q j => (q = a ∧ 3 ≤ j ∧ j ≤ 5) ∨ (a + 1 ≤ q ∧ q ≤ a + 3)
def dos_post (w : mu_W) (a : Nat) (c : Nat → Nat → Nat) (l r u d p : Nat) (r9 : Option Value) (w' : mu_W) : Prop := mu_Fi (dqS a) w w' ∧ ∃ D nm, r9 = some (.int (mI (D : Nat))) ∧ D ≤ 5000 ∧ DIFF c p D ∧ NMp c p (256 / 2 ^ p) nm ∧ NMw w' a l r u d p (256 / 2 ^ p) nm
/-- the field's cells lie within the box -/
def BXc (c : Nat → Nat → Nat) (l r u d : Nat) : Prop := ∀ x y, x < 256 → y < 256 → c x y = 1 → (l ≤ x ∧ x ≤ r) ∧ u ≤ y ∧ y ≤ d
/-- the state of the count -/
def DOI (w s : mu_W) (a l r u d p : Nat) (KN : Nat → Nat → Nat) (e i j : Nat) : Prop := mu_Fi (dqS a) w s ∧ ∃ nn kf nmv, HTb s a e nn kf ∧ LVI s w a (PRb l r u d p i j) (256 / 2 ^ p) KN nn kf (sqm l r u d p < 256 / 2 ^ p * (256 / 2 ^ p)) nmv ∧ nn ≤ (i - u / 2 ^ p) * (r / 2 ^ p - l / 2 ^ p + 1) + (j - l / 2 ^ p)
theorem DOI.step {w s s1 : mu_W} {a l r u d p : Nat} {KN : Nat → Nat → Nat} {e i j v : Nat} (hn64 : 256 / 2 ^ p ≤ 64) (hi : i < 256 / 2 ^ p) (hj : j < 256 / 2 ^ p) (hm : mtB l r u d p i j) (hF : mu_Fi (dqS a) w s) {nn : Nat} {kf : Nat → Int64} {nmv : Nat → Nat → Nat} (hL : LVI s w a (PRb l r u d p i j) (256 / 2 ^ p) KN nn kf (sqm l r u d p < 256 / 2 ^ p * (256 / 2 ^ p)) nmv) (hnn : nn ≤ (i - u / 2 ^ p) * (r / 2 ^ p - l / 2 ^ p + 1) + (j - l / 2 ^ p)) (hK : KN i j < 9223372036854775808) (hF1 : mu_Fi (nmS a) s s1)
    (hc : (mL (KN i j : Nat) = 0 ∧ v = 0 ∧ HTb s1 a e nn kf ∧ mu_iv s1 a 5 = mI 1) ∨ (mL (KN i j : Nat) ≠ 0 ∧ mu_iv s1 a 5 = mu_iv s a 5 ∧ ((1 ≤ v ∧ v ≤ nn ∧ kf v = mL (KN i j : Nat) ∧ HTb s1 a e nn kf) ∨ (v = nn + 1 ∧ (∀ m, 1 ≤ m → m ≤ nn → kf m ≠ mL (KN i j : Nat)) ∧ HTb s1 a e (nn + 1) (rs_up kf (nn + 1) (mL (KN i j : Nat))))))) : DOI w (mu_si s1 (a + 1) (64 * i + j) (mI v)) a l r u d p KN e i (j + 1) := by
  have hfr : mu_Fi (dqS a) w (mu_si s1 (a + 1) (64 * i + j) (mI v)) := (hF.trans (hF1.mono (fun q j hh => by unfold nmS at hh; unfold dqS; omega))).si (Or.inr ⟨by omega, by omega⟩)
  have b1 : ∀ q, q ≠ 64 * i + j → mu_iv (mu_si s1 (a + 1) (64 * i + j) (mI v)) (a + 1) q = mu_iv s (a + 1) q := fun q hq => by
    rw [mu_iv_oth _ _ (fun h => hq h.2)]
    exact hF1.iv (fun h => by unfold nmS at h; omega) rfl
  have b2 : mu_iv (mu_si s1 (a + 1) (64 * i + j) (mI v)) (a + 1) (64 * i + j) = mI v := mu_iv_same _ _ _ _
  have b5 : mu_iv (mu_si s1 (a + 1) (64 * i + j) (mI v)) a 5 = mu_iv s1 a 5 := mu_iv_oth _ _ (by omega)
  have hT9 : ∀ n9 k9, HTb s1 a e n9 k9 → HTb (mu_si s1 (a + 1) (64 * i + j) (mI v)) a e n9 k9 := fun n9 k9 h => h.fi (S := fun q _ => q = a + 1) ((mu_Fi.refl _).si rfl) (by omega) (by omega) (fun j hh => by omega) (fun j hh => by omega)
  have hz : mL ((KN i j : Nat) : Int) = 0 ↔ KN i j = 0 := ⟨fun q => mL_inj hK (by decide) (by rw [q]; rfl), fun q => by rw [q]; rfl⟩
  have hl9 := hm.2.1
  rcases hc with ⟨c1, c2, c3, c4⟩ | ⟨c1, c2, ⟨c3, c4, c5, c6⟩ | ⟨c3, c4, c5⟩⟩
  · exact ⟨hfr, nn, kf, cu nmv i j v, hT9 _ _ c3, hL.step hn64 hi hj hm b1 b2 (Nat.le_refl _) (fun _ _ _ => rfl) (Or.inl ⟨hz.mp c1, c2, rfl, b5.trans c4⟩), by omega⟩
  · exact ⟨hfr, nn, kf, cu nmv i j v, hT9 _ _ c6, hL.step hn64 hi hj hm b1 b2 (Nat.le_refl _) (fun _ _ _ => rfl) (Or.inr ⟨fun q => c1 (hz.mpr q), c3, c4, c5, b5.trans c2, Or.inl rfl⟩), by omega⟩
  · refine ⟨hfr, nn + 1, rs_up kf (nn + 1) (mL (KN i j : Nat)), cu nmv i j v, hT9 _ _ c5, hL.step hn64 hi hj hm b1 b2 (Nat.le_succ _) (fun m m1 m2 => ?_) (Or.inr ⟨fun q => c1 (hz.mpr q), by omega, by omega, ?_, b5.trans c2, Or.inr ⟨rfl, c3⟩⟩), by omega⟩
    · unfold rs_up; rw [if_neg (by omega)]
    · rw [c3]; unfold rs_up; rw [if_pos rfl]

set_option maxHeartbeats 4000000 in
set_option maxRecDepth 100000 in
theorem c_X8_differentOfSide2 (G : mu_G) {w : mu_W} {a : Nat} (ho : CQo w a) {f : Nat} (hof : CFo w f) {c : Nat → Nat → Nat} (hbf : CFb w f c) {l r u d : Nat} (hb : BXn w f l r u d) (hbx : BXc c l r u d) : mu_Ct G M_X8_differentOfSide [.ref a, .ref f, .int (mI ((2 : Nat) : Int))] w (dos_post w a c l r u d 2) := by
  obtain ⟨ka, ⟨r0, k1⟩, ⟨r1, k2⟩, ⟨r2, k3⟩⟩ := id ho
  obtain ⟨kf0, rf0, kf1, rf1, kf2⟩ := id hof
  obtain ⟨⟨M, hm⟩, g1, g2, g3, g4⟩ := id hb
  have hn64 := p_64 2 (by omega) (by omega)
  have hKN : KNo c 2 (256 / 2 ^ 2) (fun i j => kcN c i j 4) := KNo.two hbf.1
  have hem : ∀ i j, i < 256 / 2 ^ 2 → j < 256 / 2 ^ 2 → ¬ mtB l r u d 2 i j → EMP c 2 i j := fun i j hi hj h9 => mt_emp hbf.1 hbx (p_fit (by omega) hi) (p_fit (by omega) hj) h9
  have nfe : ∀ e, mu_kd w f = some (1, 0) → (e = a ∨ e = a + 1 ∨ e = a + 2 ∨ e = a + 3) → f ≠ e := fun e h8 h9 h7 => by
    rcases h9 with h9 | h9 | h9 | h9
    · rw [h7, h9, ka] at h8; cases h8
    · rw [h7, h9, k1] at h8; cases h8
    · rw [h7, h9, k2] at h8; cases h8
    · rw [h7, h9, k3] at h8; cases h8
  have nff : ∀ j, 5 ≤ j → j ≤ 9 → ¬ dqS a f j := fun j _ _ hh => by
    rcases hh with hh | hh
    · exact nfe a kf0 (Or.inl rfl) hh.1
    · exact nfe f kf0 (by omega) rfl
  have nfb : ∀ j, ¬ dqS a (f + 1) j := fun j hh => by
    have h8 := kf1
    rcases (show f + 1 = a ∨ f + 1 = a + 1 ∨ f + 1 = a + 2 ∨ f + 1 = a + 3 by unfold dqS at hh; omega) with h9 | h9 | h9 | h9
    · rw [h9, ka] at h8; cases h8
    · rw [h9, k1] at h8; cases h8
    · rw [h9, k2] at h8; cases h8
    · rw [h9, k3] at h8; cases h8
  have a1 := p_lt (p := 2) (by omega) g2
  have a2 := p_lt (p := 2) (by omega) g4
  have a3 := Nat.div_le_div_right (c := 2 ^ 2) g1
  have a4 := Nat.div_le_div_right (c := 2 ^ 2) g3
  have hs1 : 1 ≤ (sqm l r u d 2) := Nat.mul_pos (Nat.succ_pos _) (Nat.succ_pos _)
  obtain ⟨rp, hrp⟩ : ∃ x, r / 2 ^ 2 = x := ⟨_, rfl⟩
  obtain ⟨lp, hlp⟩ : ∃ x, l / 2 ^ 2 = x := ⟨_, rfl⟩
  obtain ⟨dp, hdp⟩ : ∃ x, d / 2 ^ 2 = x := ⟨_, rfl⟩
  obtain ⟨up, hup⟩ : ∃ x, u / 2 ^ 2 = x := ⟨_, rfl⟩
  rw [hrp] at a1 a3
  rw [hlp] at a3
  rw [hdp] at a2 a4
  rw [hup] at a4
  have hs2 : (sqm l r u d 2) ≤ 4096 := by
    unfold sqm
    rw [hrp, hlp, hdp, hup]
    exact Nat.mul_le_mul (show rp - lp + 1 ≤ 64 by omega) (show dp - up + 1 ≤ 64 by omega)
  refine mu_ofWA G M_X8_differentOfSide [.ref a, .ref f, .int (mI ((2 : Nat) : Int)), mu_no, mu_no, mu_no, mu_no] (by decide) rfl (Nat.le_of_ble_eq_true rfl) ?_
  intro X E
  have B : mu_B X G cX8_differentOfSide RX8 7 (mu_rm M_X8_differentOfSide) := E.1
  show mu_WA X G 7 _ _ 0 0 0 _ []
  refine mu_al_0 B dX8_differentOfSide_0 ?_
  refine mu_al_1 B dX8_differentOfSide_1 ?_
  refine mu_il_2 B dX8_differentOfSide_2 ?_
  refine mu_eS2 B dX8_differentOfSide_3 mX8_49 ⟨⟨by decide, by decide⟩, by decide, by decide⟩ (Nat.le_of_ble_eq_true rfl) (c_X8_leavesEmptyOnes G hof.1 hb (p := 2) (by omega)) ?_
  refine mu_putZ B dX8_differentOfSide_6 fX8_65 fwX8_5 rfl (by by_cases q9 : ((sqm l r u d 2) < 256 / 2 ^ 2 * (256 / 2 ^ 2)); (rw [if_pos q9]; exact Or.inr rfl); (rw [if_neg q9]; exact Or.inl rfl)) (by assumption) ?_
  have hF0 : mu_Fi (dqS a) w (mu_si w a 5 (if ((sqm l r u d 2) < 256 / 2 ^ 2 * (256 / 2 ^ 2)) then mI 1 else mI 0)) := (mu_Fi.refl _).si (Or.inl ⟨rfl, by decide, by decide⟩)
  have hes : mu_iv (mu_si w a 5 (if ((sqm l r u d 2) < 256 / 2 ^ 2 * (256 / 2 ^ 2)) then mI 1 else mI 0)) a 5 = (if ((sqm l r u d 2) < 256 / 2 ^ 2 * (256 / 2 ^ 2)) then mI 1 else mI 0) := mu_iv_same _ _ _ _
  have hF00 : mu_Fi (fun q j => q = a ∧ j = 5) w (mu_si w a 5 (if ((sqm l r u d 2) < 256 / 2 ^ 2 * (256 / 2 ^ 2)) then mI 1 else mI 0)) := (mu_Fi.refl _).si ⟨rfl, rfl⟩
  generalize mu_si w a 5 (if ((sqm l r u d 2) < 256 / 2 ^ 2 * (256 / 2 ^ 2)) then mI 1 else mI 0) = w1 at hF0 hes hF00 ⊢
  refine mu_al_0 B dX8_differentOfSide_9 ?_
  refine mu_al_1 B dX8_differentOfSide_10 ?_
  refine mu_il_2 B dX8_differentOfSide_11 ?_
  refine mu_eS2 B dX8_differentOfSide_12 mX8_46 ⟨⟨by decide, by decide⟩, by decide, by decide⟩ (Nat.le_of_ble_eq_true rfl) (c_X8_squaresMet G (hF0.kd hof.1) (hb.fi hF0 nff) (p := 2) (by omega)) ?_
  refine mu_cV1 B dX8_differentOfSide_15 mX8_69 ⟨⟨by decide, by decide⟩, by decide, by decide⟩ (Nat.le_of_ble_eq_true rfl) (hF0.kd ka) (c_X8_forgetKeys G (ho.fi hF0) (q := (sqm l r u d 2)) hs1 hs2) (fun r15 w15 q15 => ?_)
  obtain ⟨rfl, hF1, e, he, hqe, hT0⟩ := q15
  have hF2 := hF0.trans (hF1.mono (fun q j hh => by unfold fkS at hh; unfold dqS; omega))
  have hm2 : CFm w15 f l r u d M := hm.fi hF2 nff
  refine mu_al_1 B dX8_differentOfSide_18 ?_
  refine mu_getIN B dX8_differentOfSide_19 fX8_43 rfl (hF2.kd kf0) ?_
  rw [hm2.2.2.1]
  refine mu_il_2 B dX8_differentOfSide_22 ?_
  refine mu_ishr B dX8_differentOfSide_23 ?_
  rw [mI_shN (by omega) (by omega), hup]
  refine mu_is_3 B dX8_differentOfSide_24 (by decide) rfl ?_
  have LI : ∀ i (s : mu_W), i ≤ dp + 1 → (up ≤ i ∧ DOI w s a l r u d 2 (fun i j => kcN c i j 4) e i 0) → mu_WA X G 7 (mu_Q X G M_X8_differentOfSide (dos_post w a c l r u d 2)) s 0 0 25 [.ref a, .ref f, .int (mI ((2 : Nat) : Int)), .int (mI i), mu_no, mu_no, mu_no] [] := by
    refine mu_ind (dp + 1) (fun i (s : mu_W) => mu_WA X G 7 (mu_Q X G M_X8_differentOfSide (dos_post w a c l r u d 2)) s 0 0 25 [.ref a, .ref f, .int (mI ((2 : Nat) : Int)), .int (mI i), mu_no, mu_no, mu_no] []) (fun i (s : mu_W) => up ≤ i ∧ DOI w s a l r u d 2 (fun i j => kcN c i j 4) e i 0) ?_
    intro i s hi ⟨hui, hFs, nn, kf, nmv, hT, hL, hnn⟩ ih
    have hms : CFm s f l r u d M := hm.fi hFs nff
    refine mu_il_3 B dX8_differentOfSide_25 ?_
    refine mu_al_1 B dX8_differentOfSide_26 ?_
    refine mu_getIN B dX8_differentOfSide_27 fX8_40 rfl (hFs.kd kf0) ?_
    rw [hms.2.2.2.2]
    refine mu_il_2 B dX8_differentOfSide_30 ?_
    refine mu_ishr B dX8_differentOfSide_31 ?_
    rw [mI_shN (by omega) (by omega), hdp]
    refine mu_icmp_gt (tgt := 125) B dX8_differentOfSide_32 (by decide) (fun c32 => ?_) (fun c32 => ?_)
    · try rw [mI_lt ⟨by omega, by omega⟩ ⟨by omega, by omega⟩] at c32
      try rw [mI_lt ⟨by omega, by omega⟩ ⟨by omega, by omega⟩] at c32
      obtain rfl : dp + 1 = i := by omega
      have hL9 := hL.pr (Pr' := mtB l r u d 2) (fun x y hx hy => by
        unfold PRb mtB
        rw [hrp, hlp, hup, hdp]
        omega)
      have hnb : nn ≤ 4096 := by
        have h7 : (sqm l r u d 2) = (dp - up + 1) * (rp - lp + 1) := by unfold sqm; rw [hrp, hlp, hup, hdp, Nat.mul_comm]
        rw [hup, hrp, hlp, show dp + 1 - up = dp - up + 1 by omega] at hnn
        omega
      obtain ⟨d1, d2, es, d3, d4, d5⟩ := LVI.done (c := c) hn64 hKN hem hT hL9 (lv_iff (by omega) g1 g2 g3 g4) hnb
      refine mu_al_0 B dX8_differentOfSide_125 ?_
      refine mu_getI B dX8_differentOfSide_126 fX8_85 rfl (hFs.kd ka) ?_
      rw [hT.2.1]
      refine mu_al_0 B dX8_differentOfSide_129 ?_
      refine mu_getI B dX8_differentOfSide_130 fX8_65 rfl (hFs.kd ka) ?_
      rw [d3]
      refine mu_if_eq (tgt := 140) B dX8_differentOfSide_133 (by decide) (fun c133 => ?_) (fun c133 => ?_)
      · try rw [mI_eq0 ⟨by omega, by omega⟩] at c133
        refine mu_iconst (v := mI 0) B dX8_differentOfSide_140 rfl ?_
        refine mu_iadd B dX8_differentOfSide_141 ?_
        try rw [mI_add]
        refine mu_iret E rfl (by decide) (by decide) dX8_differentOfSide_142 ?_
        first
          | (have e9 : es = 1 := by omega
             subst e9
             exact ⟨hFs, nn + 1, _, rfl, by omega, d5, d1, d2⟩)
          | (have e9 : es = 0 := by omega
             subst e9
             exact ⟨hFs, nn + 0, _, rfl, by omega, d5, d1, d2⟩)
      · try rw [mI_eq0 ⟨by omega, by omega⟩] at c133
        refine mu_iconst (v := mI 1) B dX8_differentOfSide_136 rfl ?_
        refine mu_goto (tgt := 141) B dX8_differentOfSide_137 (by decide) ?_
        refine mu_iadd B dX8_differentOfSide_141 ?_
        try rw [mI_add]
        refine mu_iret E rfl (by decide) (by decide) dX8_differentOfSide_142 ?_
        first
          | (have e9 : es = 1 := by omega
             subst e9
             exact ⟨hFs, nn + 1, _, rfl, by omega, d5, d1, d2⟩)
          | (have e9 : es = 0 := by omega
             subst e9
             exact ⟨hFs, nn + 0, _, rfl, by omega, d5, d1, d2⟩)
    · try rw [mI_lt ⟨by omega, by omega⟩ ⟨by omega, by omega⟩] at c32
      refine mu_il_3 B dX8_differentOfSide_35 ?_
      refine mu_bipush (v := mI 64) B dX8_differentOfSide_36 (by decide) ?_
      refine mu_icmp_ge (tgt := 125) B dX8_differentOfSide_38 (by decide) (fun c38 => ?_) (fun c38 => ?_)
      · try rw [mI_le ⟨by omega, by omega⟩ ⟨by omega, by omega⟩] at c38
        exfalso
        omega
      · try rw [mI_le ⟨by omega, by omega⟩ ⟨by omega, by omega⟩] at c38
        refine mu_al_1 B dX8_differentOfSide_41 ?_
        refine mu_getIN B dX8_differentOfSide_42 fX8_37 rfl (hFs.kd kf0) ?_
        rw [hms.2.1]
        refine mu_il_2 B dX8_differentOfSide_45 ?_
        refine mu_ishr B dX8_differentOfSide_46 ?_
        rw [mI_shN (by omega) (by omega), hlp]
        refine mu_is_4 B dX8_differentOfSide_47 (by decide) rfl ?_
        have LJ : ∀ j (t : mu_W), j ≤ rp + 1 → (lp ≤ j ∧ DOI w t a l r u d 2 (fun i j => kcN c i j 4) e i j) → mu_WA X G 7 (mu_Q X G M_X8_differentOfSide (dos_post w a c l r u d 2)) t 0 0 49 [.ref a, .ref f, .int (mI ((2 : Nat) : Int)), .int (mI i), .int (mI j), mu_no, mu_no] [] := by
          refine mu_ind (rp + 1) (fun j (t : mu_W) => mu_WA X G 7 (mu_Q X G M_X8_differentOfSide (dos_post w a c l r u d 2)) t 0 0 49 [.ref a, .ref f, .int (mI ((2 : Nat) : Int)), .int (mI i), .int (mI j), mu_no, mu_no] []) (fun j (t : mu_W) => lp ≤ j ∧ DOI w t a l r u d 2 (fun i j => kcN c i j 4) e i j) ?_
          intro j t hj ⟨hlj, hFt, nn, kf, nmv, hT, hL, hnn⟩ ihj
          have hot := ho.fi hFt
          have hbt := hb.fi hFt nff
          have hmt : CFm t f l r u d M := hm.fi hFt nff
          refine mu_il_4 B dX8_differentOfSide_49 ?_
          refine mu_al_1 B dX8_differentOfSide_51 ?_
          refine mu_getIN B dX8_differentOfSide_52 fX8_34 rfl (hFt.kd kf0) ?_
          rw [hmt.2.2.2.1]
          refine mu_il_2 B dX8_differentOfSide_55 ?_
          refine mu_ishr B dX8_differentOfSide_56 ?_
          rw [mI_shN (by omega) (by omega), hrp]
          refine mu_icmp_gt (tgt := 119) B dX8_differentOfSide_57 (by decide) (fun c57 => ?_) (fun c57 => ?_)
          · try rw [mI_lt ⟨by omega, by omega⟩ ⟨by omega, by omega⟩] at c57
            try rw [mI_lt ⟨by omega, by omega⟩ ⟨by omega, by omega⟩] at c57
            obtain rfl : rp + 1 = j := by omega
            refine mu_inc_3 (c := mI 1) B dX8_differentOfSide_119 rfl (by decide) rfl ?_
            try rw [mI_add]
            refine mu_goto (tgt := 25) B dX8_differentOfSide_122 (by decide) ?_
            refine mu_fg (ih t (by omega) ⟨by omega, hFt, nn, kf, nmv, hT, hL.pr (fun x y hx hy => ?_), ?_⟩) rfl (by rw [show ((i + 1 : Nat) : Int) = (i : Int) + 1 by omega]; exact ⟨Or.inl rfl, Or.inl rfl, Or.inl rfl, Or.inl rfl, Or.inr rfl, Or.inr rfl, Or.inr rfl, trivial⟩)
            · unfold PRb mtB
              rw [hrp, hlp, hup, hdp]
              omega
            · have h9 : (i + 1 - up) * (rp - lp + 1) = (i - up) * (rp - lp + 1) + (rp - lp + 1) := by rw [show i + 1 - up = (i - up) + 1 by omega, Nat.add_mul, Nat.one_mul]
              rw [hup, hrp, hlp] at hnn ⊢
              omega
          · try rw [mI_lt ⟨by omega, by omega⟩ ⟨by omega, by omega⟩] at c57
            refine mu_il_4 B dX8_differentOfSide_60 ?_
            refine mu_bipush (v := mI 64) B dX8_differentOfSide_62 (by decide) ?_
            refine mu_icmp_ge (tgt := 119) B dX8_differentOfSide_64 (by decide) (fun c64 => ?_) (fun c64 => ?_)
            · try rw [mI_le ⟨by omega, by omega⟩ ⟨by omega, by omega⟩] at c64
              exfalso
              omega
            · try rw [mI_le ⟨by omega, by omega⟩ ⟨by omega, by omega⟩] at c64
              have hmij : mtB l r u d 2 i j := by unfold mtB; rw [hrp, hlp, hup, hdp]; omega
              have hnlt : nn < 2 ^ e := by
                have h8 : (i - up + 1) * (rp - lp + 1) ≤ (dp - up + 1) * (rp - lp + 1) := Nat.mul_le_mul_right _ (by omega)
                rw [Nat.add_mul, Nat.one_mul] at h8
                have h7 : (sqm l r u d 2) = (dp - up + 1) * (rp - lp + 1) := by unfold sqm; rw [hrp, hlp, hup, hdp, Nat.mul_comm]
                rw [hup, hrp, hlp] at hnn
                omega
              refine mu_il_2 B dX8_differentOfSide_67 ?_
              refine mu_iconst (v := mI 2) B dX8_differentOfSide_68 rfl ?_
              refine mu_icmp_ne (tgt := 82) B dX8_differentOfSide_69 (by decide) (fun c69 => ?_) (fun c69 => ?_)
              · exact absurd rfl c69
              · refine mu_al_1 B dX8_differentOfSide_72 ?_
                refine mu_il_3 B dX8_differentOfSide_73 ?_
                refine mu_il_4 B dX8_differentOfSide_74 ?_
                refine mu_eS3 B dX8_differentOfSide_76 mX8_73 ⟨⟨by decide, by decide⟩, by decide, by decide⟩ (Nat.le_of_ble_eq_true rfl) (c_X8_keyOfCells G (hof.fi hFt) (hbf.fi hFt nfb) (i := i) (j := j) (by omega) (by omega)) ?_
                refine mu_goto (tgt := 93) B dX8_differentOfSide_79 (by decide) ?_
                refine mu_ls_5 B dX8_differentOfSide_93 (by decide) rfl ?_
                refine mu_al_0 B dX8_differentOfSide_95 ?_
                refine mu_getR B dX8_differentOfSide_96 fX8_9 rfl hot.1 hot.2.1.1 ?_
                refine mu_il_3 B dX8_differentOfSide_99 ?_
                refine mu_bipush (v := mI 64) B dX8_differentOfSide_100 (by decide) ?_
                refine mu_imul B dX8_differentOfSide_102 ?_
                try rw [mI_mul]
                try rw [mI_mul]
                refine mu_il_4 B dX8_differentOfSide_103 ?_
                refine mu_iadd B dX8_differentOfSide_105 ?_
                try rw [mI_add]
                try rw [mI_add]
                rw [show (i : Int) * 64 + (j : Int) = ((64 * i + j : Nat) : Int) by omega]
                refine mu_al_0 B dX8_differentOfSide_106 ?_
                refine mu_ll_5 B dX8_differentOfSide_107 ?_
                refine mu_cV1 B dX8_differentOfSide_109 mX8_81 ⟨⟨by decide, by decide⟩, by decide, by decide⟩ (Nat.le_of_ble_eq_true rfl) hot.1 (c_X8_nameOf G hot he hT hnlt (key := mL (kcN c i j 4 : Nat))) (fun r109 w109 q109 => ?_)
                obtain ⟨hF9, v, rfl, hcase⟩ := q109
                show mu_WA X G 7 _ w109 0 0 112 _ [.int (mI (v : Nat)), .int (mI ((64 * i + j : Nat) : Int)), .ref (a + 1)]
                refine mu_iast B dX8_differentOfSide_112 (hF9.kd hot.2.1.2) (mI_inN (by omega) (by decide)) ?_
                rw [mI_clampN (by omega)]
                refine mu_inc_4 (c := mI 1) B dX8_differentOfSide_113 rfl (by decide) rfl ?_
                try rw [mI_add]
                refine mu_goto (tgt := 49) B dX8_differentOfSide_116 (by decide) ?_
                exact mu_fg (ihj _ (by omega) ⟨by omega, DOI.step (by omega) (by omega) (by omega) hmij hFt hL hnn (hKN.1 i j (by omega) (by omega)).1 hF9 hcase⟩) rfl (by rw [show ((j + 1 : Nat) : Int) = (j : Int) + 1 by omega]; exact ⟨Or.inl rfl, Or.inl rfl, Or.inl rfl, Or.inl rfl, Or.inl rfl, Or.inr rfl, Or.inl rfl, trivial⟩)
        exact LJ lp s (by omega) ⟨Nat.le_refl _, hFs, nn, kf, nmv, hT, hL.pr (fun x y hx hy => by unfold PRb mtB; rw [hrp, hlp, hup, hdp]; omega), by rw [hup, hrp, hlp] at hnn ⊢; omega⟩
  refine LI up w15 (by omega) ⟨Nat.le_refl _, hF2, 0, (fun _ => 0), (fun _ _ => 0), hT0 _, ⟨fun x y hx hy hpr => ?_, fun q9 _ => hF1.iv (fun hh => by unfold fkS at hh; omega) (hF00.iv (fun hh => by omega) rfl), fun m m1 m2 => by omega, ?_⟩, Nat.zero_le _⟩
  · exfalso
    have h9 := hpr.1.1.1
    have h8 := hpr.2
    rw [hup] at h9
    omega
  · have e5 : mu_iv w15 a 5 = (if ((sqm l r u d 2) < 256 / 2 ^ 2 * (256 / 2 ^ 2)) then mI 1 else mI 0) := hF1.iv (fun hh => by unfold fkS at hh; omega) hes
    rw [e5]
    by_cases q9 : ((sqm l r u d 2) < 256 / 2 ^ 2 * (256 / 2 ^ 2))
    · rw [if_pos q9]; exact Or.inl ⟨rfl, Or.inl q9⟩
    · rw [if_neg q9]
      refine Or.inr ⟨rfl, fun h9 => ?_⟩
      rcases h9 with h9 | ⟨x, y, b1, b2, b3, b4⟩
      · exact q9 h9
      · have h7 := b3.1.1.1
        have h8 := b3.2
        rw [hup] at h7
        omega

set_option maxHeartbeats 4000000 in
set_option maxRecDepth 100000 in
theorem c_X8_differentOfSideS (G : mu_G) {w : mu_W} {a : Nat} (ho : CQo w a) {f : Nat} (hof : CFo w f) {c : Nat → Nat → Nat} (hbf : CFb w f c) {l r u d : Nat} (hb : BXn w f l r u d) (hbx : BXc c l r u d) {q : Nat} (hq2 : 2 ≤ q) (hq7 : q ≤ 7) {nm : Nat → Nat → Nat} (hNM : NMp c q (256 / 2 ^ q) nm) (hNw : NMw w a l r u d q (256 / 2 ^ q) nm) : mu_Ct G M_X8_differentOfSide [.ref a, .ref f, .int (mI (((q + 1) : Nat) : Int))] w (dos_post w a c l r u d (q + 1)) := by
  obtain ⟨ka, ⟨r0, k1⟩, ⟨r1, k2⟩, ⟨r2, k3⟩⟩ := id ho
  obtain ⟨kf0, rf0, kf1, rf1, kf2⟩ := id hof
  obtain ⟨⟨M, hm⟩, g1, g2, g3, g4⟩ := id hb
  have hn64 := p_64 (q + 1) (by omega) (by omega)
  have h32 := p_32 (q + 1) (by omega) (by omega)
  rw [Nat.add_sub_cancel] at h32
  rw [h32.2] at hNM hNw
  have hKN : KNo c (q + 1) (256 / 2 ^ (q + 1)) (fun i j => kpN nm i j 4) := KNo.step hNM
  have hem : ∀ i j, i < 256 / 2 ^ (q + 1) → j < 256 / 2 ^ (q + 1) → ¬ mtB l r u d (q + 1) i j → EMP c (q + 1) i j := fun i j hi hj h9 => mt_emp hbf.1 hbx (p_fit (by omega) hi) (p_fit (by omega) hj) h9
  have nfe : ∀ e, mu_kd w f = some (1, 0) → (e = a ∨ e = a + 1 ∨ e = a + 2 ∨ e = a + 3) → f ≠ e := fun e h8 h9 h7 => by
    rcases h9 with h9 | h9 | h9 | h9
    · rw [h7, h9, ka] at h8; cases h8
    · rw [h7, h9, k1] at h8; cases h8
    · rw [h7, h9, k2] at h8; cases h8
    · rw [h7, h9, k3] at h8; cases h8
  have nff : ∀ j, 5 ≤ j → j ≤ 9 → ¬ dqS a f j := fun j _ _ hh => by
    rcases hh with hh | hh
    · exact nfe a kf0 (Or.inl rfl) hh.1
    · exact nfe f kf0 (by omega) rfl
  have nfb : ∀ j, ¬ dqS a (f + 1) j := fun j hh => by
    have h8 := kf1
    rcases (show f + 1 = a ∨ f + 1 = a + 1 ∨ f + 1 = a + 2 ∨ f + 1 = a + 3 by unfold dqS at hh; omega) with h9 | h9 | h9 | h9
    · rw [h9, ka] at h8; cases h8
    · rw [h9, k1] at h8; cases h8
    · rw [h9, k2] at h8; cases h8
    · rw [h9, k3] at h8; cases h8
  have a1 := p_lt (p := (q + 1)) (by omega) g2
  have a2 := p_lt (p := (q + 1)) (by omega) g4
  have a3 := Nat.div_le_div_right (c := 2 ^ (q + 1)) g1
  have a4 := Nat.div_le_div_right (c := 2 ^ (q + 1)) g3
  have hs1 : 1 ≤ (sqm l r u d (q + 1)) := Nat.mul_pos (Nat.succ_pos _) (Nat.succ_pos _)
  obtain ⟨rp, hrp⟩ : ∃ x, r / 2 ^ (q + 1) = x := ⟨_, rfl⟩
  obtain ⟨lp, hlp⟩ : ∃ x, l / 2 ^ (q + 1) = x := ⟨_, rfl⟩
  obtain ⟨dp, hdp⟩ : ∃ x, d / 2 ^ (q + 1) = x := ⟨_, rfl⟩
  obtain ⟨up, hup⟩ : ∃ x, u / 2 ^ (q + 1) = x := ⟨_, rfl⟩
  rw [hrp] at a1 a3
  rw [hlp] at a3
  rw [hdp] at a2 a4
  rw [hup] at a4
  have hs2 : (sqm l r u d (q + 1)) ≤ 4096 := by
    unfold sqm
    rw [hrp, hlp, hdp, hup]
    exact Nat.mul_le_mul (show rp - lp + 1 ≤ 64 by omega) (show dp - up + 1 ≤ 64 by omega)
  refine mu_ofWA G M_X8_differentOfSide [.ref a, .ref f, .int (mI (((q + 1) : Nat) : Int)), mu_no, mu_no, mu_no, mu_no] (by decide) rfl (Nat.le_of_ble_eq_true rfl) ?_
  intro X E
  have B : mu_B X G cX8_differentOfSide RX8 7 (mu_rm M_X8_differentOfSide) := E.1
  show mu_WA X G 7 _ _ 0 0 0 _ []
  refine mu_al_0 B dX8_differentOfSide_0 ?_
  refine mu_al_1 B dX8_differentOfSide_1 ?_
  refine mu_il_2 B dX8_differentOfSide_2 ?_
  refine mu_eS2 B dX8_differentOfSide_3 mX8_49 ⟨⟨by decide, by decide⟩, by decide, by decide⟩ (Nat.le_of_ble_eq_true rfl) (c_X8_leavesEmptyOnes G hof.1 hb (p := (q + 1)) (by omega)) ?_
  refine mu_putZ B dX8_differentOfSide_6 fX8_65 fwX8_5 rfl (by by_cases q9 : ((sqm l r u d (q + 1)) < 256 / 2 ^ (q + 1) * (256 / 2 ^ (q + 1))); (rw [if_pos q9]; exact Or.inr rfl); (rw [if_neg q9]; exact Or.inl rfl)) (by assumption) ?_
  have hF0 : mu_Fi (dqS a) w (mu_si w a 5 (if ((sqm l r u d (q + 1)) < 256 / 2 ^ (q + 1) * (256 / 2 ^ (q + 1))) then mI 1 else mI 0)) := (mu_Fi.refl _).si (Or.inl ⟨rfl, by decide, by decide⟩)
  have hes : mu_iv (mu_si w a 5 (if ((sqm l r u d (q + 1)) < 256 / 2 ^ (q + 1) * (256 / 2 ^ (q + 1))) then mI 1 else mI 0)) a 5 = (if ((sqm l r u d (q + 1)) < 256 / 2 ^ (q + 1) * (256 / 2 ^ (q + 1))) then mI 1 else mI 0) := mu_iv_same _ _ _ _
  have hF00 : mu_Fi (fun q j => q = a ∧ j = 5) w (mu_si w a 5 (if ((sqm l r u d (q + 1)) < 256 / 2 ^ (q + 1) * (256 / 2 ^ (q + 1))) then mI 1 else mI 0)) := (mu_Fi.refl _).si ⟨rfl, rfl⟩
  generalize mu_si w a 5 (if ((sqm l r u d (q + 1)) < 256 / 2 ^ (q + 1) * (256 / 2 ^ (q + 1))) then mI 1 else mI 0) = w1 at hF0 hes hF00 ⊢
  refine mu_al_0 B dX8_differentOfSide_9 ?_
  refine mu_al_1 B dX8_differentOfSide_10 ?_
  refine mu_il_2 B dX8_differentOfSide_11 ?_
  refine mu_eS2 B dX8_differentOfSide_12 mX8_46 ⟨⟨by decide, by decide⟩, by decide, by decide⟩ (Nat.le_of_ble_eq_true rfl) (c_X8_squaresMet G (hF0.kd hof.1) (hb.fi hF0 nff) (p := (q + 1)) (by omega)) ?_
  refine mu_cV1 B dX8_differentOfSide_15 mX8_69 ⟨⟨by decide, by decide⟩, by decide, by decide⟩ (Nat.le_of_ble_eq_true rfl) (hF0.kd ka) (c_X8_forgetKeys G (ho.fi hF0) (q := (sqm l r u d (q + 1))) hs1 hs2) (fun r15 w15 q15 => ?_)
  obtain ⟨rfl, hF1, e, he, hqe, hT0⟩ := q15
  have hF2 := hF0.trans (hF1.mono (fun q j hh => by unfold fkS at hh; unfold dqS; omega))
  have hm2 : CFm w15 f l r u d M := hm.fi hF2 nff
  refine mu_al_1 B dX8_differentOfSide_18 ?_
  refine mu_getIN B dX8_differentOfSide_19 fX8_43 rfl (hF2.kd kf0) ?_
  rw [hm2.2.2.1]
  refine mu_il_2 B dX8_differentOfSide_22 ?_
  refine mu_ishr B dX8_differentOfSide_23 ?_
  rw [mI_shN (by omega) (by omega), hup]
  refine mu_is_3 B dX8_differentOfSide_24 (by decide) rfl ?_
  have LI : ∀ i (s : mu_W), i ≤ dp + 1 → (up ≤ i ∧ DOI w s a l r u d (q + 1) (fun i j => kpN nm i j 4) e i 0) → mu_WA X G 7 (mu_Q X G M_X8_differentOfSide (dos_post w a c l r u d (q + 1))) s 0 0 25 [.ref a, .ref f, .int (mI (((q + 1) : Nat) : Int)), .int (mI i), mu_no, mu_no, mu_no] [] := by
    refine mu_ind (dp + 1) (fun i (s : mu_W) => mu_WA X G 7 (mu_Q X G M_X8_differentOfSide (dos_post w a c l r u d (q + 1))) s 0 0 25 [.ref a, .ref f, .int (mI (((q + 1) : Nat) : Int)), .int (mI i), mu_no, mu_no, mu_no] []) (fun i (s : mu_W) => up ≤ i ∧ DOI w s a l r u d (q + 1) (fun i j => kpN nm i j 4) e i 0) ?_
    intro i s hi ⟨hui, hFs, nn, kf, nmv, hT, hL, hnn⟩ ih
    have hms : CFm s f l r u d M := hm.fi hFs nff
    refine mu_il_3 B dX8_differentOfSide_25 ?_
    refine mu_al_1 B dX8_differentOfSide_26 ?_
    refine mu_getIN B dX8_differentOfSide_27 fX8_40 rfl (hFs.kd kf0) ?_
    rw [hms.2.2.2.2]
    refine mu_il_2 B dX8_differentOfSide_30 ?_
    refine mu_ishr B dX8_differentOfSide_31 ?_
    rw [mI_shN (by omega) (by omega), hdp]
    refine mu_icmp_gt (tgt := 125) B dX8_differentOfSide_32 (by decide) (fun c32 => ?_) (fun c32 => ?_)
    · try rw [mI_lt ⟨by omega, by omega⟩ ⟨by omega, by omega⟩] at c32
      try rw [mI_lt ⟨by omega, by omega⟩ ⟨by omega, by omega⟩] at c32
      obtain rfl : dp + 1 = i := by omega
      have hL9 := hL.pr (Pr' := mtB l r u d (q + 1)) (fun x y hx hy => by
        unfold PRb mtB
        rw [hrp, hlp, hup, hdp]
        omega)
      have hnb : nn ≤ 4096 := by
        have h7 : (sqm l r u d (q + 1)) = (dp - up + 1) * (rp - lp + 1) := by unfold sqm; rw [hrp, hlp, hup, hdp, Nat.mul_comm]
        rw [hup, hrp, hlp, show dp + 1 - up = dp - up + 1 by omega] at hnn
        omega
      obtain ⟨d1, d2, es, d3, d4, d5⟩ := LVI.done (c := c) hn64 hKN hem hT hL9 (lv_iff (by omega) g1 g2 g3 g4) hnb
      refine mu_al_0 B dX8_differentOfSide_125 ?_
      refine mu_getI B dX8_differentOfSide_126 fX8_85 rfl (hFs.kd ka) ?_
      rw [hT.2.1]
      refine mu_al_0 B dX8_differentOfSide_129 ?_
      refine mu_getI B dX8_differentOfSide_130 fX8_65 rfl (hFs.kd ka) ?_
      rw [d3]
      refine mu_if_eq (tgt := 140) B dX8_differentOfSide_133 (by decide) (fun c133 => ?_) (fun c133 => ?_)
      · try rw [mI_eq0 ⟨by omega, by omega⟩] at c133
        refine mu_iconst (v := mI 0) B dX8_differentOfSide_140 rfl ?_
        refine mu_iadd B dX8_differentOfSide_141 ?_
        try rw [mI_add]
        refine mu_iret E rfl (by decide) (by decide) dX8_differentOfSide_142 ?_
        first
          | (have e9 : es = 1 := by omega
             subst e9
             exact ⟨hFs, nn + 1, _, rfl, by omega, d5, d1, d2⟩)
          | (have e9 : es = 0 := by omega
             subst e9
             exact ⟨hFs, nn + 0, _, rfl, by omega, d5, d1, d2⟩)
      · try rw [mI_eq0 ⟨by omega, by omega⟩] at c133
        refine mu_iconst (v := mI 1) B dX8_differentOfSide_136 rfl ?_
        refine mu_goto (tgt := 141) B dX8_differentOfSide_137 (by decide) ?_
        refine mu_iadd B dX8_differentOfSide_141 ?_
        try rw [mI_add]
        refine mu_iret E rfl (by decide) (by decide) dX8_differentOfSide_142 ?_
        first
          | (have e9 : es = 1 := by omega
             subst e9
             exact ⟨hFs, nn + 1, _, rfl, by omega, d5, d1, d2⟩)
          | (have e9 : es = 0 := by omega
             subst e9
             exact ⟨hFs, nn + 0, _, rfl, by omega, d5, d1, d2⟩)
    · try rw [mI_lt ⟨by omega, by omega⟩ ⟨by omega, by omega⟩] at c32
      refine mu_il_3 B dX8_differentOfSide_35 ?_
      refine mu_bipush (v := mI 64) B dX8_differentOfSide_36 (by decide) ?_
      refine mu_icmp_ge (tgt := 125) B dX8_differentOfSide_38 (by decide) (fun c38 => ?_) (fun c38 => ?_)
      · try rw [mI_le ⟨by omega, by omega⟩ ⟨by omega, by omega⟩] at c38
        exfalso
        omega
      · try rw [mI_le ⟨by omega, by omega⟩ ⟨by omega, by omega⟩] at c38
        refine mu_al_1 B dX8_differentOfSide_41 ?_
        refine mu_getIN B dX8_differentOfSide_42 fX8_37 rfl (hFs.kd kf0) ?_
        rw [hms.2.1]
        refine mu_il_2 B dX8_differentOfSide_45 ?_
        refine mu_ishr B dX8_differentOfSide_46 ?_
        rw [mI_shN (by omega) (by omega), hlp]
        refine mu_is_4 B dX8_differentOfSide_47 (by decide) rfl ?_
        have LJ : ∀ j (t : mu_W), j ≤ rp + 1 → (lp ≤ j ∧ DOI w t a l r u d (q + 1) (fun i j => kpN nm i j 4) e i j) → mu_WA X G 7 (mu_Q X G M_X8_differentOfSide (dos_post w a c l r u d (q + 1))) t 0 0 49 [.ref a, .ref f, .int (mI (((q + 1) : Nat) : Int)), .int (mI i), .int (mI j), mu_no, mu_no] [] := by
          refine mu_ind (rp + 1) (fun j (t : mu_W) => mu_WA X G 7 (mu_Q X G M_X8_differentOfSide (dos_post w a c l r u d (q + 1))) t 0 0 49 [.ref a, .ref f, .int (mI (((q + 1) : Nat) : Int)), .int (mI i), .int (mI j), mu_no, mu_no] []) (fun j (t : mu_W) => lp ≤ j ∧ DOI w t a l r u d (q + 1) (fun i j => kpN nm i j 4) e i j) ?_
          intro j t hj ⟨hlj, hFt, nn, kf, nmv, hT, hL, hnn⟩ ihj
          have hot := ho.fi hFt
          have hbt := hb.fi hFt nff
          have hmt : CFm t f l r u d M := hm.fi hFt nff
          refine mu_il_4 B dX8_differentOfSide_49 ?_
          refine mu_al_1 B dX8_differentOfSide_51 ?_
          refine mu_getIN B dX8_differentOfSide_52 fX8_34 rfl (hFt.kd kf0) ?_
          rw [hmt.2.2.2.1]
          refine mu_il_2 B dX8_differentOfSide_55 ?_
          refine mu_ishr B dX8_differentOfSide_56 ?_
          rw [mI_shN (by omega) (by omega), hrp]
          refine mu_icmp_gt (tgt := 119) B dX8_differentOfSide_57 (by decide) (fun c57 => ?_) (fun c57 => ?_)
          · try rw [mI_lt ⟨by omega, by omega⟩ ⟨by omega, by omega⟩] at c57
            try rw [mI_lt ⟨by omega, by omega⟩ ⟨by omega, by omega⟩] at c57
            obtain rfl : rp + 1 = j := by omega
            refine mu_inc_3 (c := mI 1) B dX8_differentOfSide_119 rfl (by decide) rfl ?_
            try rw [mI_add]
            refine mu_goto (tgt := 25) B dX8_differentOfSide_122 (by decide) ?_
            refine mu_fg (ih t (by omega) ⟨by omega, hFt, nn, kf, nmv, hT, hL.pr (fun x y hx hy => ?_), ?_⟩) rfl (by rw [show ((i + 1 : Nat) : Int) = (i : Int) + 1 by omega]; exact ⟨Or.inl rfl, Or.inl rfl, Or.inl rfl, Or.inl rfl, Or.inr rfl, Or.inr rfl, Or.inr rfl, trivial⟩)
            · unfold PRb mtB
              rw [hrp, hlp, hup, hdp]
              omega
            · have h9 : (i + 1 - up) * (rp - lp + 1) = (i - up) * (rp - lp + 1) + (rp - lp + 1) := by rw [show i + 1 - up = (i - up) + 1 by omega, Nat.add_mul, Nat.one_mul]
              rw [hup, hrp, hlp] at hnn ⊢
              omega
          · try rw [mI_lt ⟨by omega, by omega⟩ ⟨by omega, by omega⟩] at c57
            refine mu_il_4 B dX8_differentOfSide_60 ?_
            refine mu_bipush (v := mI 64) B dX8_differentOfSide_62 (by decide) ?_
            refine mu_icmp_ge (tgt := 119) B dX8_differentOfSide_64 (by decide) (fun c64 => ?_) (fun c64 => ?_)
            · try rw [mI_le ⟨by omega, by omega⟩ ⟨by omega, by omega⟩] at c64
              exfalso
              omega
            · try rw [mI_le ⟨by omega, by omega⟩ ⟨by omega, by omega⟩] at c64
              have hmij : mtB l r u d (q + 1) i j := by unfold mtB; rw [hrp, hlp, hup, hdp]; omega
              have hnlt : nn < 2 ^ e := by
                have h8 : (i - up + 1) * (rp - lp + 1) ≤ (dp - up + 1) * (rp - lp + 1) := Nat.mul_le_mul_right _ (by omega)
                rw [Nat.add_mul, Nat.one_mul] at h8
                have h7 : (sqm l r u d (q + 1)) = (dp - up + 1) * (rp - lp + 1) := by unfold sqm; rw [hrp, hlp, hup, hdp, Nat.mul_comm]
                rw [hup, hrp, hlp] at hnn
                omega
              refine mu_il_2 B dX8_differentOfSide_67 ?_
              refine mu_iconst (v := mI 2) B dX8_differentOfSide_68 rfl ?_
              refine mu_icmp_ne (tgt := 82) B dX8_differentOfSide_69 (by decide) (fun c69 => ?_) (fun c69 => ?_)
              · try rw [mI_eq ⟨by omega, by omega⟩ ⟨by omega, by omega⟩] at c69
                refine mu_al_0 B dX8_differentOfSide_82 ?_
                refine mu_al_1 B dX8_differentOfSide_83 ?_
                refine mu_il_2 B dX8_differentOfSide_84 ?_
                refine mu_iconst (v := mI 1) B dX8_differentOfSide_85 rfl ?_
                refine mu_isub B dX8_differentOfSide_86 ?_
                try rw [mI_sub]
                try rw [mI_sub]
                rw [show ((q + 1 : Nat) : Int) - 1 = ((q : Nat) : Int) by omega]
                refine mu_il_3 B dX8_differentOfSide_87 ?_
                refine mu_il_4 B dX8_differentOfSide_88 ?_
                have hold : ∀ k, k < 4 → mu_iv t (a + 1) (64 * (2 * i + k / 2) + (2 * j + k % 2)) = mu_iv w (a + 1) (64 * (2 * i + k / 2) + (2 * j + k % 2)) := fun k hk9 => hL.2.1 _ (fun x y hx hy hpr => by have := hpr.2; omega)
                refine mu_eV4 B dX8_differentOfSide_90 mX8_77 ⟨⟨by decide, by decide⟩, by decide, by decide⟩ (Nat.le_of_ble_eq_true rfl) hot.1 (c_X8_keyOfParts G hot (hFt.kd kf0) hbt (p := q) (by omega) (i := i) (j := j) (by omega) (by omega) (nm := nm) (fun k hk9 => (hNM.1 _ _ (by omega) (by omega)).1) (fun k hk9 => ⟨fun h9 => (hold k hk9).trans ((hNw _ _ (by omega) (by omega)).1 h9), fun h9 => (hNw _ _ (by omega) (by omega)).2 h9⟩)) ?_
                refine mu_ls_5 B dX8_differentOfSide_93 (by decide) rfl ?_
                refine mu_al_0 B dX8_differentOfSide_95 ?_
                refine mu_getR B dX8_differentOfSide_96 fX8_9 rfl hot.1 hot.2.1.1 ?_
                refine mu_il_3 B dX8_differentOfSide_99 ?_
                refine mu_bipush (v := mI 64) B dX8_differentOfSide_100 (by decide) ?_
                refine mu_imul B dX8_differentOfSide_102 ?_
                try rw [mI_mul]
                try rw [mI_mul]
                refine mu_il_4 B dX8_differentOfSide_103 ?_
                refine mu_iadd B dX8_differentOfSide_105 ?_
                try rw [mI_add]
                try rw [mI_add]
                rw [show (i : Int) * 64 + (j : Int) = ((64 * i + j : Nat) : Int) by omega]
                refine mu_al_0 B dX8_differentOfSide_106 ?_
                refine mu_ll_5 B dX8_differentOfSide_107 ?_
                refine mu_cV1 B dX8_differentOfSide_109 mX8_81 ⟨⟨by decide, by decide⟩, by decide, by decide⟩ (Nat.le_of_ble_eq_true rfl) hot.1 (c_X8_nameOf G hot he hT hnlt (key := mL (kpN nm i j 4 : Nat))) (fun r109 w109 q109 => ?_)
                obtain ⟨hF9, v, rfl, hcase⟩ := q109
                show mu_WA X G 7 _ w109 0 0 112 _ [.int (mI (v : Nat)), .int (mI ((64 * i + j : Nat) : Int)), .ref (a + 1)]
                refine mu_iast B dX8_differentOfSide_112 (hF9.kd hot.2.1.2) (mI_inN (by omega) (by decide)) ?_
                rw [mI_clampN (by omega)]
                refine mu_inc_4 (c := mI 1) B dX8_differentOfSide_113 rfl (by decide) rfl ?_
                try rw [mI_add]
                refine mu_goto (tgt := 49) B dX8_differentOfSide_116 (by decide) ?_
                exact mu_fg (ihj _ (by omega) ⟨by omega, DOI.step (by omega) (by omega) (by omega) hmij hFt hL hnn (hKN.1 i j (by omega) (by omega)).1 hF9 hcase⟩) rfl (by rw [show ((j + 1 : Nat) : Int) = (j : Int) + 1 by omega]; exact ⟨Or.inl rfl, Or.inl rfl, Or.inl rfl, Or.inl rfl, Or.inl rfl, Or.inr rfl, Or.inl rfl, trivial⟩)
              · try rw [mI_eq ⟨by omega, by omega⟩ ⟨by omega, by omega⟩] at c69
                exfalso
                omega
        exact LJ lp s (by omega) ⟨Nat.le_refl _, hFs, nn, kf, nmv, hT, hL.pr (fun x y hx hy => by unfold PRb mtB; rw [hrp, hlp, hup, hdp]; omega), by rw [hup, hrp, hlp] at hnn ⊢; omega⟩
  refine LI up w15 (by omega) ⟨Nat.le_refl _, hF2, 0, (fun _ => 0), (fun _ _ => 0), hT0 _, ⟨fun x y hx hy hpr => ?_, fun q9 _ => hF1.iv (fun hh => by unfold fkS at hh; omega) (hF00.iv (fun hh => by omega) rfl), fun m m1 m2 => by omega, ?_⟩, Nat.zero_le _⟩
  · exfalso
    have h9 := hpr.1.1.1
    have h8 := hpr.2
    rw [hup] at h9
    omega
  · have e5 : mu_iv w15 a 5 = (if ((sqm l r u d (q + 1)) < 256 / 2 ^ (q + 1) * (256 / 2 ^ (q + 1))) then mI 1 else mI 0) := hF1.iv (fun hh => by unfold fkS at hh; omega) hes
    rw [e5]
    by_cases q9 : ((sqm l r u d (q + 1)) < 256 / 2 ^ (q + 1) * (256 / 2 ^ (q + 1)))
    · rw [if_pos q9]; exact Or.inl ⟨rfl, Or.inl q9⟩
    · rw [if_neg q9]
      refine Or.inr ⟨rfl, fun h9 => ?_⟩
      rcases h9 with h9 | ⟨x, y, b1, b2, b3, b4⟩
      · exact q9 h9
      · have h7 := b3.1.1.1
        have h8 := b3.2
        rw [hup] at h7
        omega
