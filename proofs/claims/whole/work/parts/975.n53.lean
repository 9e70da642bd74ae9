/-! ===== the class's squares: how many different ones ===== -/
theorem dead_diff {c : Nat → Nat → Nat} (h : ∀ i j, i < 256 → j < 256 → c i j = 0) {p : Nat} (hp : p ≤ 8) : DIFF c p 1 := by
  have hn := (p_n p (by omega)).2
  have hE : ∀ i j, i < 256 / 2 ^ p → j < 256 / 2 ^ p → EMP c p i j := fun i j hi hj a b ha hb => by
    have h1 := p_fit hp hi
    have h2 := p_fit hp hj
    exact h _ _ (by omega) (by omega)
  refine ⟨fun _ _ => 0, fun i j _ _ => Nat.zero_lt_one, fun k hk => ⟨0, 0, by omega, by omega, by show 0 = k; omega⟩, fun i j i' j' hi hj hi' hj' => ?_⟩
  exact ⟨fun _ => (hE i j hi hj).eq (hE i' j' hi' hj'), fun _ => rfl⟩
theorem dead_tot {c : Nat → Nat → Nat} (h : ∀ i j, i < 256 → j < 256 → c i j = 0) : ∀ P, P ≤ 8 → DTOT c P P
  | 0, _ => DTOT.zero c
  | P + 1, hP => (dead_tot h P (by omega)).succ (dead_diff h hP)
theorem c_X8_dos (G : mu_G) {w : mu_W} {a : Nat} (ho : CQo w a) {f : Nat} (hof : CFo w f) {c : Nat → Nat → Nat} (hbf : CFb w f c) {l r u d : Nat} (hb : BXn w f l r u d) (hbx : BXc c l r u d) {q : Nat} (h1 : 1 ≤ q) (h7 : q ≤ 7) (hs : q = 1 ∨ (2 ≤ q ∧ ∃ nm, NMp c q (256 / 2 ^ q) nm ∧ NMw w a l r u d q (256 / 2 ^ q) nm)) : mu_Ct G M_X8_differentOfSide [.ref a, .ref f, .int (mI ((q + 1 : Nat) : Int))] w (dos_post w a c l r u d (q + 1)) := by
  rcases hs with rfl | ⟨h2, nm, h3, h4⟩
  · exact c_X8_differentOfSide2 G ho hof hbf hb hbx
  · exact c_X8_differentOfSideS G ho hof hbf hb hbx h2 h7 h3 h4
def dif_post (w : mu_W) (a : Nat) (c : Nat → Nat → Nat) (r9 : Option Value) (w' : mu_W) : Prop := mu_Fi (dqS a) w w' ∧ ∃ S, DTOT c 8 S ∧ r9 = some (.int (mI (S : Nat)))

set_option maxHeartbeats 4000000 in
set_option maxRecDepth 100000 in
theorem c_X8_different (G : mu_G) {w : mu_W} {a : Nat} (ho : CQo w a) {f : Nat} (hof : CFo w f) {c : Nat → Nat → Nat} (hbf : CFb w f c) {L R U D : Int} {M : Nat} (hm : CFm w f L R U D M) (hx : CMx c L R U D M) : mu_Ct G M_X8_different [.ref a, .ref f] w (dif_post w a c) := by
  obtain ⟨ka, ⟨r0, k1⟩, ⟨r1, k2⟩, ⟨r2, k3⟩⟩ := id ho
  obtain ⟨kf0, rf0, kf1, rf1, kf2⟩ := id hof
  obtain ⟨_, _, _, _, _, _, _, _, b9⟩ := hx.bd hbf.1
  have nff : ∀ j, 5 ≤ j → j ≤ 9 → ¬ dqS a f j := fun j _ _ hh => by
    have h8 := kf0
    rcases (show f = a ∨ f = a + 1 ∨ f = a + 2 ∨ f = a + 3 by unfold dqS at hh; omega) with h9 | h9 | h9 | h9
    · rw [h9, ka] at h8; cases h8
    · rw [h9, k1] at h8; cases h8
    · rw [h9, k2] at h8; cases h8
    · rw [h9, k3] at h8; cases h8
  have nfb : ∀ j, ¬ dqS a (f + 1) j := fun j hh => by
    have h8 := kf1
    rcases (show f + 1 = a ∨ f + 1 = a + 1 ∨ f + 1 = a + 2 ∨ f + 1 = a + 3 by unfold dqS at hh; omega) with h9 | h9 | h9 | h9
    · rw [h9, ka] at h8; cases h8
    · rw [h9, k1] at h8; cases h8
    · rw [h9, k2] at h8; cases h8
    · rw [h9, k3] at h8; cases h8
  refine mu_ofWA G M_X8_different [.ref a, .ref f, mu_no, mu_no] (by decide) rfl (Nat.le_of_ble_eq_true rfl) ?_
  intro X E
  have B : mu_B X G cX8_different RX8 4 (mu_rm M_X8_different) := E.1
  show mu_WA X G 4 _ _ 0 0 0 _ []
  refine mu_al_1 B dX8_different_0 ?_
  refine mu_getIN B dX8_different_1 fX8_20 rfl (by assumption) ?_
  rw [hm.1]
  refine mu_if_ne (tgt := 10) B dX8_different_4 (by decide) (fun c4 => ?_) (fun c4 => ?_)
  · try rw [mI_eq0 ⟨by omega, by omega⟩] at c4
    have hM0 : M ≠ 0 := by omega
    have od := hx.box hM0
    obtain ⟨l, hl⟩ : ∃ n : Nat, L = n := ⟨L.toNat, by omega⟩
    obtain ⟨r, hr⟩ : ∃ n : Nat, R = n := ⟨R.toNat, by omega⟩
    obtain ⟨u, hu⟩ : ∃ n : Nat, U = n := ⟨U.toNat, by omega⟩
    obtain ⟨d, hd⟩ : ∃ n : Nat, D = n := ⟨D.toNat, by omega⟩
    subst hl hr hu hd
    have hb : BXn w f l r u d := ⟨⟨M, hm⟩, by omega, by omega, by omega, by omega⟩
    have hbx : BXc c l r u d := fun x y h1 h2 h3 => by have := hx.al h1 h2 h3; omega
    have LL : ∀ q (x : mu_W × Nat), q ≤ (8 : Nat) → (1 ≤ q ∧ mu_Fi (dqS a) w x.1 ∧ DTOT c q x.2 ∧ x.2 ≤ 5000 * q ∧ (q = 1 ∨ (2 ≤ q ∧ ∃ nm, NMp c q (256 / 2 ^ q) nm ∧ NMw x.1 a l r u d q (256 / 2 ^ q) nm))) → mu_WA X G 4 (mu_Q X G M_X8_different (dif_post w a c)) x.1 0 0 17 [.ref a, .ref f, .int (mI (x.2 : Nat)), .int (mI ((q : Int) + 1))] [] := by
      refine mu_ind ((8 : Nat)) (fun q (x : mu_W × Nat) => mu_WA X G 4 (mu_Q X G M_X8_different (dif_post w a c)) x.1 0 0 17 [.ref a, .ref f, .int (mI (x.2 : Nat)), .int (mI ((q : Int) + 1))] []) (fun q (x : mu_W × Nat) => 1 ≤ q ∧ mu_Fi (dqS a) w x.1 ∧ DTOT c q x.2 ∧ x.2 ≤ 5000 * q ∧ (q = 1 ∨ (2 ≤ q ∧ ∃ nm, NMp c q (256 / 2 ^ q) nm ∧ NMw x.1 a l r u d q (256 / 2 ^ q) nm))) ?_
      intro q ⟨s, S⟩ hq ⟨h1q, hFs, hD, hS5, hnm⟩ ih
      dsimp only at hFs hD hS5 hnm ih ⊢
      refine mu_il_3 B dX8_different_17 ?_
      refine mu_bipush (v := mI 8) B dX8_different_18 (by decide) ?_
      refine mu_icmp_gt (tgt := 38) B dX8_different_20 (by decide) (fun c20 => ?_) (fun c20 => ?_)
      · try rw [mI_lt ⟨by omega, by omega⟩ ⟨by omega, by omega⟩] at c20
        try rw [mI_lt ⟨by omega, by omega⟩ ⟨by omega, by omega⟩] at c20
        obtain rfl : 8 = q := by omega
        refine mu_il_2 B dX8_different_38 ?_
        refine mu_iret E rfl (by decide) (by decide) dX8_different_39 ?_
        exact ⟨hFs, S, hD, rfl⟩
      · try rw [mI_lt ⟨by omega, by omega⟩ ⟨by omega, by omega⟩] at c20
        refine mu_il_2 B dX8_different_23 ?_
        refine mu_al_0 B dX8_different_24 ?_
        refine mu_al_1 B dX8_different_25 ?_
        refine mu_il_3 B dX8_different_26 ?_
        rw [show (q : Int) + 1 = ((q + 1 : Nat) : Int) by omega]
        refine mu_cV2 B dX8_different_27 mX8_30 ⟨⟨by decide, by decide⟩, by decide, by decide⟩ (Nat.le_of_ble_eq_true rfl) (hFs.kd ho.1) (c_X8_dos G (ho.fi hFs) (hof.fi hFs) (hbf.fi hFs nfb) (hb.fi hFs nff) hbx h1q (by omega) hnm) (fun r27 w27 q27 => ?_)
        obtain ⟨hF1, D, nm, rfl, hD5, hDD, hN1, hN2⟩ := q27
        show mu_WA X G 4 _ w27 0 0 30 _ [.int (mI (D : Nat)), .int (mI (S : Nat))]
        refine mu_iadd B dX8_different_30 ?_
        try rw [mI_add]
        refine mu_is_2 B dX8_different_31 (by decide) rfl ?_
        refine mu_inc_3 (c := mI 1) B dX8_different_32 rfl (by decide) rfl ?_
        try rw [mI_add]
        refine mu_goto (tgt := 17) B dX8_different_35 (by decide) ?_
        exact mu_to (ih (w27, S + D) (by omega) ⟨by omega, hFs.trans hF1, hD.succ hDD, by show S + D ≤ _; omega, Or.inr ⟨by omega, nm, hN1, hN2⟩⟩) rfl (by dsimp only; rw [show ((S + D : Nat) : Int) = (S : Int) + (D : Int) by omega, show ((q + 1 : Nat) : Int) + 1 = ((q + 1 : Nat) : Int) + 1 from rfl])
    refine mu_al_1 B dX8_different_10 ?_
    refine mu_cS1 B dX8_different_11 mX8_26 ⟨⟨by decide, by decide⟩, by decide, by decide⟩ (Nat.le_of_ble_eq_true rfl) (c_X8_differentPairs G hof hbf hb hbx) (fun r11 w11 q11 => ?_)
    obtain ⟨⟨D1, hD1, hD2, rfl⟩, rfl⟩ := q11
    show mu_WA X G 4 _ _ 0 0 14 _ [.int (mI (D1 : Nat))]
    refine mu_is_2 B dX8_different_14 (by decide) rfl ?_
    refine mu_iconst (v := mI 2) B dX8_different_15 rfl ?_
    refine mu_is_3 B dX8_different_16 (by decide) rfl ?_
    exact mu_to (LL 1 (_, D1) (by decide) ⟨Nat.le_refl _, mu_Fi.refl _, by have h9 := (DTOT.zero c).succ hD1; rw [Nat.zero_add D1] at h9; exact h9, by show D1 ≤ _; omega, Or.inl rfl⟩) rfl rfl
  · try rw [mI_eq0 ⟨by omega, by omega⟩] at c4
    have hM0 : M = 0 := by omega
    refine mu_bipush (v := mI 8) B dX8_different_7 (by decide) ?_
    refine mu_iret E rfl (by decide) (by decide) dX8_different_9 ?_
    subst hM0
    exact ⟨mu_Fi.refl _, 8, dead_tot (fun i j hi hj => hx.M0 hbf.1 hi hj) 8 (by decide), rfl⟩
