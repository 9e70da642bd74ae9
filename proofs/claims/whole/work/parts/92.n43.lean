/-! ===== the class's searches: oscillators ===== -/
/-- the chain of patterns -/
def chn (f : Nat → Int) (p : Nat) : Nat → Int
  | 0 => (p : Int)
  | k + 1 => if 0 ≤ chn f p k then f (chn f p k).toNat else -1
def RA (f : Nat → Int) (p n : Nat) : Prop := (∀ j, 1 ≤ j → j < n → 0 ≤ chn f p j ∧ chn f p j ≠ p) ∧ chn f p n = p
def NXr (w : mu_W) (a m : Nat) (f : Nat → Int) : Prop := ∀ x, x < m → mu_iv w (a + 6) x = mI (f x)
noncomputable def nxF (r : mu_RS) (R C x : Nat) : Int := @ite _ (okP (rs_bo r) (rs_st r) ((R + 2) * (C + 2)) (lyc R C (rs_nb r) 3) (R * C) x) (Classical.propDecidable _) ((nwr (rs_bo r) (rs_st r) (lyc R C (rs_nb r) 3) x ((R + 2) * (C + 2)) : Nat) : Int) (-1)
theorem nxF_1 {r : mu_RS} {R C x : Nat} (h : okP (rs_bo r) (rs_st r) ((R + 2) * (C + 2)) (lyc R C (rs_nb r) 3) (R * C) x) : nxF r R C x = ((nwr (rs_bo r) (rs_st r) (lyc R C (rs_nb r) 3) x ((R + 2) * (C + 2)) : Nat) : Int) := by unfold nxF; rw [if_pos h]
theorem nxF_0 {r : mu_RS} {R C x : Nat} (h : ¬ okP (rs_bo r) (rs_st r) ((R + 2) * (C + 2)) (lyc R C (rs_nb r) 3) (R * C) x) : nxF r R C x = -1 := by unfold nxF; rw [if_neg h]
theorem nxF_bd (r : mu_RS) (R C x : Nat) : -1 ≤ nxF r R C x ∧ nxF r R C x < ((2 ^ (R * C) : Nat) : Int) := by
  have hp := Nat.two_pow_pos (R * C)
  by_cases h : okP (rs_bo r) (rs_st r) ((R + 2) * (C + 2)) (lyc R C (rs_nb r) 3) (R * C) x
  · rw [nxF_1 h]
    have := nwr_lt (bo := rs_bo r) (st := rs_st r) (c := lyc R C (rs_nb r) 3) (p := x) (n := R * C) (Kc := (R + 2) * (C + 2)) (fun k _ => by rw [ly_o]; exact bitN_2) _ (Nat.le_refl _)
    omega
  · rw [nxF_0 h]; omega
theorem pat_lay {R C n : Nat} {c : Nat → Nat → Nat} (hc : ∀ x y, c x y ≤ 1) (h0 : ∀ x y, ¬ (x < C + 4 ∧ y < R + 4) → c x y = 0) (h : PAT (C + 4) (R + 4) 2 c (n : Int)) : c = sp_lay R C n := by
  rcases h with ⟨e, _⟩ | ⟨m, e, g1, g2, g3⟩
  · omega
  · have e2 : m = n := by omega
    subst e2
    funext x y
    have h1 := hc x y
    unfold sp_lay
    by_cases q : 2 ≤ x ∧ x < C + 2 ∧ 2 ≤ y ∧ y < R + 2
    · rw [if_pos q]
      have g4 := g3 (y - 2) (x - 2) (by omega) (by omega)
      rw [show C + 4 - 2 * 2 = C by omega, show x - 2 + 2 = x by omega, show y - 2 + 2 = y by omega, Nat.testBit_eq_decide_div_mod_eq, decide_eq_true_eq] at g4
      omega
    · rw [if_neg q]
      by_cases q2 : x < C + 4 ∧ y < R + 4
      · by_cases q3 : c x y = 1
        · have := g2 x y q2.1 q2.2 q3
          unfold pt_in at this
          omega
        · omega
      · exact h0 x y q2
theorem nx_out (r : mu_RS) (R C p : Nat) (x y : Nat) (h : ¬ (x < C + 4 ∧ y < R + 4)) : sp_nx r R C p x y = 0 := by unfold sp_nx sp_ss; rw [if_neg h]
section OSC
variable {r : mu_RS} {R C p : Nat}
theorem ch_pat (hnb : rs_nb r = 4 ∨ rs_nb r = 6 ∨ rs_nb r = 8) (hbo : rs_bo r % 2 = 0) (h : R * C ≤ 16) (x : Nat) : PAT (C + 4) (R + 4) 2 (sp_nx r R C x) (nxF r R C x) := by
  by_cases q : okP (rs_bo r) (rs_st r) ((R + 2) * (C + 2)) (lyc R C (rs_nb r) 3) (R * C) x
  · rw [nxF_1 q]
    exact nwr_pat hnb h ((in_iff hnb hbo h x).mp q)
  · rw [nxF_0 q]
    refine Or.inl ⟨rfl, ?_⟩
    refine Classical.byContradiction (fun g => q ((in_iff hnb hbo h x).mpr (fun a b h1 h2 h3 => Classical.byContradiction (fun h4 => g ⟨a, b, h1, h2, h3, h4⟩))))
theorem os_lay (hnb : rs_nb r = 4 ∨ rs_nb r = 6 ∨ rs_nb r = 8) (hbo : rs_bo r % 2 = 0) (h : R * C ≤ 16) (k : Nat) (hk : ∀ j, j ≤ k → 0 ≤ chn (nxF r R C) p j) : os_c r R C p k = sp_lay R C (chn (nxF r R C) p k).toNat := by
  induction k with
  | zero => rw [os_c, chn, Int.toNat_natCast]
  | succ k ih =>
    have h1 := ih (fun j hj => hk j (by omega))
    have h2 := hk k (by omega)
    have h3 := hk (k + 1) (Nat.le_refl _)
    rw [os_c, h1]
    have e : chn (nxF r R C) p (k + 1) = nxF r R C (chn (nxF r R C) p k).toNat := by rw [chn, if_pos h2]
    have hp := ch_pat hnb hbo h (chn (nxF r R C) p k).toNat
    rw [← e] at hp
    obtain ⟨n, hn⟩ : ∃ n : Nat, chn (nxF r R C) p (k + 1) = n := ⟨(chn (nxF r R C) p (k + 1)).toNat, by omega⟩
    rw [hn] at hp ⊢
    rw [Int.toNat_natCast]
    exact pat_lay (nx_le r R C _) (nx_out r R C _) hp
theorem os_step (hnb : rs_nb r = 4 ∨ rs_nb r = 6 ∨ rs_nb r = 8) (hbo : rs_bo r % 2 = 0) (h : R * C ≤ 16) (k : Nat) (hk : ∀ j, j ≤ k → 0 ≤ chn (nxF r R C) p j) : PAT (C + 4) (R + 4) 2 (os_c r R C p (k + 1)) (chn (nxF r R C) p (k + 1)) := by
  rw [os_c, os_lay hnb hbo h k hk, chn, if_pos (hk k (Nat.le_refl _))]
  exact ch_pat hnb hbo h _
theorem os_iff (hnb : rs_nb r = 4 ∨ rs_nb r = 6 ∨ rs_nb r = 8) (hbo : rs_bo r % 2 = 0) (h : R * C ≤ 16) (hp : p < 2 ^ (R * C)) {n : Nat} (hn : 1 ≤ n) : RA (nxF r R C) p n ↔ os_P r R C n p := by
  constructor
  · rintro ⟨h1, h2⟩
    have hall : ∀ j, j < n → 0 ≤ chn (nxF r R C) p j := fun j hj => by
      by_cases e : j = 0
      · rw [e, chn]; omega
      · exact (h1 j (by omega) hj).1
    refine ⟨hp, fun k a1 a2 => ?_, ?_⟩
    · have := os_step hnb hbo h (k - 1) (fun j hj => hall j (by omega))
      rw [show k - 1 + 1 = k by omega] at this
      exact ⟨_, this, (h1 k a1 a2).1, (h1 k a1 a2).2⟩
    · have := os_step hnb hbo h (n - 1) (fun j hj => hall j (by omega))
      rw [show n - 1 + 1 = n by omega, h2] at this
      exact this
  · rintro ⟨_, h1, h2⟩
    have hall : ∀ k, k < n → ∀ j, j ≤ k → 0 ≤ chn (nxF r R C) p j ∧ (1 ≤ j → chn (nxF r R C) p j ≠ p) := by
      intro k
      induction k with
      | zero => intro _ j hj; rw [show j = 0 by omega, chn]; exact ⟨by omega, fun q => by omega⟩
      | succ k ih =>
        intro hk j hj
        have ih2 := ih (by omega)
        by_cases e : j = k + 1
        · have h3 := os_step hnb hbo h k (fun j hj => (ih2 j hj).1)
          obtain ⟨q, q1, q2, q3⟩ := h1 (k + 1) (by omega) hk
          rw [e, h3.uniq q1]
          exact ⟨q2, fun _ => q3⟩
        · exact ih2 j (by omega)
    refine ⟨fun j a1 a2 => ⟨(hall j a2 j (Nat.le_refl _)).1, (hall j a2 j (Nat.le_refl _)).2 a1⟩, ?_⟩
    have h3 := os_step hnb hbo h (n - 1) (fun j hj => (hall (n - 1) (by omega) j hj).1)
    rw [show n - 1 + 1 = n by omega] at h3
    exact h3.uniq h2
end OSC

set_option maxHeartbeats 4000000 in
set_option maxRecDepth 100000 in
theorem c_X7_nextWithin (G : mu_G) {w : mu_W} {a : Nat} (ho : CSo w a) {Kc bits bo st : Nat} {c : mu_CL} (hd : CSd w a Kc bits bo st c) (hcb : CLb Kc bits c) (hbo : bo ≤ 1000000) (hst : st ≤ 1000000) {p : Nat} (hp : p < 65536) : mu_Ct G M_X7_nextWithin [.ref a, .int (mI p)] w (fun r w' => r = some (.int (mI ((nwr bo st c p Kc : Nat) : Int))) ∧ w' = w) := by
  obtain ⟨ka, ⟨r0, k1⟩, ⟨r1, k2⟩, ⟨r2, k3⟩, ⟨r4, k4⟩, ⟨r5, k5⟩, ⟨r9, k6⟩, ⟨r10, k7⟩⟩ := id ho
  have hcb1 := hcb.1
  refine mu_ofWA G M_X7_nextWithin [.ref a, .int (mI p), mu_no, mu_no] (by decide) rfl (Nat.le_of_ble_eq_true rfl) ?_
  intro X E
  have B : mu_B X G cX7_nextWithin RX7 4 (mu_rm M_X7_nextWithin) := E.1
  have LW9 : ∀ k (uu : Unit), k ≤ Kc → (True) → mu_WA X G 4 (mu_Q X G M_X7_nextWithin (fun r w' => r = some (.int (mI ((nwr bo st c p Kc : Nat) : Int))) ∧ w' = w)) w 0 0 4 [.ref a, .int (mI p), .int (mI ((nwr bo st c p k : Nat) : Int)), .int (mI k)] [] := by
    refine mu_ind (Kc) (fun k (uu : Unit) => mu_WA X G 4 (mu_Q X G M_X7_nextWithin (fun r w' => r = some (.int (mI ((nwr bo st c p Kc : Nat) : Int))) ∧ w' = w)) w 0 0 4 [.ref a, .int (mI p), .int (mI ((nwr bo st c p k : Nat) : Int)), .int (mI k)] []) (fun k (uu : Unit) => True) ?_
    intro k uu hk _ ih
    have hnw := nwr_lt (bo := bo) (st := st) (c := c) (p := p) (n := 16) (Kc := Kc) (fun q hq => (hcb.2.2 q hq).1) k hk
    refine mu_il_3 B dX7_nextWithin_4 ?_
    refine mu_al_0 B dX7_nextWithin_5 ?_
    refine mu_getI B dX7_nextWithin_6 fX7_50 rfl (by assumption) ?_
    rw [hd.1]
    refine mu_icmp_ge (tgt := 34) B dX7_nextWithin_9 (by decide) (fun c9 => ?_) (fun c9 => ?_)
    · try rw [mI_le ⟨by omega, by omega⟩ ⟨by omega, by omega⟩] at c9
      try rw [mI_le ⟨by omega, by omega⟩ ⟨by omega, by omega⟩] at c9
      obtain rfl : Kc = k := by omega
      refine mu_il_2 B dX7_nextWithin_34 ?_
      refine mu_iret E rfl (by decide) (by decide) dX7_nextWithin_35 ?_
      exact ⟨rfl, rfl⟩
    · try rw [mI_le ⟨by omega, by omega⟩ ⟨by omega, by omega⟩] at c9
      have hck := hcb.2.2 k (by omega)
      have hnl := nxc_le bo st (cl_o c k) (cl_n c k) p
      have hml := Nat.mul_le_mul_right (cl_o c k) hnl
      refine mu_il_2 B dX7_nextWithin_12 ?_
      refine mu_al_0 B dX7_nextWithin_13 ?_
      refine mu_il_3 B dX7_nextWithin_14 ?_
      refine mu_il_1 B dX7_nextWithin_15 ?_
      refine mu_eV2 B dX7_nextWithin_16 mX7_115 ⟨⟨by decide, by decide⟩, by decide, by decide⟩ (Nat.le_of_ble_eq_true rfl) (by assumption) (c_X7_nextOf G ho hd hcb hbo hst (k := k) (p := p) (by omega) hp) ?_
      refine mu_al_0 B dX7_nextWithin_19 ?_
      refine mu_getR B dX7_nextWithin_20 fX7_11 rfl (by assumption) (by assumption) ?_
      refine mu_il_3 B dX7_nextWithin_23 ?_
      refine mu_iald B dX7_nextWithin_24 (by assumption) (mI_inN (by omega) (by decide)) ?_
      rw [mI_clampN (by omega), (hd.2.2.2.2 k (by omega)).1]
      refine mu_imul B dX7_nextWithin_25 ?_
      try rw [mI_mul]
      try rw [mI_mul]
      rw [show ((nxc bo st (cl_o c k) (cl_n c k) p : Nat) : Int) * ((cl_o c k : Nat) : Int) = ((nxc bo st (cl_o c k) (cl_n c k) p * cl_o c k : Nat) : Int) from (Int.natCast_mul _ _).symm]
      refine mu_ior B dX7_nextWithin_26 ?_
      rw [mI_or (by omega) (by omega)]
      refine mu_is_2 B dX7_nextWithin_27 (by decide) rfl ?_
      refine mu_inc_3 (c := mI 1) B dX7_nextWithin_28 rfl (by decide) rfl ?_
      try rw [mI_add]
      refine mu_goto (tgt := 4) B dX7_nextWithin_31 (by decide) ?_
      exact mu_to (ih () (by omega) trivial) rfl (by rw [show ((k + 1 : Nat) : Int) = (k : Int) + 1 by omega]; rfl)
  show mu_WA X G 4 _ _ 0 0 0 _ []
  refine mu_iconst (v := mI 0) B dX7_nextWithin_0 rfl ?_
  refine mu_is_2 B dX7_nextWithin_1 (by decide) rfl ?_
  refine mu_iconst (v := mI 0) B dX7_nextWithin_2 rfl ?_
  refine mu_is_3 B dX7_nextWithin_3 (by decide) rfl ?_
  exact LW9 0 () (Nat.zero_le _) trivial

set_option maxHeartbeats 4000000 in
set_option maxRecDepth 100000 in
theorem c_X7_returnsAfter (G : mu_G) {w : mu_W} {a : Nat} (ho : CSo w a) {m : Nat} {f : Nat → Int} (hf : NXr w a m f) (hm : m ≤ 4096) (hfb : ∀ x, -1 ≤ f x ∧ f x < m) {p n : Nat} (hp : p < m) (hn : 1 ≤ n ∧ n ≤ 1000) : mu_Ct G M_X7_returnsAfter [.ref a, .int (mI p), .int (mI n)] w (fun r w' => ((RA f p n → r = some (.int (mI 1))) ∧ (¬ RA f p n → r = some (.int (mI 0)))) ∧ w' = w) := by
  obtain ⟨ka, ⟨r0, k1⟩, ⟨r1, k2⟩, ⟨r2, k3⟩, ⟨r4, k4⟩, ⟨r5, k5⟩, ⟨r9, k6⟩, ⟨r10, k7⟩⟩ := id ho
  refine mu_ofWA G M_X7_returnsAfter [.ref a, .int (mI p), .int (mI n), mu_no, mu_no] (by decide) rfl (Nat.le_of_ble_eq_true rfl) ?_
  intro X E
  have B : mu_B X G cX7_returnsAfter RX7 5 (mu_rm M_X7_returnsAfter) := E.1
  have LR : ∀ k (uu : Unit), k ≤ n → (0 ≤ chn f p k ∧ ∀ j, 1 ≤ j → j ≤ k → 0 ≤ chn f p j ∧ chn f p j ≠ p) → mu_WA X G 5 (mu_Q X G M_X7_returnsAfter (fun r w' => ((RA f p n → r = some (.int (mI 1))) ∧ (¬ RA f p n → r = some (.int (mI 0)))) ∧ w' = w)) w 0 0 5 [.ref a, .int (mI p), .int (mI n), .int (mI (chn f p k)), .int (mI ((k : Int) + 1))] [] := by
    refine mu_ind (n) (fun k (uu : Unit) => mu_WA X G 5 (mu_Q X G M_X7_returnsAfter (fun r w' => ((RA f p n → r = some (.int (mI 1))) ∧ (¬ RA f p n → r = some (.int (mI 0)))) ∧ w' = w)) w 0 0 5 [.ref a, .int (mI p), .int (mI n), .int (mI (chn f p k)), .int (mI ((k : Int) + 1))] []) (fun k (uu : Unit) => 0 ≤ chn f p k ∧ ∀ j, 1 ≤ j → j ≤ k → 0 ≤ chn f p j ∧ chn f p j ≠ p) ?_
    intro k uu hk ⟨h0, hall⟩ ih
    have hcb : chn f p k < m := by
      cases k with
      | zero => rw [chn]; omega
      | succ k => rw [chn] at h0 ⊢; by_cases q : 0 ≤ chn f p k; (rw [if_pos q]; exact (hfb _).2); (rw [if_neg q] at h0; omega)
    refine mu_il_4 B dX7_returnsAfter_5 ?_
    refine mu_il_2 B dX7_returnsAfter_7 ?_
    refine mu_icmp_gt (tgt := 64) B dX7_returnsAfter_8 (by decide) (fun c8 => ?_) (fun c8 => ?_)
    · try rw [mI_lt ⟨by omega, by omega⟩ ⟨by omega, by omega⟩] at c8
      try rw [mI_lt ⟨by omega, by omega⟩ ⟨by omega, by omega⟩] at c8
      refine mu_iconst (v := mI 0) B dX7_returnsAfter_64 rfl ?_
      refine mu_zret E rfl (by decide) (by decide) dX7_returnsAfter_65 (by decide) ?_
      refine ⟨⟨fun q => ?_, fun _ => rfl⟩, rfl⟩
      exfalso
      exact (hall n hn.1 (by omega)).2 q.2
    · try rw [mI_lt ⟨by omega, by omega⟩ ⟨by omega, by omega⟩] at c8
      refine mu_il_3 B dX7_returnsAfter_11 ?_
      refine mu_if_lt (tgt := 33) B dX7_returnsAfter_12 (by decide) (fun c12 => ?_) (fun c12 => ?_)
      · try rw [mI_lt0 ⟨by omega, by omega⟩] at c12
        exfalso
        omega
      · try rw [mI_lt0 ⟨by omega, by omega⟩] at c12
        refine mu_il_3 B dX7_returnsAfter_15 ?_
        refine mu_al_0 B dX7_returnsAfter_16 ?_
        refine mu_getR B dX7_returnsAfter_17 fX7_27 rfl (by assumption) (by assumption) ?_
        refine mu_len (ka := 0) B dX7_returnsAfter_20 (by assumption) (by decide) ?_
        refine mu_icmp_ge (tgt := 33) B dX7_returnsAfter_21 (by decide) (fun c21 => ?_) (fun c21 => ?_)
        · try rw [mI_le ⟨by omega, by omega⟩ ⟨by omega, by omega⟩] at c21
          exfalso
          omega
        · try rw [mI_le ⟨by omega, by omega⟩ ⟨by omega, by omega⟩] at c21
          refine mu_al_0 B dX7_returnsAfter_24 ?_
          refine mu_getR B dX7_returnsAfter_25 fX7_27 rfl (by assumption) (by assumption) ?_
          refine mu_il_3 B dX7_returnsAfter_28 ?_
          obtain ⟨x, hx⟩ : ∃ x : Nat, chn f p k = x := ⟨(chn f p k).toNat, by omega⟩
          rw [hx]
          refine mu_iald B dX7_returnsAfter_29 (by assumption) (mI_inN (by omega) (by decide)) ?_
          rw [mI_clampN (by omega), hf x (by omega)]
          have hfx := hfb x
          have hch : chn f p (k + 1) = f x := by rw [chn, if_pos (by omega), hx, Int.toNat_natCast]
          rw [← hch] at hfx ⊢
          refine mu_goto (tgt := 34) B dX7_returnsAfter_30 (by decide) ?_
          refine mu_is_3 B dX7_returnsAfter_34 (by decide) rfl ?_
          refine mu_il_3 B dX7_returnsAfter_35 ?_
          refine mu_if_ge (tgt := 41) B dX7_returnsAfter_36 (by decide) (fun c36 => ?_) (fun c36 => ?_)
          · try rw [mI_ge0 ⟨by omega, by omega⟩] at c36
            refine mu_il_3 B dX7_returnsAfter_41 ?_
            refine mu_il_1 B dX7_returnsAfter_42 ?_
            refine mu_icmp_ne (tgt := 58) B dX7_returnsAfter_43 (by decide) (fun c43 => ?_) (fun c43 => ?_)
            · try rw [mI_eq ⟨by omega, by omega⟩ ⟨by omega, by omega⟩] at c43
              refine mu_inc_4 (c := mI 1) B dX7_returnsAfter_58 rfl (by decide) rfl ?_
              try rw [mI_add]
              refine mu_goto (tgt := 5) B dX7_returnsAfter_61 (by decide) ?_
              refine mu_to (ih () (by omega) ⟨by omega, fun j h1 h2 => ?_⟩) rfl (by rw [show ((k + 1 : Nat) : Int) + 1 = ((k : Int) + 1) + 1 by omega])
              by_cases e9 : j = k + 1
              · rw [e9]; exact ⟨by omega, by omega⟩
              · exact hall j h1 (by omega)
            · try rw [mI_eq ⟨by omega, by omega⟩ ⟨by omega, by omega⟩] at c43
              refine mu_il_4 B dX7_returnsAfter_46 ?_
              refine mu_il_2 B dX7_returnsAfter_48 ?_
              refine mu_icmp_ne (tgt := 56) B dX7_returnsAfter_49 (by decide) (fun c49 => ?_) (fun c49 => ?_)
              · try rw [mI_eq ⟨by omega, by omega⟩ ⟨by omega, by omega⟩] at c49
                refine mu_iconst (v := mI 0) B dX7_returnsAfter_56 rfl ?_
                refine mu_zret E rfl (by decide) (by decide) dX7_returnsAfter_57 (by decide) ?_
                first
                  | (refine ⟨⟨fun _ => rfl, fun q => ?_⟩, rfl⟩
                     exfalso
                     refine q ⟨fun j h1 h2 => hall j h1 (by omega), ?_⟩
                     rw [show n = k + 1 by omega]; omega)
                  | (refine ⟨⟨fun q => ?_, fun _ => rfl⟩, rfl⟩
                     exfalso
                     exact (q.1 (k + 1) (by omega) (by omega)).2 (by omega))
              · try rw [mI_eq ⟨by omega, by omega⟩ ⟨by omega, by omega⟩] at c49
                refine mu_iconst (v := mI 1) B dX7_returnsAfter_52 rfl ?_
                refine mu_goto (tgt := 57) B dX7_returnsAfter_53 (by decide) ?_
                refine mu_zret E rfl (by decide) (by decide) dX7_returnsAfter_57 (by decide) ?_
                first
                  | (refine ⟨⟨fun _ => rfl, fun q => ?_⟩, rfl⟩
                     exfalso
                     refine q ⟨fun j h1 h2 => hall j h1 (by omega), ?_⟩
                     rw [show n = k + 1 by omega]; omega)
                  | (refine ⟨⟨fun q => ?_, fun _ => rfl⟩, rfl⟩
                     exfalso
                     exact (q.1 (k + 1) (by omega) (by omega)).2 (by omega))
          · try rw [mI_ge0 ⟨by omega, by omega⟩] at c36
            try rw [mI_ge0 ⟨by omega, by omega⟩] at c36
            refine mu_iconst (v := mI 0) B dX7_returnsAfter_39 rfl ?_
            refine mu_zret E rfl (by decide) (by decide) dX7_returnsAfter_40 (by decide) ?_
            refine ⟨⟨fun q => ?_, fun _ => rfl⟩, rfl⟩
            exfalso
            by_cases e9 : k + 1 < n
            · have := (q.1 (k + 1) (by omega) e9).1; omega
            · have e8 : k + 1 = n := by omega
              have := q.2
              rw [← e8] at this
              omega
  show mu_WA X G 5 _ _ 0 0 0 _ []
  refine mu_il_1 B dX7_returnsAfter_0 ?_
  refine mu_is_3 B dX7_returnsAfter_1 (by decide) rfl ?_
  refine mu_iconst (v := mI 1) B dX7_returnsAfter_2 rfl ?_
  refine mu_is_4 B dX7_returnsAfter_3 (by decide) rfl ?_
  exact LR 0 () (Nat.zero_le _) ⟨by rw [chn]; omega, fun j h1 h2 => by omega⟩
