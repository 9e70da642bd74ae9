/-! ===== the reference: what is found ===== -/
noncomputable def en_c (P : Nat → Prop) : Nat → Nat
  | 0 => 0
  | n + 1 => en_c P n + @ite _ (P n) (Classical.propDecidable _) 1 0
theorem en_pos {P : Nat → Prop} {n : Nat} (h : P n) : en_c P (n + 1) = en_c P n + 1 := by rw [en_c, if_pos h]
theorem en_neg {P : Nat → Prop} {n : Nat} (h : ¬ P n) : en_c P (n + 1) = en_c P n := by rw [en_c, if_neg h, Nat.add_zero]
theorem en_step (P : Nat → Prop) (n : Nat) : en_c P n ≤ en_c P (n + 1) ∧ en_c P (n + 1) ≤ en_c P n + 1 := by
  by_cases h : P n
  · rw [en_pos h]; omega
  · rw [en_neg h]; omega
theorem en_le (P : Nat → Prop) : ∀ n, en_c P n ≤ n
  | 0 => Nat.le_refl _
  | n + 1 => by have := en_le P n; have := en_step P n; omega
theorem en_mono (P : Nat → Prop) {a b : Nat} (h : a ≤ b) : en_c P a ≤ en_c P b := by
  induction b with
  | zero => rw [show a = 0 by omega]; exact Nat.le_refl _
  | succ b ih =>
    by_cases e : a = b + 1
    · rw [e]; exact Nat.le_refl _
    · have := ih (by omega); have := en_step P b; omega
theorem en_lt {P : Nat → Prop} {a b : Nat} (h : a < b) (ha : P a) : en_c P a < en_c P b := by
  have := en_mono P (show a + 1 ≤ b by omega)
  rw [en_pos ha] at this
  omega
theorem en_stop {P : Nat → Prop} {n : Nat} (h : ∀ j, n ≤ j → ¬ P j) : ∀ d, en_c P (n + d) = en_c P n
  | 0 => rfl
  | d + 1 => by rw [← Nat.add_assoc, en_neg (h _ (by omega)), en_stop h d]
def FDR (w : mu_W) (m : Nat) (P : Nat → Prop) (n : Nat) : Prop := mu_iv w m 43 = mI (en_c P n) ∧ ∀ j, j < n → P j → mu_iv w (m + 25) (en_c P j) = mI j
theorem FDR.fi {S : Nat → Nat → Prop} {w w' : mu_W} {m : Nat} {P : Nat → Prop} {n : Nat} (h : FDR w m P n) (hF : mu_Fi S w w') (h1 : ¬ S m 43) (h2 : ∀ j, ¬ S (m + 25) j) : FDR w' m P n := ⟨hF.iv h1 h.1, fun j hj hp => hF.iv (h2 _) (h.2 j hj hp)⟩
theorem FDR.miss {w : mu_W} {m : Nat} {P : Nat → Prop} {n : Nat} (h : FDR w m P n) (hp : ¬ P n) : FDR w m P (n + 1) := ⟨by rw [en_neg hp]; exact h.1, fun j hj hq => h.2 j (by by_cases e : j = n; (rw [e] at hq; exact absurd hq hp); omega) hq⟩
theorem FDR.hit {w : mu_W} {m : Nat} {P : Nat → Prop} {n : Nat} (h : FDR w m P n) (hp : P n) : FDR (mu_si (mu_si w (m + 25) (en_c P n) (mI n)) m 43 (mI ((en_c P n + 1 : Nat) : Int))) m P (n + 1) := ⟨by rw [mu_iv_same, en_pos hp], fun j hj hq => by
  rw [mu_iv_oth _ _ (by omega)]
  by_cases e : j = n
  · rw [e, mu_iv_same]
  · rw [mu_iv_oth _ _ (fun hh => by have := en_lt (show j < n by omega) hq; omega)]
    exact h.2 j (by omega) hq⟩
theorem FDR.all {w : mu_W} {m : Nat} {P : Nat → Prop} {n : Nat} (h : FDR w m P n) (hp : ∀ j, n ≤ j → ¬ P j) (hn : n ≤ 65536) : FDR w m P 65536 := by
  have e := en_stop hp (65536 - n)
  rw [show n + (65536 - n) = 65536 by omega] at e
  exact ⟨by rw [e]; exact h.1, fun j _ hq => h.2 j (by by_cases q : n ≤ j; (exact absurd hq (hp j q)); omega) hq⟩
def MSr (w : mu_W) (m sr : Nat) (P : Nat → Prop) : Prop := sr ≤ 30 ∧ mu_iv w m 42 = mI sr ∧ FDR w m P 65536
def sr_S (m : Nat) : Nat → Nat → Prop := fun q j => (q = m ∧ (j = 40 ∨ j = 41 ∨ j = 42 ∨ j = 43)) ∨ (m + 23 ≤ q ∧ q ≤ m + 26)
theorem sm_sr {m : Nat} {w w' : mu_W} (h : mu_Fi (sm_S m) w w') : mu_Fi (sr_S m) w w' := h.mono (fun q j hh => by unfold sm_S at hh; unfold sr_S; omega)
theorem sr_ru {w w' : mu_W} {m nr : Nat} {rs : Nat → mu_RS} (h : MRu w m nr rs) (hF : mu_Fi (sr_S m) w w') : MRu w' m nr rs := h.eqs (hF.2.2.2 _ _ (by unfold sr_S; omega)).1 (fun a r h1 h2 _ => (hF.2.2.2 _ _ (by unfold sr_S; omega)).1) (fun j _ => (hF.2.2.2 _ _ (by unfold sr_S; omega)).1) (fun j _ => (hF.2.2.2 _ _ (by unfold sr_S; omega)).1)
theorem rf_neg {nr : Nat} {rs : Nat → mu_RS} {sr : Nat} {z x y : Int} {mo mx : Nat} : -3 ≤ rf_v nr rs sr z x y mo mx ∧ rf_v nr rs sr z x y mo mx ≤ 0 := by
  unfold rf_v
  by_cases h1 : ¬ ((0 ≤ z ∧ z < nr) ∧ rf_fit x y mo mx)
  · rw [if_pos h1]; omega
  · rw [if_neg h1]
    by_cases h2 : ¬ sp_quiet (rs z.toNat)
    · rw [if_pos h2]; omega
    · rw [if_neg h2]
      by_cases h3 : sr = 30
      · rw [if_pos h3]; omega
      · rw [if_neg h3]; omega
theorem rf_zero {nr : Nat} {rs : Nat → mu_RS} {sr : Nat} {z x y : Int} {mo mx : Nat} (h : rf_v nr rs sr z x y mo mx = 0) : (0 ≤ z ∧ z < nr) ∧ rf_fit x y mo mx ∧ sp_quiet (rs z.toNat) ∧ sr ≠ 30 := by
  unfold rf_v at h
  by_cases h1 : ¬ ((0 ≤ z ∧ z < nr) ∧ rf_fit x y mo mx)
  · rw [if_pos h1] at h; omega
  · rw [if_neg h1] at h
    by_cases h2 : ¬ sp_quiet (rs z.toNat)
    · rw [if_pos h2] at h; omega
    · rw [if_neg h2] at h
      by_cases h3 : sr = 30
      · rw [if_pos h3] at h; omega
      · have h4 := Classical.not_not.mp h1
        exact ⟨h4.1, h4.2, Classical.not_not.mp h2, h3⟩
/-- one step of a laid pattern -/
def sp_nx (r : mu_RS) (R C p : Nat) : Nat → Nat → Nat := sp_ss (C + 4) (R + 4) (rs_nb r) (rs_bo r) (rs_st r) (sp_lay R C p)
def st_P (r : mu_RS) (R C p : Nat) : Prop := p < 2 ^ (R * C) ∧ PAT (C + 4) (R + 4) 2 (sp_nx r R C p) p
def an_P (r : mu_RS) (R C o p : Nat) : Prop := p < 2 ^ ((R + 2) * (C + 2)) ∧ PAT (C + 2 + 4) (R + 2 + 4) 3 (sp_nx r (R + 2) (C + 2) p) o
theorem pw16 {n : Nat} (h : n ≤ 16) : 2 ^ n ≤ 65536 := Nat.le_trans (Nat.pow_le_pow_right (by decide) h) (by decide)
theorem PAT.bd {W H rim : Nat} {c : Nat → Nat → Nat} {q : Int} (h : PAT W H rim c q) (h16 : (H - 2 * rim) * (W - 2 * rim) ≤ 16) : -1 ≤ q ∧ q < 65536 := by
  obtain ⟨h1, h2⟩ := h.lo
  refine ⟨h1, ?_⟩
  rcases h2 with e | ⟨n, e, h3⟩
  · omega
  · have := pw16 h16; omega
def ss_all (w : mu_W) (m sr : Nat) (v : Int) (P : Nat → Prop) (r : Option Value) (w' : mu_W) : Prop := (v < 0 → r = some (.int (mI v)) ∧ w' = w) ∧ (v = 0 → r = some (.int (mI (en_c P 65536))) ∧ mu_Fi (sr_S m) w w' ∧ MSr w' m (sr + 1) P)

set_option maxHeartbeats 4000000 in
set_option maxRecDepth 100000 in
theorem c_X12_still (G : mu_G) {w : mu_W} {m : Nat} (hm : mo_ok w m) {nr : Nat} {rs : Nat → mu_RS} (hru : MRu w m nr rs) {sr : Nat} {P0 : Nat → Prop} (hsr : MSr w m sr P0) {z x y : Int} (hz : mi_ok z) (hx : mi_ok x) (hy : mi_ok y) : mu_Ct G M_X12_still [.ref m, .int (mI z), .int (mI x), .int (mI y)] w (fun r w' => ss_all w m sr (rf_v nr rs sr z x y 0 16) (st_P (rs z.toNat) x.toNat y.toNat) r w') := by
  have hk0 := hm.1
  have hnr := hru.1
  have hsr30 := hsr.1
  obtain ⟨hz1, hz2⟩ := id hz
  obtain ⟨hx1, hx2⟩ := id hx
  obtain ⟨hy1, hy2⟩ := id hy
  have hrf := rf_neg (nr := nr) (rs := rs) (sr := sr) (z := z) (x := x) (y := y) (mo := 0) (mx := 16)
  refine mu_ofWA G M_X12_still [.ref m, .int (mI z), .int (mI x), .int (mI y), mu_no, mu_no] (by decide) rfl (Nat.le_of_ble_eq_true rfl) ?_
  intro X E
  have B : mu_B X G cX12_still RX12 6 (mu_rm M_X12_still) := E.1
  show mu_WA X G 6 _ _ 0 0 0 _ []
  refine mu_al_0 B dX12_still_0 ?_
  refine mu_il_1 B dX12_still_1 ?_
  refine mu_il_2 B dX12_still_2 ?_
  refine mu_il_3 B dX12_still_3 ?_
  refine mu_iconst (v := mI 0) B dX12_still_4 rfl ?_
  refine mu_bipush (v := mI 16) B dX12_still_5 (by decide) ?_
  refine mu_eV5 B dX12_still_7 mX12_285 ⟨⟨by decide, by decide⟩, by decide, by decide⟩ (Nat.le_of_ble_eq_true rfl) (by assumption) (c_X12_refused G hm hru hsr.2.1 hsr.1 hz hx hy (mo := 0) (mx := 16) (by decide) (by decide)) ?_
  refine mu_is_4 B dX12_still_10 (by decide) rfl ?_
  refine mu_il_4 B dX12_still_12 ?_
  refine mu_if_ge (tgt := 20) B dX12_still_14 (by decide) (fun c14 => ?_) (fun c14 => ?_)
  · try rw [mI_ge0 ⟨by omega, by omega⟩] at c14
    have hv0 : rf_v nr rs sr z x y 0 16 = 0 := by omega
    obtain ⟨hz9, hft, hq9, hs9⟩ := rf_zero hv0
    obtain ⟨hx9, hy9, hm9⟩ := id hft
    obtain ⟨k, hk⟩ : ∃ k : Nat, z = k := ⟨z.toNat, by omega⟩
    subst hk
    obtain ⟨R, hR⟩ : ∃ k : Nat, x = k := ⟨x.toNat, by omega⟩
    subst hR
    obtain ⟨C, hC⟩ : ∃ k : Nat, y = k := ⟨y.toNat, by omega⟩
    subst hC
    rw [Int.toNat_natCast] at hq9
    rw [Int.toNat_natCast, Int.toNat_natCast] at hm9
    have hk : k < nr := by omega
    have hRC : R * C ≤ 16 := hm9
    have hpw := pw16 hRC
    have h16 : (R + 4 - 2 * 2) * (C + 4 - 2 * 2) ≤ 16 := by rw [show R + 4 - 2 * 2 = R by omega, show C + 4 - 2 * 2 = C by omega]; exact hRC
    refine mu_al_0 B dX12_still_20 ?_
    refine mu_iconst (v := mI 0) B dX12_still_21 rfl ?_
    refine mu_putI B dX12_still_22 fX12_282 fwX12_43 rfl (by assumption) ?_
    refine mu_iconst (v := mI 0) B dX12_still_25 rfl ?_
    refine mu_is_5 B dX12_still_26 (by decide) rfl ?_
    rw [Int.toNat_natCast, Int.toNat_natCast, Int.toNat_natCast]
    have LS : ∀ v4 : Int32, ∀ p (s : mu_W), p ≤ 2 ^ (R * C) → (mu_Fi (sr_S m) w s ∧ mu_iv s m 42 = mI sr ∧ FDR s m (st_P (rs k) R C) p) → mu_WA X G 6 (mu_Q X G M_X12_still (ss_all w m sr (rf_v nr rs sr (k : Int) (R : Int) (C : Int) 0 16) (st_P (rs k) R C))) s 0 0 28 [.ref m, .int (mI k), .int (mI R), .int (mI C), .int v4, .int (mI p)] [] := by
      intro v4
      refine mu_ind (2 ^ (R * C)) (fun p (s : mu_W) => mu_WA X G 6 (mu_Q X G M_X12_still (ss_all w m sr (rf_v nr rs sr (k : Int) (R : Int) (C : Int) 0 16) (st_P (rs k) R C))) s 0 0 28 [.ref m, .int (mI k), .int (mI R), .int (mI C), .int v4, .int (mI p)] []) (fun p (s : mu_W) => mu_Fi (sr_S m) w s ∧ mu_iv s m 42 = mI sr ∧ FDR s m (st_P (rs k) R C) p) ?_
      rintro p w1 hp ⟨hF, h42, hfd⟩ ih
      have hm1 := hm.fi hF
      have hk1 := hm1.1
      refine mu_il_5 B dX12_still_28 ?_
      refine mu_iconst (v := mI 1) B dX12_still_30 rfl ?_
      refine mu_il_2 B dX12_still_31 ?_
      refine mu_il_3 B dX12_still_32 ?_
      refine mu_imul B dX12_still_33 ?_
      try rw [mI_mul]
      try rw [mI_mul]
      rw [← Int.natCast_mul]
      refine mu_ishl B dX12_still_34 ?_
      rw [mI_shl _ _ (by omega), Int.one_mul]
      rw [show (2 : Int) ^ (R * C) = ((2 ^ (R * C) : Nat) : Int) by rw [Int.natCast_pow]; rfl]
      refine mu_icmp_ge (tgt := 73) B dX12_still_35 (by decide) (fun c35 => ?_) (fun c35 => ?_)
      · try rw [mI_le ⟨by omega, by omega⟩ ⟨by omega, by omega⟩] at c35
        obtain rfl : 2 ^ (R * C) = p := by omega
        refine mu_al_0 B dX12_still_73 ?_
        refine mu_cV0 B dX12_still_74 mX12_302 ⟨⟨by decide, by decide⟩, by decide, by decide⟩ (Nat.le_of_ble_eq_true rfl) (by assumption) (c_X12_done G hm1 h42 hfd.1) (fun r74 w74 q74 => ?_)
        obtain ⟨rfl, rfl⟩ := q74
        show mu_WA X G 6 _ _ 0 0 77 _ [.int (mI (en_c (st_P (rs k) R C) (2 ^ (R * C)) : Int))]
        refine mu_iret E rfl (by decide) (by decide) dX12_still_77 ?_
        have hfa := hfd.all (fun j hj hh => by have := hh.1; omega) (by omega)
        refine ⟨fun hh => absurd hh (by omega), fun _ => ⟨?_, hF.si (Or.inl ⟨rfl, Or.inr (Or.inr (Or.inl rfl))⟩), by omega, mu_iv_same _ _ _ _, (mu_iv_oth _ _ (by omega)).trans hfa.1, fun j hj hp => (mu_iv_oth _ _ (by omega)).trans (hfa.2 j hj hp)⟩⟩
        have e9 := hfd.1.symm.trans hfa.1
        rw [e9]
      · try rw [mI_le ⟨by omega, by omega⟩ ⟨by omega, by omega⟩] at c35
        refine mu_al_0 B dX12_still_38 ?_
        refine mu_il_2 B dX12_still_39 ?_
        refine mu_il_3 B dX12_still_40 ?_
        refine mu_il_5 B dX12_still_41 ?_
        refine mu_cV3 B dX12_still_43 mX12_289 ⟨⟨by decide, by decide⟩, by decide, by decide⟩ (Nat.le_of_ble_eq_true rfl) (by assumption) (c_X12_lay G hm1 (R := R) (C := C) (p := p) (by omega) (by omega) (by omega) (by omega)) (fun r43 w43 q43 => ?_)
        obtain ⟨rfl, hF2, hW2, hB2⟩ := q43
        have hFa := hF.trans (sm_sr hF2)
        have hm2 := hm.fi hFa
        have hk2 := hm2.1
        have hru2 := sr_ru hru hFa
        show mu_WA X G 6 _ w43 0 0 46 _ []
        refine mu_al_0 B dX12_still_46 ?_
        refine mu_il_1 B dX12_still_47 ?_
        refine mu_cV1 B dX12_still_48 mX12_293 ⟨⟨by decide, by decide⟩, by decide, by decide⟩ (Nat.le_of_ble_eq_true rfl) (by assumption) (c_X12_smallStep G hm2 hru2 hk hq9.1 hW2 hB2 ⟨by omega, by omega⟩) (fun r48 w48 q48 => ?_)
        obtain ⟨rfl, hF3, hW3, hB3⟩ := q48
        have hFb := hFa.trans (sm_sr hF3)
        have hm3 := hm.fi hFb
        have hk3 := hm3.1
        show mu_WA X G 6 _ w48 0 0 51 _ []
        refine mu_al_0 B dX12_still_51 ?_
        refine mu_iconst (v := mI 2) B dX12_still_52 rfl ?_
        refine mu_cV1 B dX12_still_53 mX12_296 ⟨⟨by decide, by decide⟩, by decide, by decide⟩ (Nat.le_of_ble_eq_true rfl) (by assumption) (c_X12_pattern G hm3 (rim := 2) hW3 hB3 (by omega) (by omega) h16) (fun r53 w53 q53 => ?_)
        obtain ⟨rfl, q, rfl, hpat⟩ := q53
        have hqb := hpat.bd h16
        show mu_WA X G 6 _ _ 0 0 56 _ (.int (mI q) :: [])
        refine mu_il_5 B dX12_still_56 ?_
        refine mu_icmp_ne (tgt := 67) B dX12_still_58 (by decide) (fun c58 => ?_) (fun c58 => ?_)
        · try rw [mI_eq ⟨by omega, by omega⟩ ⟨by omega, by omega⟩] at c58
          have hPp : ¬ st_P (rs k) R C p := fun hh => absurd (hpat.uniq hh.2) (by omega)
          have hfd3 := ((hfd.fi hF2 (by unfold sm_S; omega) (fun j => by unfold sm_S; omega)).fi hF3 (by unfold sm_S; omega) (fun j => by unfold sm_S; omega))
          refine mu_inc_5 (c := mI 1) B dX12_still_67 rfl (by decide) rfl ?_
          try rw [mI_add]
          refine mu_goto (tgt := 28) B dX12_still_70 (by decide) ?_
          first
            | refine mu_to (ih _ (by omega) ⟨(hFb.si (Or.inr ⟨by omega, by omega⟩)).si (Or.inl ⟨rfl, Or.inr (Or.inr (Or.inr rfl))⟩), ?_, hfd3.hit hPp⟩) rfl (by rw [show ((p + 1 : Nat) : Int) = (p : Int) + 1 by omega])
            | refine mu_to (ih _ (by omega) ⟨hFb, ?_, hfd3.miss hPp⟩) rfl (by rw [show ((p + 1 : Nat) : Int) = (p : Int) + 1 by omega])
          first | rw [mu_iv_oth _ _ (by omega), mu_iv_oth _ _ (by omega)] | skip
          exact hF3.iv (by unfold sm_S; omega) (hF2.iv (by unfold sm_S; omega) h42)
        · try rw [mI_eq ⟨by omega, by omega⟩ ⟨by omega, by omega⟩] at c58
          have hPp : st_P (rs k) R C p := ⟨by omega, by rw [show q = (p : Int) by omega] at hpat; exact hpat⟩
          have hfd3 := ((hfd.fi hF2 (by unfold sm_S; omega) (fun j => by unfold sm_S; omega)).fi hF3 (by unfold sm_S; omega) (fun j => by unfold sm_S; omega))
          have hen := en_le (st_P (rs k) R C) p
          refine mu_al_0 B dX12_still_61 ?_
          refine mu_il_5 B dX12_still_62 ?_
          refine mu_cV1 B dX12_still_64 mX12_299 ⟨⟨by decide, by decide⟩, by decide, by decide⟩ (Nat.le_of_ble_eq_true rfl) (by assumption) (c_X12_finds G hm3 hfd3.1 (by omega)) (fun r64 w64 q64 => ?_)
          obtain ⟨rfl, rfl⟩ := q64
          show mu_WA X G 6 _ _ 0 0 67 _ []
          refine mu_inc_5 (c := mI 1) B dX12_still_67 rfl (by decide) rfl ?_
          try rw [mI_add]
          refine mu_goto (tgt := 28) B dX12_still_70 (by decide) ?_
          first
            | refine mu_to (ih _ (by omega) ⟨(hFb.si (Or.inr ⟨by omega, by omega⟩)).si (Or.inl ⟨rfl, Or.inr (Or.inr (Or.inr rfl))⟩), ?_, hfd3.hit hPp⟩) rfl (by rw [show ((p + 1 : Nat) : Int) = (p : Int) + 1 by omega])
            | refine mu_to (ih _ (by omega) ⟨hFb, ?_, hfd3.miss hPp⟩) rfl (by rw [show ((p + 1 : Nat) : Int) = (p : Int) + 1 by omega])
          first | rw [mu_iv_oth _ _ (by omega), mu_iv_oth _ _ (by omega)] | skip
          exact hF3.iv (by unfold sm_S; omega) (hF2.iv (by unfold sm_S; omega) h42)
    exact LS _ 0 _ (Nat.zero_le _) ⟨(mu_Fi.refl _).si (Or.inl ⟨rfl, Or.inr (Or.inr (Or.inr rfl))⟩), (mu_iv_oth _ _ (by omega)).trans hsr.2.1, by rw [en_c, mu_iv_same]; rfl, fun j hj => absurd hj (Nat.not_lt_zero j)⟩
  · try rw [mI_ge0 ⟨by omega, by omega⟩] at c14
    refine mu_il_4 B dX12_still_17 ?_
    refine mu_iret E rfl (by decide) (by decide) dX12_still_19 ?_
    exact ⟨fun _ => ⟨rfl, rfl⟩, fun hh => absurd hh (by omega)⟩
