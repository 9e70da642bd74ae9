/-! ===== bits counted, as the library does it ===== -/
def bcU (x : Int32) (k : Int) : Int32 := (x.toUInt32 >>> ((mI k).toUInt32 &&& Int32.toUInt32 31)).toInt32
def bcA (x : Int32) : Int32 := x - (bcU x 1 &&& mI 1431655765)
def bcB (x : Int32) : Int32 := (x &&& mI 858993459) + (bcU x 2 &&& mI 858993459)
def bcC (x : Int32) : Int32 := (x + bcU x 4) &&& mI 252645135
def bcD (x : Int32) : Int32 := x + bcU x 8
def bcE (x : Int32) : Int32 := x + bcU x 16
def bcX (x : Int32) : Int32 := bcE (bcD (bcC (bcB (bcA x)))) &&& mI 63
def bc4 (p : Nat) : Nat := p % 2 + p / 2 % 2 + p / 4 % 2 + p / 8 % 2
theorem bc4_eq : ∀ p, p < 16 → bcX (mI ((p : Nat) : Int)) = mI (bc4 p) := by decide +kernel
theorem rf_ne {nr : Nat} {rs : Nat → mu_RS} {sr : Nat} {z x y : Int} {mo mx : Nat} (h : rf_v nr rs sr z x y mo mx ≠ -1) : (0 ≤ z ∧ z < nr) ∧ rf_fit x y mo mx := by
  unfold rf_v at h
  by_cases h1 : ¬ ((0 ≤ z ∧ z < nr) ∧ rf_fit x y mo mx)
  · rw [if_pos h1] at h; exact absurd rfl h
  · exact Classical.not_not.mp h1
theorem rc4 {R C : Nat} (hR : 1 ≤ R) (hC : 1 ≤ C) (h : (R + 2) * (C + 2) ≤ 16) : R ≤ 3 ∧ C ≤ 3 ∧ R * C ≤ 4 := by
  have h1 : R ≤ 3 := by have := Nat.mul_le_mul_left (R + 2) (show 3 ≤ C + 2 by omega); omega
  have h2 : C ≤ 3 := by have := Nat.mul_le_mul_right (C + 2) (show 3 ≤ R + 2 by omega); omega
  refine ⟨h1, h2, ?_⟩
  rcases (show R = 1 ∨ R = 2 ∨ R = 3 by omega) with rfl | rfl | rfl <;> rcases (show C = 1 ∨ C = 2 ∨ C = 3 by omega) with rfl | rfl | rfl <;> first | decide | (exact absurd h (by decide))

set_option maxHeartbeats 4000000 in
set_option maxRecDepth 100000 in
theorem c_J6_bitCount (G : mu_G) {w : mu_W} {x : Int32} : mu_Ct G M_J6_bitCount_0f7a4 [.int x] w (fun r w' => r = some (.int (bcX x)) ∧ w' = w) := by
  refine mu_ofWA G M_J6_bitCount_0f7a4 [.int x] (by decide) rfl (Nat.le_of_ble_eq_true rfl) ?_
  intro X E
  have B : mu_B X G cJ6_bitCount_0f7a4 RJ6 1 (mu_rm M_J6_bitCount_0f7a4) := E.1
  show mu_WA X G 1 _ _ 0 0 0 _ []
  refine mu_il_0 B dJ6_bitCount_0f7a4_0 ?_
  refine mu_il_0 B dJ6_bitCount_0f7a4_1 ?_
  refine mu_iconst (v := mI 1) B dJ6_bitCount_0f7a4_2 rfl ?_
  refine mu_iushr B dJ6_bitCount_0f7a4_3 rfl ?_
  refine mu_ldcw B kJ6_265 dJ6_bitCount_0f7a4_4 ?_
  refine mu_iand B dJ6_bitCount_0f7a4_7 ?_
  refine mu_isub B dJ6_bitCount_0f7a4_8 ?_
  refine mu_is_0 B dJ6_bitCount_0f7a4_9 (by decide) ?_
  change mu_WA X G 1 _ _ _ _ _ [.int (bcA x)] _
  refine mu_il_0 B dJ6_bitCount_0f7a4_10 ?_
  refine mu_ldcw B kJ6_266 dJ6_bitCount_0f7a4_11 ?_
  refine mu_iand B dJ6_bitCount_0f7a4_14 ?_
  refine mu_il_0 B dJ6_bitCount_0f7a4_15 ?_
  refine mu_iconst (v := mI 2) B dJ6_bitCount_0f7a4_16 rfl ?_
  refine mu_iushr B dJ6_bitCount_0f7a4_17 rfl ?_
  refine mu_ldcw B kJ6_266 dJ6_bitCount_0f7a4_18 ?_
  refine mu_iand B dJ6_bitCount_0f7a4_21 ?_
  refine mu_iadd B dJ6_bitCount_0f7a4_22 ?_
  refine mu_is_0 B dJ6_bitCount_0f7a4_23 (by decide) ?_
  change mu_WA X G 1 _ _ _ _ _ [.int (bcB (bcA x))] _
  refine mu_il_0 B dJ6_bitCount_0f7a4_24 ?_
  refine mu_il_0 B dJ6_bitCount_0f7a4_25 ?_
  refine mu_iconst (v := mI 4) B dJ6_bitCount_0f7a4_26 rfl ?_
  refine mu_iushr B dJ6_bitCount_0f7a4_27 rfl ?_
  refine mu_iadd B dJ6_bitCount_0f7a4_28 ?_
  refine mu_ldcw B kJ6_267 dJ6_bitCount_0f7a4_29 ?_
  refine mu_iand B dJ6_bitCount_0f7a4_32 ?_
  refine mu_is_0 B dJ6_bitCount_0f7a4_33 (by decide) ?_
  change mu_WA X G 1 _ _ _ _ _ [.int (bcC (bcB (bcA x)))] _
  refine mu_il_0 B dJ6_bitCount_0f7a4_34 ?_
  refine mu_il_0 B dJ6_bitCount_0f7a4_35 ?_
  refine mu_bipush (v := mI 8) B dJ6_bitCount_0f7a4_36 (by decide) ?_
  refine mu_iushr B dJ6_bitCount_0f7a4_38 rfl ?_
  refine mu_iadd B dJ6_bitCount_0f7a4_39 ?_
  refine mu_is_0 B dJ6_bitCount_0f7a4_40 (by decide) ?_
  change mu_WA X G 1 _ _ _ _ _ [.int (bcD (bcC (bcB (bcA x))))] _
  refine mu_il_0 B dJ6_bitCount_0f7a4_41 ?_
  refine mu_il_0 B dJ6_bitCount_0f7a4_42 ?_
  refine mu_bipush (v := mI 16) B dJ6_bitCount_0f7a4_43 (by decide) ?_
  refine mu_iushr B dJ6_bitCount_0f7a4_45 rfl ?_
  refine mu_iadd B dJ6_bitCount_0f7a4_46 ?_
  refine mu_is_0 B dJ6_bitCount_0f7a4_47 (by decide) ?_
  change mu_WA X G 1 _ _ _ _ _ [.int (bcE (bcD (bcC (bcB (bcA x)))))] _
  refine mu_il_0 B dJ6_bitCount_0f7a4_48 ?_
  refine mu_bipush (v := mI 63) B dJ6_bitCount_0f7a4_49 (by decide) ?_
  refine mu_iand B dJ6_bitCount_0f7a4_51 ?_
  refine mu_iret E rfl (by decide) (by decide) dJ6_bitCount_0f7a4_52 ?_
  exact ⟨rfl, rfl⟩

def bs_post (w : mu_W) (m : Nat) (rr : mu_RS) (R C p : Nat) (r : Option Value) (w' : mu_W) : Prop := mu_Fi (sm_S m) w w' ∧ ∃ q : Int, r = some (.int (mI q)) ∧ PAT (C + 2 + 4) (R + 2 + 4) 3 (sp_nx rr (R + 2) (C + 2) p) q

set_option maxHeartbeats 4000000 in
set_option maxRecDepth 100000 in
theorem c_X12_becomesSmall (G : mu_G) {w : mu_W} {m : Nat} (hm : mo_ok w m) {nr : Nat} {rs : Nat → mu_RS} (hru : MRu w m nr rs) {k R C p : Nat} (hk : k < nr) (hq9 : sp_quiet (rs k)) (hR : 1 ≤ R) (hC : 1 ≤ C) (hRC : (R + 2) * (C + 2) ≤ 16) (hp : p < 2147483648) : mu_Ct G M_X12_becomesSmall [.ref m, .int (mI k), .int (mI R), .int (mI C), .int (mI p)] w (bs_post w m (rs k) R C p) := by
  have hk0 := hm.1
  obtain ⟨hR3, hC3, hRC4⟩ := rc4 hR hC hRC
  refine mu_ofWA G M_X12_becomesSmall [.ref m, .int (mI k), .int (mI R), .int (mI C), .int (mI p)] (by decide) rfl (Nat.le_of_ble_eq_true rfl) ?_
  intro X E
  have B : mu_B X G cX12_becomesSmall RX12 5 (mu_rm M_X12_becomesSmall) := E.1
  show mu_WA X G 5 _ _ 0 0 0 _ []
  refine mu_al_0 B dX12_becomesSmall_0 ?_
  refine mu_il_2 B dX12_becomesSmall_1 ?_
  refine mu_iconst (v := mI 2) B dX12_becomesSmall_2 rfl ?_
  refine mu_iadd B dX12_becomesSmall_3 ?_
  try rw [mI_add]
  try rw [mI_add]
  rw [show (R : Int) + 2 = ((R + 2 : Nat) : Int) by omega]
  refine mu_il_3 B dX12_becomesSmall_4 ?_
  refine mu_iconst (v := mI 2) B dX12_becomesSmall_5 rfl ?_
  refine mu_iadd B dX12_becomesSmall_6 ?_
  try rw [mI_add]
  try rw [mI_add]
  rw [show (C : Int) + 2 = ((C + 2 : Nat) : Int) by omega]
  refine mu_il_4 B dX12_becomesSmall_7 ?_
  refine mu_cV3 B dX12_becomesSmall_9 mX12_289 ⟨⟨by decide, by decide⟩, by decide, by decide⟩ (Nat.le_of_ble_eq_true rfl) (by assumption) (c_X12_lay G hm (R := R + 2) (C := C + 2) (p := p) (by omega) (by omega) (by omega) (by omega)) (fun r9 w9 q9 => ?_)
  obtain ⟨rfl, hFa, hW2, hB2⟩ := q9
  have hm2 := hm.fi hFa
  have hk2 := hm2.1
  have hru2 := sm_ru hru hFa
  show mu_WA X G 5 _ w9 0 0 12 _ []
  refine mu_al_0 B dX12_becomesSmall_12 ?_
  refine mu_il_1 B dX12_becomesSmall_13 ?_
  refine mu_cV1 B dX12_becomesSmall_14 mX12_293 ⟨⟨by decide, by decide⟩, by decide, by decide⟩ (Nat.le_of_ble_eq_true rfl) (by assumption) (c_X12_smallStep G hm2 hru2 hk hq9.1 hW2 hB2 ⟨by omega, by omega⟩) (fun r14 w14 q14 => ?_)
  obtain ⟨rfl, hF3, hW3, hB3⟩ := q14
  have hFb := hFa.trans hF3
  have hm3 := hm.fi hFb
  have hk3 := hm3.1
  show mu_WA X G 5 _ w14 0 0 17 _ []
  refine mu_al_0 B dX12_becomesSmall_17 ?_
  refine mu_iconst (v := mI 3) B dX12_becomesSmall_18 rfl ?_
  refine mu_cV1 B dX12_becomesSmall_19 mX12_296 ⟨⟨by decide, by decide⟩, by decide, by decide⟩ (Nat.le_of_ble_eq_true rfl) (by assumption) (c_X12_pattern G hm3 (rim := 3) hW3 hB3 (by omega) (by omega) (by rw [show R + 2 + 4 - 2 * 3 = R by omega, show C + 2 + 4 - 2 * 3 = C by omega]; omega)) (fun r19 w19 q19 => ?_)
  obtain ⟨rfl, q, rfl, hpat⟩ := q19
  show mu_WA X G 5 _ _ 0 0 22 _ [.int (mI q)]
  refine mu_iret E rfl (by decide) (by decide) dX12_becomesSmall_22 ?_
  exact ⟨hFb, q, rfl, hpat⟩

noncomputable def an_v (nr : Nat) (rs : Nat → mu_RS) (sr : Nat) (z x y o : Int) : Int := @ite _ (rf_v nr rs sr z x y 2 16 = -1 ∨ ¬ (0 ≤ o ∧ o < 2 ^ (x.toNat * y.toNat))) (Classical.propDecidable _) (-1) (rf_v nr rs sr z x y 2 16)
theorem an_zero {nr : Nat} {rs : Nat → mu_RS} {sr : Nat} {z x y o : Int} (h : ¬ (rf_v nr rs sr z x y 2 16 = -1 ∨ ¬ (0 ≤ o ∧ o < 2 ^ (x.toNat * y.toNat)))) : an_v nr rs sr z x y o = rf_v nr rs sr z x y 2 16 := by unfold an_v; rw [if_neg h]

set_option maxHeartbeats 4000000 in
set_option maxRecDepth 100000 in
theorem c_X12_ancestors (G : mu_G) {w : mu_W} {m : Nat} (hm : mo_ok w m) {nr : Nat} {rs : Nat → mu_RS} (hru : MRu w m nr rs) {sr : Nat} {P0 : Nat → Prop} (hsr : MSr w m sr P0) {z x y o : Int} (hz : mi_ok z) (hx : mi_ok x) (hy : mi_ok y) (ho : mi_ok o) : mu_Ct G M_X12_ancestors [.ref m, .int (mI z), .int (mI x), .int (mI y), .int (mI o)] w (fun r w' => ss_all w m sr (an_v nr rs sr z x y o) (an_P (rs z.toNat) x.toNat y.toNat o.toNat) r w') := by
  have hk0 := hm.1
  have hnr := hru.1
  have hsr30 := hsr.1
  obtain ⟨hz1, hz2⟩ := id hz
  obtain ⟨hx1, hx2⟩ := id hx
  obtain ⟨hy1, hy2⟩ := id hy
  have hrf := rf_neg (nr := nr) (rs := rs) (sr := sr) (z := z) (x := x) (y := y) (mo := 2) (mx := 16)
  obtain ⟨ho1, ho2⟩ := ho
  refine mu_ofWA G M_X12_ancestors [.ref m, .int (mI z), .int (mI x), .int (mI y), .int (mI o), mu_no, mu_no] (by decide) rfl (Nat.le_of_ble_eq_true rfl) ?_
  intro X E
  have B : mu_B X G cX12_ancestors RX12 7 (mu_rm M_X12_ancestors) := E.1
  show mu_WA X G 7 _ _ 0 0 0 _ []
  refine mu_al_0 B dX12_ancestors_0 ?_
  refine mu_il_1 B dX12_ancestors_1 ?_
  refine mu_il_2 B dX12_ancestors_2 ?_
  refine mu_il_3 B dX12_ancestors_3 ?_
  refine mu_iconst (v := mI 2) B dX12_ancestors_4 rfl ?_
  refine mu_bipush (v := mI 16) B dX12_ancestors_5 (by decide) ?_
  refine mu_eV5 B dX12_ancestors_7 mX12_285 ⟨⟨by decide, by decide⟩, by decide, by decide⟩ (Nat.le_of_ble_eq_true rfl) (by assumption) (c_X12_refused G hm hru hsr.2.1 hsr.1 hz hx hy (mo := 2) (mx := 16) (by decide) (by decide)) ?_
  refine mu_is_5 B dX12_ancestors_10 (by decide) rfl ?_
  refine mu_il_5 B dX12_ancestors_12 ?_
  refine mu_iconst (v := mI (-1)) B dX12_ancestors_14 rfl ?_
  refine mu_icmp_eq (tgt := 33) B dX12_ancestors_15 (by decide) (fun c15 => ?_) (fun c15 => ?_)
  · try rw [mI_eq ⟨by omega, by omega⟩ ⟨by omega, by omega⟩] at c15
    refine mu_iconst (v := mI (-1)) B dX12_ancestors_33 rfl ?_
    refine mu_iret E rfl (by decide) (by decide) dX12_ancestors_34 ?_
    first
      | have hav : an_v nr rs sr z x y o = -1 := by unfold an_v; rw [if_pos (Or.inl c15)]
        exact ⟨fun _ => ⟨by rw [hav], rfl⟩, fun hh => absurd hh (by rw [hav]; decide)⟩
      | have hav : an_v nr rs sr (k : Int) (R : Int) (C : Int) o = -1 := by unfold an_v; rw [if_pos (Or.inr (by rw [Int.toNat_natCast, Int.toNat_natCast]; omega))]
        exact ⟨fun _ => ⟨by rw [hav], rfl⟩, fun hh => absurd hh (by rw [hav]; decide)⟩
  · try rw [mI_eq ⟨by omega, by omega⟩ ⟨by omega, by omega⟩] at c15
    obtain ⟨hz9, hft⟩ := rf_ne c15
    obtain ⟨hx9, hy9, hm9⟩ := id hft
    obtain ⟨k, hk⟩ : ∃ k : Nat, z = k := ⟨z.toNat, by omega⟩
    subst hk
    obtain ⟨R, hR⟩ : ∃ k : Nat, x = k := ⟨x.toNat, by omega⟩
    subst hR
    obtain ⟨C, hC⟩ : ∃ k : Nat, y = k := ⟨y.toNat, by omega⟩
    subst hC
    rw [Int.toNat_natCast, Int.toNat_natCast] at hm9
    have hRC2 : (R + 2) * (C + 2) ≤ 16 := hm9
    obtain ⟨hR3, hC3, hRC4⟩ := rc4 (by omega) (by omega) hRC2
    have hpw4 : 2 ^ (R * C) ≤ 2 ^ 4 := Nat.pow_le_pow_right (by decide) hRC4
    have hpw := pw16 hRC2
    have hpw0 : 0 < 2 ^ (R * C) := Nat.two_pow_pos _
    have hk : k < nr := by omega
    have hcast : ((2 ^ (R * C) : Nat) : Int) = (2 : Int) ^ (R * C) := by rw [Int.natCast_pow]; rfl
    refine mu_il_4 B dX12_ancestors_18 ?_
    refine mu_if_lt (tgt := 33) B dX12_ancestors_20 (by decide) (fun c20 => ?_) (fun c20 => ?_)
    · try rw [mI_lt0 ⟨by omega, by omega⟩] at c20
      refine mu_iconst (v := mI (-1)) B dX12_ancestors_33 rfl ?_
      refine mu_iret E rfl (by decide) (by decide) dX12_ancestors_34 ?_
      first
        | have hav : an_v nr rs sr z x y o = -1 := by unfold an_v; rw [if_pos (Or.inl c15)]
          exact ⟨fun _ => ⟨by rw [hav], rfl⟩, fun hh => absurd hh (by rw [hav]; decide)⟩
        | have hav : an_v nr rs sr (k : Int) (R : Int) (C : Int) o = -1 := by unfold an_v; rw [if_pos (Or.inr (by rw [Int.toNat_natCast, Int.toNat_natCast]; omega))]
          exact ⟨fun _ => ⟨by rw [hav], rfl⟩, fun hh => absurd hh (by rw [hav]; decide)⟩
    · try rw [mI_lt0 ⟨by omega, by omega⟩] at c20
      refine mu_il_4 B dX12_ancestors_23 ?_
      refine mu_iconst (v := mI 1) B dX12_ancestors_25 rfl ?_
      refine mu_il_2 B dX12_ancestors_26 ?_
      refine mu_il_3 B dX12_ancestors_27 ?_
      refine mu_imul B dX12_ancestors_28 ?_
      try rw [mI_mul]
      try rw [mI_mul]
      rw [← Int.natCast_mul]
      refine mu_ishl B dX12_ancestors_29 ?_
      rw [mI_shl _ _ (by omega), Int.one_mul]
      rw [show (2 : Int) ^ (R * C) = ((2 ^ (R * C) : Nat) : Int) by rw [Int.natCast_pow]; rfl]
      refine mu_icmp_lt (tgt := 35) B dX12_ancestors_30 (by decide) (fun c30 => ?_) (fun c30 => ?_)
      · try rw [mI_lt ⟨by omega, by omega⟩ ⟨by omega, by omega⟩] at c30
        refine mu_il_5 B dX12_ancestors_35 ?_
        refine mu_if_ge (tgt := 43) B dX12_ancestors_37 (by decide) (fun c37 => ?_) (fun c37 => ?_)
        · try rw [mI_ge0 ⟨by omega, by omega⟩] at c37
          refine mu_al_0 B dX12_ancestors_43 ?_
          refine mu_iconst (v := mI 0) B dX12_ancestors_44 rfl ?_
          refine mu_putI B dX12_ancestors_45 fX12_282 fwX12_43 rfl (by assumption) ?_
          refine mu_iconst (v := mI 0) B dX12_ancestors_48 rfl ?_
          refine mu_is_6 B dX12_ancestors_49 (by decide) rfl ?_
          rw [Int.toNat_natCast, Int.toNat_natCast, Int.toNat_natCast]
          have hq9 : sp_quiet (rs k) := by have := (rf_zero (show rf_v nr rs sr (k : Int) (R : Int) (C : Int) 2 16 = 0 by omega)).2.2.1; rw [Int.toNat_natCast] at this; exact this
          have hs9 := (rf_zero (show rf_v nr rs sr (k : Int) (R : Int) (C : Int) 2 16 = 0 by omega)).2.2.2
          have hav : an_v nr rs sr (k : Int) (R : Int) (C : Int) o = 0 := by rw [an_zero (by rw [Int.toNat_natCast, Int.toNat_natCast]; omega)]; omega
          have LA : ∀ v5 : Int32, ∀ p (s : mu_W), p ≤ 2 ^ ((R + 2) * (C + 2)) → (mu_Fi (sr_S m) w s ∧ mu_iv s m 42 = mI sr ∧ FDR s m (an_P (rs k) R C o.toNat) p) → mu_WA X G 7 (mu_Q X G M_X12_ancestors (ss_all w m sr (an_v nr rs sr (k : Int) (R : Int) (C : Int) o) (an_P (rs k) R C o.toNat))) s 0 0 51 [.ref m, .int (mI k), .int (mI R), .int (mI C), .int (mI o), .int v5, .int (mI p)] [] := by
            intro v5
            refine mu_ind (2 ^ ((R + 2) * (C + 2))) (fun p (s : mu_W) => mu_WA X G 7 (mu_Q X G M_X12_ancestors (ss_all w m sr (an_v nr rs sr (k : Int) (R : Int) (C : Int) o) (an_P (rs k) R C o.toNat))) s 0 0 51 [.ref m, .int (mI k), .int (mI R), .int (mI C), .int (mI o), .int v5, .int (mI p)] []) (fun p (s : mu_W) => mu_Fi (sr_S m) w s ∧ mu_iv s m 42 = mI sr ∧ FDR s m (an_P (rs k) R C o.toNat) p) ?_
            rintro p w1 hp ⟨hF, h42, hfd⟩ ih
            have hm1 := hm.fi hF
            have hk1 := hm1.1
            have hru1 := sr_ru hru hF
            refine mu_il_6 B dX12_ancestors_51 ?_
            refine mu_iconst (v := mI 1) B dX12_ancestors_53 rfl ?_
            refine mu_il_2 B dX12_ancestors_54 ?_
            refine mu_iconst (v := mI 2) B dX12_ancestors_55 rfl ?_
            refine mu_iadd B dX12_ancestors_56 ?_
            try rw [mI_add]
            try rw [mI_add]
            rw [show (R : Int) + 2 = ((R + 2 : Nat) : Int) by omega]
            refine mu_il_3 B dX12_ancestors_57 ?_
            refine mu_iconst (v := mI 2) B dX12_ancestors_58 rfl ?_
            refine mu_iadd B dX12_ancestors_59 ?_
            try rw [mI_add]
            try rw [mI_add]
            rw [show (C : Int) + 2 = ((C + 2 : Nat) : Int) by omega]
            refine mu_imul B dX12_ancestors_60 ?_
            try rw [mI_mul]
            try rw [mI_mul]
            rw [← Int.natCast_mul]
            refine mu_ishl B dX12_ancestors_61 ?_
            rw [mI_shl _ _ (by omega), Int.one_mul]
            rw [show (2 : Int) ^ ((R + 2) * (C + 2)) = ((2 ^ ((R + 2) * (C + 2)) : Nat) : Int) by rw [Int.natCast_pow]; rfl]
            refine mu_icmp_ge (tgt := 91) B dX12_ancestors_62 (by decide) (fun c62 => ?_) (fun c62 => ?_)
            · try rw [mI_le ⟨by omega, by omega⟩ ⟨by omega, by omega⟩] at c62
              obtain rfl : 2 ^ ((R + 2) * (C + 2)) = p := by omega
              refine mu_al_0 B dX12_ancestors_91 ?_
              refine mu_cV0 B dX12_ancestors_92 mX12_302 ⟨⟨by decide, by decide⟩, by decide, by decide⟩ (Nat.le_of_ble_eq_true rfl) (by assumption) (c_X12_done G hm1 h42 hfd.1) (fun r92 w92 q92 => ?_)
              obtain ⟨rfl, rfl⟩ := q92
              show mu_WA X G 7 _ _ 0 0 95 _ [.int (mI (en_c (an_P (rs k) R C o.toNat) (2 ^ ((R + 2) * (C + 2))) : Int))]
              refine mu_iret E rfl (by decide) (by decide) dX12_ancestors_95 ?_
              have hfa := hfd.all (fun j hj hh => by have := hh.1; omega) (by omega)
              refine ⟨fun hh => absurd hh (by omega), fun _ => ⟨?_, hF.si (Or.inl ⟨rfl, Or.inr (Or.inr (Or.inl rfl))⟩), by omega, mu_iv_same _ _ _ _, (mu_iv_oth _ _ (by omega)).trans hfa.1, fun j hj hp => (mu_iv_oth _ _ (by omega)).trans (hfa.2 j hj hp)⟩⟩
              have e9 := hfd.1.symm.trans hfa.1
              rw [e9]
            · try rw [mI_le ⟨by omega, by omega⟩ ⟨by omega, by omega⟩] at c62
              refine mu_al_0 B dX12_ancestors_65 ?_
              refine mu_il_1 B dX12_ancestors_66 ?_
              refine mu_il_2 B dX12_ancestors_67 ?_
              refine mu_il_3 B dX12_ancestors_68 ?_
              refine mu_il_6 B dX12_ancestors_69 ?_
              refine mu_cV4 B dX12_ancestors_71 mX12_305 ⟨⟨by decide, by decide⟩, by decide, by decide⟩ (Nat.le_of_ble_eq_true rfl) (by assumption) (c_X12_becomesSmall G hm1 hru1 (p := p) hk hq9 (by omega) (by omega) hRC2 (by omega)) (fun r71 w71 q71 => ?_)
              obtain ⟨hF2, q, rfl, hpat⟩ := q71
              have hqb := hpat.bd (by rw [show R + 2 + 4 - 2 * 3 = R by omega, show C + 2 + 4 - 2 * 3 = C by omega]; omega)
              have hFb := hF.trans (sm_sr hF2)
              have hm3 := hm.fi hFb
              have hk3 := hm3.1
              show mu_WA X G 7 _ w71 0 0 74 _ ([.int (mI q)])
              refine mu_il_4 B dX12_ancestors_74 ?_
              refine mu_icmp_ne (tgt := 85) B dX12_ancestors_76 (by decide) (fun c76 => ?_) (fun c76 => ?_)
              · try rw [mI_eq ⟨by omega, by omega⟩ ⟨by omega, by omega⟩] at c76
                have hPp : ¬ an_P (rs k) R C o.toNat p := fun hh => absurd (hpat.uniq hh.2) (by omega)
                have hfd3 := hfd.fi hF2 (by unfold sm_S; omega) (fun j => by unfold sm_S; omega)
                refine mu_inc_6 (c := mI 1) B dX12_ancestors_85 rfl (by decide) rfl ?_
                try rw [mI_add]
                refine mu_goto (tgt := 51) B dX12_ancestors_88 (by decide) ?_
                first
                  | refine mu_to (ih _ (by omega) ⟨(hFb.si (Or.inr ⟨by omega, by omega⟩)).si (Or.inl ⟨rfl, Or.inr (Or.inr (Or.inr rfl))⟩), ?_, hfd3.hit hPp⟩) rfl (by rw [show ((p + 1 : Nat) : Int) = (p : Int) + 1 by omega])
                  | refine mu_to (ih _ (by omega) ⟨hFb, ?_, hfd3.miss hPp⟩) rfl (by rw [show ((p + 1 : Nat) : Int) = (p : Int) + 1 by omega])
                first | rw [mu_iv_oth _ _ (by omega), mu_iv_oth _ _ (by omega)] | skip
                exact hF2.iv (by unfold sm_S; omega) h42
              · try rw [mI_eq ⟨by omega, by omega⟩ ⟨by omega, by omega⟩] at c76
                have hPp : an_P (rs k) R C o.toNat p := ⟨by omega, by rw [show q = ((o.toNat : Nat) : Int) by omega] at hpat; exact hpat⟩
                have hfd3 := hfd.fi hF2 (by unfold sm_S; omega) (fun j => by unfold sm_S; omega)
                have hen := en_le (an_P (rs k) R C o.toNat) p
                refine mu_al_0 B dX12_ancestors_79 ?_
                refine mu_il_6 B dX12_ancestors_80 ?_
                refine mu_cV1 B dX12_ancestors_82 mX12_299 ⟨⟨by decide, by decide⟩, by decide, by decide⟩ (Nat.le_of_ble_eq_true rfl) (by assumption) (c_X12_finds G hm3 hfd3.1 (by omega)) (fun r82 w82 q82 => ?_)
                obtain ⟨rfl, rfl⟩ := q82
                show mu_WA X G 7 _ _ 0 0 85 _ []
                refine mu_inc_6 (c := mI 1) B dX12_ancestors_85 rfl (by decide) rfl ?_
                try rw [mI_add]
                refine mu_goto (tgt := 51) B dX12_ancestors_88 (by decide) ?_
                first
                  | refine mu_to (ih _ (by omega) ⟨(hFb.si (Or.inr ⟨by omega, by omega⟩)).si (Or.inl ⟨rfl, Or.inr (Or.inr (Or.inr rfl))⟩), ?_, hfd3.hit hPp⟩) rfl (by rw [show ((p + 1 : Nat) : Int) = (p : Int) + 1 by omega])
                  | refine mu_to (ih _ (by omega) ⟨hFb, ?_, hfd3.miss hPp⟩) rfl (by rw [show ((p + 1 : Nat) : Int) = (p : Int) + 1 by omega])
                first | rw [mu_iv_oth _ _ (by omega), mu_iv_oth _ _ (by omega)] | skip
                exact hF2.iv (by unfold sm_S; omega) h42
          exact LA _ 0 _ (Nat.zero_le _) ⟨(mu_Fi.refl _).si (Or.inl ⟨rfl, Or.inr (Or.inr (Or.inr rfl))⟩), (mu_iv_oth _ _ (by omega)).trans hsr.2.1, by rw [en_c, mu_iv_same]; rfl, fun j hj => absurd hj (Nat.not_lt_zero j)⟩
        · try rw [mI_ge0 ⟨by omega, by omega⟩] at c37
          refine mu_il_5 B dX12_ancestors_40 ?_
          refine mu_iret E rfl (by decide) (by decide) dX12_ancestors_42 ?_
          have hav : an_v nr rs sr (k : Int) (R : Int) (C : Int) o = rf_v nr rs sr (k : Int) (R : Int) (C : Int) 2 16 := an_zero (by rw [Int.toNat_natCast, Int.toNat_natCast]; omega)
          exact ⟨fun _ => ⟨by rw [hav], rfl⟩, fun hh => absurd hh (by omega)⟩
      · try rw [mI_lt ⟨by omega, by omega⟩ ⟨by omega, by omega⟩] at c30
        refine mu_iconst (v := mI (-1)) B dX12_ancestors_33 rfl ?_
        refine mu_iret E rfl (by decide) (by decide) dX12_ancestors_34 ?_
        first
          | have hav : an_v nr rs sr z x y o = -1 := by unfold an_v; rw [if_pos (Or.inl c15)]
            exact ⟨fun _ => ⟨by rw [hav], rfl⟩, fun hh => absurd hh (by rw [hav]; decide)⟩
          | have hav : an_v nr rs sr (k : Int) (R : Int) (C : Int) o = -1 := by unfold an_v; rw [if_pos (Or.inr (by rw [Int.toNat_natCast, Int.toNat_natCast]; omega))]
            exact ⟨fun _ => ⟨by rw [hav], rfl⟩, fun hh => absurd hh (by rw [hav]; decide)⟩

/-- the board after k steps -/
def os_c (r : mu_RS) (R C p : Nat) : Nat → Nat → Nat → Nat
  | 0 => sp_lay R C p
  | k + 1 => sp_ss (C + 4) (R + 4) (rs_nb r) (rs_bo r) (rs_st r) (os_c r R C p k)
def os_P (r : mu_RS) (R C n p : Nat) : Prop := p < 2 ^ (R * C) ∧ (∀ k, 1 ≤ k → k < n → ∃ q : Int, PAT (C + 4) (R + 4) 2 (os_c r R C p k) q ∧ 0 ≤ q ∧ q ≠ p) ∧ PAT (C + 4) (R + 4) 2 (os_c r R C p n) p
noncomputable def os_v (nr : Nat) (rs : Nat → mu_RS) (sr : Nat) (z x y o : Int) : Int := @ite _ (rf_v nr rs sr z x y 0 12 = -1 ∨ ¬ (2 ≤ o ∧ o ≤ 6)) (Classical.propDecidable _) (-1) (rf_v nr rs sr z x y 0 12)
theorem os_zero {nr : Nat} {rs : Nat → mu_RS} {sr : Nat} {z x y o : Int} (h : ¬ (rf_v nr rs sr z x y 0 12 = -1 ∨ ¬ (2 ≤ o ∧ o ≤ 6))) : os_v nr rs sr z x y o = rf_v nr rs sr z x y 0 12 := by unfold os_v; rw [if_neg h]

set_option maxHeartbeats 4000000 in
set_option maxRecDepth 100000 in
theorem c_X12_oscillators (G : mu_G) {w : mu_W} {m : Nat} (hm : mo_ok w m) {nr : Nat} {rs : Nat → mu_RS} (hru : MRu w m nr rs) {sr : Nat} {P0 : Nat → Prop} (hsr : MSr w m sr P0) {z x y o : Int} (hz : mi_ok z) (hx : mi_ok x) (hy : mi_ok y) (ho : mi_ok o) : mu_Ct G M_X12_oscillators [.ref m, .int (mI z), .int (mI x), .int (mI y), .int (mI o)] w (fun r w' => ss_all w m sr (os_v nr rs sr z x y o) (os_P (rs z.toNat) x.toNat y.toNat o.toNat) r w') := by
  have hk0 := hm.1
  have hnr := hru.1
  have hsr30 := hsr.1
  obtain ⟨hz1, hz2⟩ := id hz
  obtain ⟨hx1, hx2⟩ := id hx
  obtain ⟨hy1, hy2⟩ := id hy
  have hrf := rf_neg (nr := nr) (rs := rs) (sr := sr) (z := z) (x := x) (y := y) (mo := 0) (mx := 12)
  obtain ⟨ho1, ho2⟩ := ho
  refine mu_ofWA G M_X12_oscillators [.ref m, .int (mI z), .int (mI x), .int (mI y), .int (mI o), mu_no, mu_no, mu_no, mu_no, mu_no, mu_no] (by decide) rfl (Nat.le_of_ble_eq_true rfl) ?_
  intro X E
  have B : mu_B X G cX12_oscillators RX12 11 (mu_rm M_X12_oscillators) := E.1
  show mu_WA X G 11 _ _ 0 0 0 _ []
  refine mu_al_0 B dX12_oscillators_0 ?_
  refine mu_il_1 B dX12_oscillators_1 ?_
  refine mu_il_2 B dX12_oscillators_2 ?_
  refine mu_il_3 B dX12_oscillators_3 ?_
  refine mu_iconst (v := mI 0) B dX12_oscillators_4 rfl ?_
  refine mu_bipush (v := mI 12) B dX12_oscillators_5 (by decide) ?_
  refine mu_eV5 B dX12_oscillators_7 mX12_285 ⟨⟨by decide, by decide⟩, by decide, by decide⟩ (Nat.le_of_ble_eq_true rfl) (by assumption) (c_X12_refused G hm hru hsr.2.1 hsr.1 hz hx hy (mo := 0) (mx := 12) (by decide) (by decide)) ?_
  refine mu_is_5 B dX12_oscillators_10 (by decide) rfl ?_
  refine mu_il_5 B dX12_oscillators_12 ?_
  refine mu_iconst (v := mI (-1)) B dX12_oscillators_14 rfl ?_
  refine mu_icmp_eq (tgt := 31) B dX12_oscillators_15 (by decide) (fun c15 => ?_) (fun c15 => ?_)
  · try rw [mI_eq ⟨by omega, by omega⟩ ⟨by omega, by omega⟩] at c15
    refine mu_iconst (v := mI (-1)) B dX12_oscillators_31 rfl ?_
    refine mu_iret E rfl (by decide) (by decide) dX12_oscillators_32 ?_
    first
      | have hav : os_v nr rs sr z x y o = -1 := by unfold os_v; rw [if_pos (Or.inl c15)]
        exact ⟨fun _ => ⟨by rw [hav], rfl⟩, fun hh => absurd hh (by rw [hav]; decide)⟩
      | have hav : os_v nr rs sr (k : Int) (R : Int) (C : Int) o = -1 := by unfold os_v; rw [if_pos (Or.inr (by omega))]
        exact ⟨fun _ => ⟨by rw [hav], rfl⟩, fun hh => absurd hh (by rw [hav]; decide)⟩
  · try rw [mI_eq ⟨by omega, by omega⟩ ⟨by omega, by omega⟩] at c15
    obtain ⟨hz9, hft⟩ := rf_ne c15
    obtain ⟨hx9, hy9, hm9⟩ := id hft
    obtain ⟨k, hk⟩ : ∃ k : Nat, z = k := ⟨z.toNat, by omega⟩
    subst hk
    obtain ⟨R, hR⟩ : ∃ k : Nat, x = k := ⟨x.toNat, by omega⟩
    subst hR
    obtain ⟨C, hC⟩ : ∃ k : Nat, y = k := ⟨y.toNat, by omega⟩
    subst hC
    rw [Int.toNat_natCast, Int.toNat_natCast] at hm9
    have hRC : R * C ≤ 12 := hm9
    have hpw0 : 0 < 2 ^ (R * C) := Nat.two_pow_pos _
    have hk : k < nr := by omega
    have hpw := pw16 (show R * C ≤ 16 by omega)
    have h16 : (R + 4 - 2 * 2) * (C + 4 - 2 * 2) ≤ 16 := by rw [show R + 4 - 2 * 2 = R by omega, show C + 4 - 2 * 2 = C by omega]; omega
    refine mu_il_4 B dX12_oscillators_18 ?_
    refine mu_iconst (v := mI 2) B dX12_oscillators_20 rfl ?_
    refine mu_icmp_lt (tgt := 31) B dX12_oscillators_21 (by decide) (fun c21 => ?_) (fun c21 => ?_)
    · try rw [mI_lt ⟨by omega, by omega⟩ ⟨by omega, by omega⟩] at c21
      refine mu_iconst (v := mI (-1)) B dX12_oscillators_31 rfl ?_
      refine mu_iret E rfl (by decide) (by decide) dX12_oscillators_32 ?_
      first
        | have hav : os_v nr rs sr z x y o = -1 := by unfold os_v; rw [if_pos (Or.inl c15)]
          exact ⟨fun _ => ⟨by rw [hav], rfl⟩, fun hh => absurd hh (by rw [hav]; decide)⟩
        | have hav : os_v nr rs sr (k : Int) (R : Int) (C : Int) o = -1 := by unfold os_v; rw [if_pos (Or.inr (by omega))]
          exact ⟨fun _ => ⟨by rw [hav], rfl⟩, fun hh => absurd hh (by rw [hav]; decide)⟩
    · try rw [mI_lt ⟨by omega, by omega⟩ ⟨by omega, by omega⟩] at c21
      refine mu_il_4 B dX12_oscillators_24 ?_
      refine mu_bipush (v := mI 6) B dX12_oscillators_26 (by decide) ?_
      refine mu_icmp_le (tgt := 33) B dX12_oscillators_28 (by decide) (fun c28 => ?_) (fun c28 => ?_)
      · try rw [mI_le ⟨by omega, by omega⟩ ⟨by omega, by omega⟩] at c28
        refine mu_il_5 B dX12_oscillators_33 ?_
        refine mu_if_ge (tgt := 41) B dX12_oscillators_35 (by decide) (fun c35 => ?_) (fun c35 => ?_)
        · try rw [mI_ge0 ⟨by omega, by omega⟩] at c35
          refine mu_al_0 B dX12_oscillators_41 ?_
          refine mu_iconst (v := mI 0) B dX12_oscillators_42 rfl ?_
          refine mu_putI B dX12_oscillators_43 fX12_282 fwX12_43 rfl (by assumption) ?_
          refine mu_iconst (v := mI 0) B dX12_oscillators_46 rfl ?_
          refine mu_is_6 B dX12_oscillators_47 (by decide) rfl ?_
          rw [Int.toNat_natCast, Int.toNat_natCast, Int.toNat_natCast]
          have hq9 : sp_quiet (rs k) := by have := (rf_zero (show rf_v nr rs sr (k : Int) (R : Int) (C : Int) 0 12 = 0 by omega)).2.2.1; rw [Int.toNat_natCast] at this; exact this
          have hs9 := (rf_zero (show rf_v nr rs sr (k : Int) (R : Int) (C : Int) 0 12 = 0 by omega)).2.2.2
          obtain ⟨n, hn⟩ : ∃ n : Nat, o = n := ⟨o.toNat, by omega⟩
          subst hn
          rw [Int.toNat_natCast]
          have hav : os_v nr rs sr (k : Int) (R : Int) (C : Int) (n : Int) = 0 := by rw [os_zero (by omega)]; omega
          have LO : ∀ v5 : Int32, ∀ p (s : mu_W), p ≤ 2 ^ (R * C) → (mu_Fi (sr_S m) w s ∧ mu_iv s m 42 = mI sr ∧ FDR s m (os_P (rs k) R C n) p) → mu_WA X G 11 (mu_Q X G M_X12_oscillators (ss_all w m sr (os_v nr rs sr (k : Int) (R : Int) (C : Int) n) (os_P (rs k) R C n))) s 0 0 49 [.ref m, .int (mI k), .int (mI R), .int (mI C), .int (mI n), .int v5, .int (mI p), mu_no, mu_no, mu_no, mu_no] [] := by
            intro v5
            refine mu_ind (2 ^ (R * C)) (fun p (s : mu_W) => mu_WA X G 11 (mu_Q X G M_X12_oscillators (ss_all w m sr (os_v nr rs sr (k : Int) (R : Int) (C : Int) n) (os_P (rs k) R C n))) s 0 0 49 [.ref m, .int (mI k), .int (mI R), .int (mI C), .int (mI n), .int v5, .int (mI p), mu_no, mu_no, mu_no, mu_no] []) (fun p (s : mu_W) => mu_Fi (sr_S m) w s ∧ mu_iv s m 42 = mI sr ∧ FDR s m (os_P (rs k) R C n) p) ?_
            rintro p w1 hp ⟨hF, h42, hfd⟩ ih
            have hm1 := hm.fi hF
            have hk1 := hm1.1
            refine mu_il_6 B dX12_oscillators_49 ?_
            refine mu_iconst (v := mI 1) B dX12_oscillators_51 rfl ?_
            refine mu_il_2 B dX12_oscillators_52 ?_
            refine mu_il_3 B dX12_oscillators_53 ?_
            refine mu_imul B dX12_oscillators_54 ?_
            try rw [mI_mul]
            try rw [mI_mul]
            rw [← Int.natCast_mul]
            refine mu_ishl B dX12_oscillators_55 ?_
            rw [mI_shl _ _ (by omega), Int.one_mul]
            rw [show (2 : Int) ^ (R * C) = ((2 ^ (R * C) : Nat) : Int) by rw [Int.natCast_pow]; rfl]
            refine mu_icmp_ge (tgt := 157) B dX12_oscillators_56 (by decide) (fun c56 => ?_) (fun c56 => ?_)
            · try rw [mI_le ⟨by omega, by omega⟩ ⟨by omega, by omega⟩] at c56
              obtain rfl : 2 ^ (R * C) = p := by omega
              refine mu_al_0 B dX12_oscillators_157 ?_
              refine mu_cV0 B dX12_oscillators_158 mX12_302 ⟨⟨by decide, by decide⟩, by decide, by decide⟩ (Nat.le_of_ble_eq_true rfl) (by assumption) (c_X12_done G hm1 h42 hfd.1) (fun r158 w158 q158 => ?_)
              obtain ⟨rfl, rfl⟩ := q158
              show mu_WA X G 11 _ _ 0 0 161 _ [.int (mI (en_c (os_P (rs k) R C n) (2 ^ (R * C)) : Int))]
              refine mu_iret E rfl (by decide) (by decide) dX12_oscillators_161 ?_
              have hfa := hfd.all (fun j hj hh => by have := hh.1; omega) (by omega)
              refine ⟨fun hh => absurd hh (by omega), fun _ => ⟨?_, hF.si (Or.inl ⟨rfl, Or.inr (Or.inr (Or.inl rfl))⟩), by omega, mu_iv_same _ _ _ _, (mu_iv_oth _ _ (by omega)).trans hfa.1, fun j hj hp => (mu_iv_oth _ _ (by omega)).trans (hfa.2 j hj hp)⟩⟩
              have e9 := hfd.1.symm.trans hfa.1
              rw [e9]
            · try rw [mI_le ⟨by omega, by omega⟩ ⟨by omega, by omega⟩] at c56
              have hp9 : p < 2 ^ (R * C) := by omega
              refine mu_al_0 B dX12_oscillators_59 ?_
              refine mu_il_2 B dX12_oscillators_60 ?_
              refine mu_il_3 B dX12_oscillators_61 ?_
              refine mu_il_6 B dX12_oscillators_62 ?_
              refine mu_cV3 B dX12_oscillators_64 mX12_289 ⟨⟨by decide, by decide⟩, by decide, by decide⟩ (Nat.le_of_ble_eq_true rfl) (by assumption) (c_X12_lay G hm1 (R := R) (C := C) (p := p) (by omega) (by omega) (by omega) (by omega)) (fun r64 w64 q64 => ?_)
              obtain ⟨rfl, hF2, hW2, hB2⟩ := q64
              have hFa := hF.trans (sm_sr hF2)
              have hm2 := hm.fi hFa
              have hk2 := hm2.1
              have hru2 := sr_ru hru hFa
              show mu_WA X G 11 _ w64 0 0 67 _ []
              refine mu_iconst (v := mI 0) B dX12_oscillators_67 rfl ?_
              refine mu_is_7 B dX12_oscillators_68 (by decide) rfl ?_
              refine mu_iconst (v := mI 1) B dX12_oscillators_70 rfl ?_
              refine mu_is_8 B dX12_oscillators_71 (by decide) rfl ?_
              refine mu_iconst (v := mI 1) B dX12_oscillators_73 rfl ?_
              refine mu_is_9 B dX12_oscillators_74 (by decide) rfl ?_
              have K138 : ∀ (s : mu_W) (f : Int) (u8 u9 u10 : Value), (mu_Fi (sr_S m) w s ∧ mu_iv s m 42 = mI sr ∧ FDR s m (os_P (rs k) R C n) p) → (0 ≤ f ∧ f ≤ 10) → (f = n ↔ os_P (rs k) R C n p) → mu_WA X G 11 (mu_Q X G M_X12_oscillators (ss_all w m sr (os_v nr rs sr (k : Int) (R : Int) (C : Int) n) (os_P (rs k) R C n))) s 0 0 138 [.ref m, .int (mI k), .int (mI R), .int (mI C), .int (mI n), .int v5, .int (mI p), .int (mI f), u8, u9, u10] [] := by
                rintro s f u8 u9 u10 ⟨hF, h42, hfd⟩ hf hiff
                have hm3 := hm.fi hF
                have hk3 := hm3.1
                have hen := en_le (os_P (rs k) R C n) p
                refine mu_il_7 B dX12_oscillators_138 ?_
                refine mu_il_4 B dX12_oscillators_140 ?_
                refine mu_icmp_ne (tgt := 151) B dX12_oscillators_142 (by decide) (fun c142 => ?_) (fun c142 => ?_)
                · try rw [mI_eq ⟨by omega, by omega⟩ ⟨by omega, by omega⟩] at c142
                  have hPp : ¬ os_P (rs k) R C n p := fun hh => absurd (hiff.mpr hh) (by omega)
                  refine mu_inc_6 (c := mI 1) B dX12_oscillators_151 rfl (by decide) rfl ?_
                  try rw [mI_add]
                  refine mu_goto (tgt := 49) B dX12_oscillators_154 (by decide) ?_
                  first
                    | refine mu_fg (ih _ (by omega) ⟨(hF.si (Or.inr ⟨by omega, by omega⟩)).si (Or.inl ⟨rfl, Or.inr (Or.inr (Or.inr rfl))⟩), ?_, hfd.hit hPp⟩) rfl (by rw [show ((p + 1 : Nat) : Int) = (p : Int) + 1 by omega]; exact ⟨Or.inl rfl, Or.inl rfl, Or.inl rfl, Or.inl rfl, Or.inl rfl, Or.inl rfl, Or.inl rfl, Or.inr rfl, Or.inr rfl, Or.inr rfl, Or.inr rfl, trivial⟩)
                    | refine mu_fg (ih _ (by omega) ⟨hF, ?_, hfd.miss hPp⟩) rfl (by rw [show ((p + 1 : Nat) : Int) = (p : Int) + 1 by omega]; exact ⟨Or.inl rfl, Or.inl rfl, Or.inl rfl, Or.inl rfl, Or.inl rfl, Or.inl rfl, Or.inl rfl, Or.inr rfl, Or.inr rfl, Or.inr rfl, Or.inr rfl, trivial⟩)
                  first | rw [mu_iv_oth _ _ (by omega), mu_iv_oth _ _ (by omega)] | skip
                  exact h42
                · try rw [mI_eq ⟨by omega, by omega⟩ ⟨by omega, by omega⟩] at c142
                  have hPp : os_P (rs k) R C n p := hiff.mp (by omega)
                  refine mu_al_0 B dX12_oscillators_145 ?_
                  refine mu_il_6 B dX12_oscillators_146 ?_
                  refine mu_cV1 B dX12_oscillators_148 mX12_299 ⟨⟨by decide, by decide⟩, by decide, by decide⟩ (Nat.le_of_ble_eq_true rfl) (by assumption) (c_X12_finds G hm3 hfd.1 (by omega)) (fun r148 w148 q148 => ?_)
                  obtain ⟨rfl, rfl⟩ := q148
                  show mu_WA X G 11 _ _ 0 0 151 _ []
                  refine mu_inc_6 (c := mI 1) B dX12_oscillators_151 rfl (by decide) rfl ?_
                  try rw [mI_add]
                  refine mu_goto (tgt := 49) B dX12_oscillators_154 (by decide) ?_
                  first
                    | refine mu_fg (ih _ (by omega) ⟨(hF.si (Or.inr ⟨by omega, by omega⟩)).si (Or.inl ⟨rfl, Or.inr (Or.inr (Or.inr rfl))⟩), ?_, hfd.hit hPp⟩) rfl (by rw [show ((p + 1 : Nat) : Int) = (p : Int) + 1 by omega]; exact ⟨Or.inl rfl, Or.inl rfl, Or.inl rfl, Or.inl rfl, Or.inl rfl, Or.inl rfl, Or.inl rfl, Or.inr rfl, Or.inr rfl, Or.inr rfl, Or.inr rfl, trivial⟩)
                    | refine mu_fg (ih _ (by omega) ⟨hF, ?_, hfd.miss hPp⟩) rfl (by rw [show ((p + 1 : Nat) : Int) = (p : Int) + 1 by omega]; exact ⟨Or.inl rfl, Or.inl rfl, Or.inl rfl, Or.inl rfl, Or.inl rfl, Or.inl rfl, Or.inl rfl, Or.inr rfl, Or.inr rfl, Or.inr rfl, Or.inr rfl, trivial⟩)
                  first | rw [mu_iv_oth _ _ (by omega), mu_iv_oth _ _ (by omega)] | skip
                  exact h42
              have T76 : ∀ (s : mu_W) (f g : Int) (j : Nat) (u10 : Value), (mu_Fi (sr_S m) w s ∧ mu_iv s m 42 = mI sr ∧ FDR s m (os_P (rs k) R C n) p) → (0 ≤ f ∧ f ≤ 10) → (f = n ↔ os_P (rs k) R C n p) → j ≤ 10 → ((g = 0) ∨ (g = 1 ∧ f ≠ 0)) → mu_WA X G 11 (mu_Q X G M_X12_oscillators (ss_all w m sr (os_v nr rs sr (k : Int) (R : Int) (C : Int) n) (os_P (rs k) R C n))) s 0 0 76 [.ref m, .int (mI k), .int (mI R), .int (mI C), .int (mI n), .int v5, .int (mI p), .int (mI f), .int (mI g), .int (mI j), u10] [] := by
                rintro s f g j u10 hS9 hf hiff hj hg
                refine mu_il_9 B dX12_oscillators_76 ?_
                refine mu_il_4 B dX12_oscillators_78 ?_
                refine mu_icmp_gt (tgt := 138) B dX12_oscillators_80 (by decide) (fun c80 => ?_) (fun c80 => ?_)
                · try rw [mI_lt ⟨by omega, by omega⟩ ⟨by omega, by omega⟩] at c80
                  exact K138 _ _ _ _ _ hS9 hf hiff
                · try rw [mI_lt ⟨by omega, by omega⟩ ⟨by omega, by omega⟩] at c80
                  refine mu_il_8 B dX12_oscillators_83 ?_
                  refine mu_if_eq (tgt := 138) B dX12_oscillators_85 (by decide) (fun c85 => ?_) (fun c85 => ?_)
                  · try rw [mI_eq0 ⟨by omega, by omega⟩] at c85
                    exact K138 _ _ _ _ _ hS9 hf hiff
                  · try rw [mI_eq0 ⟨by omega, by omega⟩] at c85
                    refine mu_il_7 B dX12_oscillators_88 ?_
                    refine mu_if_ne (tgt := 138) B dX12_oscillators_90 (by decide) (fun c90 => ?_) (fun c90 => ?_)
                    · try rw [mI_eq0 ⟨by omega, by omega⟩] at c90
                      exact K138 _ _ _ _ _ hS9 hf hiff
                    · try rw [mI_eq0 ⟨by omega, by omega⟩] at c90
                      exfalso
                      omega
              have LT : ∀ t (s : mu_W), t ≤ n → ((mu_Fi (sr_S m) w s ∧ mu_iv s m 42 = mI sr ∧ FDR s m (os_P (rs k) R C n) p) ∧ SmW s m (C + 4) (R + 4) ∧ Bd s (m + 23) 400 0 (C + 4) (R + 4) (os_c (rs k) R C p t) ∧ ∀ i, 1 ≤ i → i ≤ t → ∃ q : Int, PAT (C + 4) (R + 4) 2 (os_c (rs k) R C p i) q ∧ 0 ≤ q ∧ q ≠ p) → mu_WA X G 11 (mu_Q X G M_X12_oscillators (ss_all w m sr (os_v nr rs sr (k : Int) (R : Int) (C : Int) n) (os_P (rs k) R C n))) s 0 0 76 [.ref m, .int (mI k), .int (mI R), .int (mI C), .int (mI n), .int v5, .int (mI p), .int (mI 0), .int (mI 1), .int (mI ((t : Int) + 1)), mu_no] [] := by
                refine mu_ind (n) (fun t (s : mu_W) => mu_WA X G 11 (mu_Q X G M_X12_oscillators (ss_all w m sr (os_v nr rs sr (k : Int) (R : Int) (C : Int) n) (os_P (rs k) R C n))) s 0 0 76 [.ref m, .int (mI k), .int (mI R), .int (mI C), .int (mI n), .int v5, .int (mI p), .int (mI 0), .int (mI 1), .int (mI ((t : Int) + 1)), mu_no] []) (fun t (s : mu_W) => (mu_Fi (sr_S m) w s ∧ mu_iv s m 42 = mI sr ∧ FDR s m (os_P (rs k) R C n) p) ∧ SmW s m (C + 4) (R + 4) ∧ Bd s (m + 23) 400 0 (C + 4) (R + 4) (os_c (rs k) R C p t) ∧ ∀ i, 1 ≤ i → i ≤ t → ∃ q : Int, PAT (C + 4) (R + 4) 2 (os_c (rs k) R C p i) q ∧ 0 ≤ q ∧ q ≠ p) ?_
                rintro t w1 ht ⟨⟨hF, h42, hfd⟩, hW2, hB2, hall⟩ iht
                have hm1 := hm.fi hF
                have hk1 := hm1.1
                have hru1 := sr_ru hru hF
                refine mu_il_9 B dX12_oscillators_76 ?_
                refine mu_il_4 B dX12_oscillators_78 ?_
                refine mu_icmp_gt (tgt := 138) B dX12_oscillators_80 (by decide) (fun c80 => ?_) (fun c80 => ?_)
                · try rw [mI_lt ⟨by omega, by omega⟩ ⟨by omega, by omega⟩] at c80
                  obtain rfl : n = t := by omega
                  refine K138 _ 0 _ _ _ ⟨hF, h42, hfd⟩ (by omega) ⟨fun hh => absurd hh (by omega), fun hh => ?_⟩
                  exfalso
                  obtain ⟨q, hq1, hq2, hq3⟩ := hall n (by omega) (Nat.le_refl _)
                  exact hq3 (hq1.uniq hh.2.2)
                · try rw [mI_lt ⟨by omega, by omega⟩ ⟨by omega, by omega⟩] at c80
                  refine mu_il_8 B dX12_oscillators_83 ?_
                  refine mu_if_eq (tgt := 138) B dX12_oscillators_85 (by decide) (fun c85 => ?_) (fun c85 => ?_)
                  · exact absurd c85 (by decide)
                  · refine mu_il_7 B dX12_oscillators_88 ?_
                    refine mu_if_ne (tgt := 138) B dX12_oscillators_90 (by decide) (fun c90 => ?_) (fun c90 => ?_)
                    · exact absurd rfl c90
                    · refine mu_al_0 B dX12_oscillators_93 ?_
                      refine mu_il_1 B dX12_oscillators_94 ?_
                      refine mu_cV1 B dX12_oscillators_95 mX12_293 ⟨⟨by decide, by decide⟩, by decide, by decide⟩ (Nat.le_of_ble_eq_true rfl) (by assumption) (c_X12_smallStep G hm1 hru1 hk hq9.1 hW2 hB2 ⟨by omega, by omega⟩) (fun r95 w95 q95 => ?_)
                      obtain ⟨rfl, hF3, hW3, hB3⟩ := q95
                      have hFb := hF.trans (sm_sr hF3)
                      have hm3 := hm.fi hFb
                      have hk3 := hm3.1
                      have hfd3 := hfd.fi hF3 (by unfold sm_S; omega) (fun j => by unfold sm_S; omega)
                      have h42b := hF3.iv (by unfold sm_S; omega) h42
                      show mu_WA X G 11 _ w95 0 0 98 _ []
                      refine mu_al_0 B dX12_oscillators_98 ?_
                      refine mu_iconst (v := mI 2) B dX12_oscillators_99 rfl ?_
                      refine mu_cV1 B dX12_oscillators_100 mX12_296 ⟨⟨by decide, by decide⟩, by decide, by decide⟩ (Nat.le_of_ble_eq_true rfl) (by assumption) (c_X12_pattern G hm3 (rim := 2) hW3 hB3 (by omega) (by omega) h16) (fun r100 w100 q100 => ?_)
                      obtain ⟨rfl, q, rfl, hpat⟩ := q100
                      have hqb := hpat.bd h16
                      show mu_WA X G 11 _ _ 0 0 103 _ [.int (mI q)]
                      refine mu_is_10 B dX12_oscillators_103 (by decide) rfl ?_
                      refine mu_il_10 B dX12_oscillators_105 ?_
                      refine mu_if_lt (tgt := 114) B dX12_oscillators_107 (by decide) (fun c107 => ?_) (fun c107 => ?_)
                      · try rw [mI_lt0 ⟨by omega, by omega⟩] at c107
                        refine mu_iconst (v := mI 0) B dX12_oscillators_114 rfl ?_
                        refine mu_is_8 B dX12_oscillators_115 (by decide) rfl ?_
                        refine mu_il_10 B dX12_oscillators_117 ?_
                        refine mu_il_6 B dX12_oscillators_119 ?_
                        refine mu_icmp_ne (tgt := 129) B dX12_oscillators_121 (by decide) (fun c121 => ?_) (fun c121 => ?_)
                        · try rw [mI_eq ⟨by omega, by omega⟩ ⟨by omega, by omega⟩] at c121
                          refine mu_iconst (v := mI 0) B dX12_oscillators_129 rfl ?_
                          refine mu_is_7 B dX12_oscillators_130 (by decide) rfl ?_
                          refine mu_inc_9 (c := mI 1) B dX12_oscillators_132 rfl (by decide) rfl ?_
                          try rw [mI_add]
                          refine mu_goto (tgt := 76) B dX12_oscillators_135 (by decide) ?_
                          first
                            | exfalso
                              omega
                            | have hqp : q = p := by omega
                              refine mu_to (T76 _ ((t + 1 : Nat) : Int) 1 (t + 2) (.int (mI q)) ⟨hFb, h42b, hfd3⟩ (by omega) ⟨fun hh => ⟨hp9, fun i h1 h2 => hall i h1 (by omega), by rw [hqp] at hpat; rw [← show t + 1 = n by omega]; exact hpat⟩, fun hh => ?_⟩ (by omega) (Or.inr ⟨rfl, by omega⟩)) rfl ?_
                              · by_cases e9 : t + 1 < n
                                · obtain ⟨q8, g1, g2, g3⟩ := hh.2.1 (t + 1) (by omega) e9
                                  exact absurd ((g1.uniq hpat).trans hqp) g3
                                · omega
                              · rw [show ((t + 2 : Nat) : Int) = (t : Int) + 1 + 1 by omega]
                                rfl
                            | have hqn : q < 0 := by omega
                              refine mu_to (T76 _ 0 0 (t + 2) (.int (mI q)) ⟨hFb, h42b, hfd3⟩ (by omega) ⟨fun hh => absurd hh (by omega), fun hh => ?_⟩ (by omega) (Or.inl rfl)) rfl ?_
                              · exfalso
                                by_cases e9 : t + 1 < n
                                · obtain ⟨q8, g1, g2, g3⟩ := hh.2.1 (t + 1) (by omega) e9
                                  have := g1.uniq hpat
                                  omega
                                · have e8 : n = t + 1 := by omega
                                  have := hh.2.2
                                  rw [e8] at this
                                  have := this.uniq hpat
                                  omega
                              · rw [show ((t + 2 : Nat) : Int) = (t : Int) + 1 + 1 by omega]
                            | refine mu_fg (iht _ (by omega) ⟨⟨hFb, h42b, hfd3⟩, hW3, hB3, fun i h1 h2 => ?_⟩) rfl ?_
                              · by_cases e9 : i = t + 1
                                · rw [e9]; exact ⟨q, hpat, by omega, by omega⟩
                                · exact hall i h1 (by omega)
                              · rw [show ((t + 1 : Nat) : Int) + 1 = (t : Int) + 1 + 1 by omega]; exact ⟨Or.inl rfl, Or.inl rfl, Or.inl rfl, Or.inl rfl, Or.inl rfl, Or.inl rfl, Or.inl rfl, Or.inl rfl, Or.inl rfl, Or.inl rfl, Or.inr rfl, trivial⟩
                        · try rw [mI_eq ⟨by omega, by omega⟩ ⟨by omega, by omega⟩] at c121
                          refine mu_il_9 B dX12_oscillators_124 ?_
                          refine mu_goto (tgt := 130) B dX12_oscillators_126 (by decide) ?_
                          refine mu_is_7 B dX12_oscillators_130 (by decide) rfl ?_
                          refine mu_inc_9 (c := mI 1) B dX12_oscillators_132 rfl (by decide) rfl ?_
                          try rw [mI_add]
                          refine mu_goto (tgt := 76) B dX12_oscillators_135 (by decide) ?_
                          first
                            | exfalso
                              omega
                            | have hqp : q = p := by omega
                              refine mu_to (T76 _ ((t + 1 : Nat) : Int) 1 (t + 2) (.int (mI q)) ⟨hFb, h42b, hfd3⟩ (by omega) ⟨fun hh => ⟨hp9, fun i h1 h2 => hall i h1 (by omega), by rw [hqp] at hpat; rw [← show t + 1 = n by omega]; exact hpat⟩, fun hh => ?_⟩ (by omega) (Or.inr ⟨rfl, by omega⟩)) rfl ?_
                              · by_cases e9 : t + 1 < n
                                · obtain ⟨q8, g1, g2, g3⟩ := hh.2.1 (t + 1) (by omega) e9
                                  exact absurd ((g1.uniq hpat).trans hqp) g3
                                · omega
                              · rw [show ((t + 2 : Nat) : Int) = (t : Int) + 1 + 1 by omega]
                                rfl
                            | have hqn : q < 0 := by omega
                              refine mu_to (T76 _ 0 0 (t + 2) (.int (mI q)) ⟨hFb, h42b, hfd3⟩ (by omega) ⟨fun hh => absurd hh (by omega), fun hh => ?_⟩ (by omega) (Or.inl rfl)) rfl ?_
                              · exfalso
                                by_cases e9 : t + 1 < n
                                · obtain ⟨q8, g1, g2, g3⟩ := hh.2.1 (t + 1) (by omega) e9
                                  have := g1.uniq hpat
                                  omega
                                · have e8 : n = t + 1 := by omega
                                  have := hh.2.2
                                  rw [e8] at this
                                  have := this.uniq hpat
                                  omega
                              · rw [show ((t + 2 : Nat) : Int) = (t : Int) + 1 + 1 by omega]
                            | refine mu_fg (iht _ (by omega) ⟨⟨hFb, h42b, hfd3⟩, hW3, hB3, fun i h1 h2 => ?_⟩) rfl ?_
                              · by_cases e9 : i = t + 1
                                · rw [e9]; exact ⟨q, hpat, by omega, by omega⟩
                                · exact hall i h1 (by omega)
                              · rw [show ((t + 1 : Nat) : Int) + 1 = (t : Int) + 1 + 1 by omega]; exact ⟨Or.inl rfl, Or.inl rfl, Or.inl rfl, Or.inl rfl, Or.inl rfl, Or.inl rfl, Or.inl rfl, Or.inl rfl, Or.inl rfl, Or.inl rfl, Or.inr rfl, trivial⟩
                      · try rw [mI_lt0 ⟨by omega, by omega⟩] at c107
                        refine mu_iconst (v := mI 1) B dX12_oscillators_110 rfl ?_
                        refine mu_goto (tgt := 115) B dX12_oscillators_111 (by decide) ?_
                        refine mu_is_8 B dX12_oscillators_115 (by decide) rfl ?_
                        refine mu_il_10 B dX12_oscillators_117 ?_
                        refine mu_il_6 B dX12_oscillators_119 ?_
                        refine mu_icmp_ne (tgt := 129) B dX12_oscillators_121 (by decide) (fun c121 => ?_) (fun c121 => ?_)
                        · try rw [mI_eq ⟨by omega, by omega⟩ ⟨by omega, by omega⟩] at c121
                          refine mu_iconst (v := mI 0) B dX12_oscillators_129 rfl ?_
                          refine mu_is_7 B dX12_oscillators_130 (by decide) rfl ?_
                          refine mu_inc_9 (c := mI 1) B dX12_oscillators_132 rfl (by decide) rfl ?_
                          try rw [mI_add]
                          refine mu_goto (tgt := 76) B dX12_oscillators_135 (by decide) ?_
                          first
                            | exfalso
                              omega
                            | have hqp : q = p := by omega
                              refine mu_to (T76 _ ((t + 1 : Nat) : Int) 1 (t + 2) (.int (mI q)) ⟨hFb, h42b, hfd3⟩ (by omega) ⟨fun hh => ⟨hp9, fun i h1 h2 => hall i h1 (by omega), by rw [hqp] at hpat; rw [← show t + 1 = n by omega]; exact hpat⟩, fun hh => ?_⟩ (by omega) (Or.inr ⟨rfl, by omega⟩)) rfl ?_
                              · by_cases e9 : t + 1 < n
                                · obtain ⟨q8, g1, g2, g3⟩ := hh.2.1 (t + 1) (by omega) e9
                                  exact absurd ((g1.uniq hpat).trans hqp) g3
                                · omega
                              · rw [show ((t + 2 : Nat) : Int) = (t : Int) + 1 + 1 by omega]
                                rfl
                            | have hqn : q < 0 := by omega
                              refine mu_to (T76 _ 0 0 (t + 2) (.int (mI q)) ⟨hFb, h42b, hfd3⟩ (by omega) ⟨fun hh => absurd hh (by omega), fun hh => ?_⟩ (by omega) (Or.inl rfl)) rfl ?_
                              · exfalso
                                by_cases e9 : t + 1 < n
                                · obtain ⟨q8, g1, g2, g3⟩ := hh.2.1 (t + 1) (by omega) e9
                                  have := g1.uniq hpat
                                  omega
                                · have e8 : n = t + 1 := by omega
                                  have := hh.2.2
                                  rw [e8] at this
                                  have := this.uniq hpat
                                  omega
                              · rw [show ((t + 2 : Nat) : Int) = (t : Int) + 1 + 1 by omega]
                            | refine mu_fg (iht _ (by omega) ⟨⟨hFb, h42b, hfd3⟩, hW3, hB3, fun i h1 h2 => ?_⟩) rfl ?_
                              · by_cases e9 : i = t + 1
                                · rw [e9]; exact ⟨q, hpat, by omega, by omega⟩
                                · exact hall i h1 (by omega)
                              · rw [show ((t + 1 : Nat) : Int) + 1 = (t : Int) + 1 + 1 by omega]; exact ⟨Or.inl rfl, Or.inl rfl, Or.inl rfl, Or.inl rfl, Or.inl rfl, Or.inl rfl, Or.inl rfl, Or.inl rfl, Or.inl rfl, Or.inl rfl, Or.inr rfl, trivial⟩
                        · try rw [mI_eq ⟨by omega, by omega⟩ ⟨by omega, by omega⟩] at c121
                          refine mu_il_9 B dX12_oscillators_124 ?_
                          refine mu_goto (tgt := 130) B dX12_oscillators_126 (by decide) ?_
                          refine mu_is_7 B dX12_oscillators_130 (by decide) rfl ?_
                          refine mu_inc_9 (c := mI 1) B dX12_oscillators_132 rfl (by decide) rfl ?_
                          try rw [mI_add]
                          refine mu_goto (tgt := 76) B dX12_oscillators_135 (by decide) ?_
                          first
                            | exfalso
                              omega
                            | have hqp : q = p := by omega
                              refine mu_to (T76 _ ((t + 1 : Nat) : Int) 1 (t + 2) (.int (mI q)) ⟨hFb, h42b, hfd3⟩ (by omega) ⟨fun hh => ⟨hp9, fun i h1 h2 => hall i h1 (by omega), by rw [hqp] at hpat; rw [← show t + 1 = n by omega]; exact hpat⟩, fun hh => ?_⟩ (by omega) (Or.inr ⟨rfl, by omega⟩)) rfl ?_
                              · by_cases e9 : t + 1 < n
                                · obtain ⟨q8, g1, g2, g3⟩ := hh.2.1 (t + 1) (by omega) e9
                                  exact absurd ((g1.uniq hpat).trans hqp) g3
                                · omega
                              · rw [show ((t + 2 : Nat) : Int) = (t : Int) + 1 + 1 by omega]
                                rfl
                            | have hqn : q < 0 := by omega
                              refine mu_to (T76 _ 0 0 (t + 2) (.int (mI q)) ⟨hFb, h42b, hfd3⟩ (by omega) ⟨fun hh => absurd hh (by omega), fun hh => ?_⟩ (by omega) (Or.inl rfl)) rfl ?_
                              · exfalso
                                by_cases e9 : t + 1 < n
                                · obtain ⟨q8, g1, g2, g3⟩ := hh.2.1 (t + 1) (by omega) e9
                                  have := g1.uniq hpat
                                  omega
                                · have e8 : n = t + 1 := by omega
                                  have := hh.2.2
                                  rw [e8] at this
                                  have := this.uniq hpat
                                  omega
                              · rw [show ((t + 2 : Nat) : Int) = (t : Int) + 1 + 1 by omega]
                            | refine mu_fg (iht _ (by omega) ⟨⟨hFb, h42b, hfd3⟩, hW3, hB3, fun i h1 h2 => ?_⟩) rfl ?_
                              · by_cases e9 : i = t + 1
                                · rw [e9]; exact ⟨q, hpat, by omega, by omega⟩
                                · exact hall i h1 (by omega)
                              · rw [show ((t + 1 : Nat) : Int) + 1 = (t : Int) + 1 + 1 by omega]; exact ⟨Or.inl rfl, Or.inl rfl, Or.inl rfl, Or.inl rfl, Or.inl rfl, Or.inl rfl, Or.inl rfl, Or.inl rfl, Or.inl rfl, Or.inl rfl, Or.inr rfl, trivial⟩
              refine mu_fg (LT 0 _ (Nat.zero_le _) ⟨⟨hFa, hF2.iv (by unfold sm_S; omega) h42, hfd.fi hF2 (by unfold sm_S; omega) (fun j => by unfold sm_S; omega)⟩, hW2, hB2, fun i h1 h2 => absurd h1 (by omega)⟩) rfl (⟨Or.inl rfl, Or.inl rfl, Or.inl rfl, Or.inl rfl, Or.inl rfl, Or.inl rfl, Or.inl rfl, Or.inl rfl, Or.inl rfl, Or.inl rfl, Or.inr rfl, trivial⟩)
          exact mu_fg (LO _ 0 _ (Nat.zero_le _) ⟨(mu_Fi.refl _).si (Or.inl ⟨rfl, Or.inr (Or.inr (Or.inr rfl))⟩), (mu_iv_oth _ _ (by omega)).trans hsr.2.1, by rw [en_c, mu_iv_same]; rfl, fun j hj => absurd hj (Nat.not_lt_zero j)⟩) rfl (⟨Or.inl rfl, Or.inl rfl, Or.inl rfl, Or.inl rfl, Or.inl rfl, Or.inl rfl, Or.inl rfl, Or.inr rfl, Or.inr rfl, Or.inr rfl, Or.inr rfl, trivial⟩)
        · try rw [mI_ge0 ⟨by omega, by omega⟩] at c35
          refine mu_il_5 B dX12_oscillators_38 ?_
          refine mu_iret E rfl (by decide) (by decide) dX12_oscillators_40 ?_
          have hav : os_v nr rs sr (k : Int) (R : Int) (C : Int) o = rf_v nr rs sr (k : Int) (R : Int) (C : Int) 0 12 := os_zero (by omega)
          exact ⟨fun _ => ⟨by rw [hav], rfl⟩, fun hh => absurd hh (by omega)⟩
      · try rw [mI_le ⟨by omega, by omega⟩ ⟨by omega, by omega⟩] at c28
        refine mu_iconst (v := mI (-1)) B dX12_oscillators_31 rfl ?_
        refine mu_iret E rfl (by decide) (by decide) dX12_oscillators_32 ?_
        first
          | have hav : os_v nr rs sr z x y o = -1 := by unfold os_v; rw [if_pos (Or.inl c15)]
            exact ⟨fun _ => ⟨by rw [hav], rfl⟩, fun hh => absurd hh (by rw [hav]; decide)⟩
          | have hav : os_v nr rs sr (k : Int) (R : Int) (C : Int) o = -1 := by unfold os_v; rw [if_pos (Or.inr (by omega))]
            exact ⟨fun _ => ⟨by rw [hav], rfl⟩, fun hh => absurd hh (by rw [hav]; decide)⟩
