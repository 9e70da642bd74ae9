/-! ===== the reference: garden ===== -/
def gd_N (r : mu_RS) (R C q n : Nat) : Prop := ∃ p, p < n ∧ PAT (C + 2 + 4) (R + 2 + 4) 3 (sp_nx r (R + 2) (C + 2) p) (q : Int)
def gd_A (r : mu_RS) (R C q : Nat) : Prop := gd_N r R C q (2 ^ ((R + 2) * (C + 2)))
/-- the best of those from lo on that have no ancestor -/
def gd_B (r : mu_RS) (R C lo : Nat) (b : Int) : Prop := (b = -1 ∧ ∀ q, lo ≤ q → q < 2 ^ (R * C) → gd_A r R C q) ∨
  ∃ n : Nat, b = n ∧ lo ≤ n ∧ n < 2 ^ (R * C) ∧ ¬ gd_A r R C n ∧ ∀ q, lo ≤ q → q < 2 ^ (R * C) → ¬ gd_A r R C q → bc4 n < bc4 q ∨ (bc4 n = bc4 q ∧ n ≤ q)
def gd_P (r : mu_RS) (R C p : Nat) : Prop := gd_B r R C 0 (p : Int)
theorem gd_B.uniq {r : mu_RS} {R C lo : Nat} {b b' : Int} (h : gd_B r R C lo b) (h' : gd_B r R C lo b') : b = b' := by
  rcases h with ⟨e, h1⟩ | ⟨n, e, h1, h2, h3, h4⟩
  · rcases h' with ⟨e', -⟩ | ⟨n', e', g1, g2, g3, -⟩
    · omega
    · exact absurd (h1 n' g1 g2) g3
  · rcases h' with ⟨e', g1⟩ | ⟨n', e', g1, g2, g3, g4⟩
    · exact absurd (g1 n h1 h2) h3
    · have a1 := h4 n' g1 g2 g3
      have a2 := g4 n h1 h2 h3
      omega
theorem gd_B.dead {r : mu_RS} {R C lo : Nat} {b : Int} (h : gd_B r R C (lo + 1) b) (hA : gd_A r R C lo) : gd_B r R C lo b := by
  rcases h with ⟨e, h1⟩ | ⟨n, e, h1, h2, h3, h4⟩
  · refine Or.inl ⟨e, fun q h2 h3 => ?_⟩
    by_cases e9 : q = lo
    · rw [e9]; exact hA
    · exact h1 q (by omega) h3
  · refine Or.inr ⟨n, e, by omega, h2, h3, fun q g1 g2 g3 => ?_⟩
    by_cases e9 : q = lo
    · rw [e9] at g3; exact absurd hA g3
    · exact h4 q (by omega) g2 g3
theorem gd_B.take {r : mu_RS} {R C lo : Nat} {b : Int} (h : gd_B r R C (lo + 1) b) (hlo : lo < 2 ^ (R * C)) (hA : ¬ gd_A r R C lo) (hb : b < 0 ∨ bc4 lo ≤ bc4 b.toNat) : gd_B r R C lo (lo : Int) := by
  refine Or.inr ⟨lo, rfl, Nat.le_refl _, hlo, hA, fun q g1 g2 g3 => ?_⟩
  by_cases e9 : q = lo
  · rw [e9]; exact Or.inr ⟨rfl, Nat.le_refl _⟩
  · rcases h with ⟨e, h1⟩ | ⟨n, e, h1, h2, h3, h4⟩
    · exact absurd (h1 q (by omega) g2) g3
    · have := h4 q (by omega) g2 g3
      subst e
      rw [Int.toNat_natCast] at hb
      omega
theorem gd_B.keep {r : mu_RS} {R C lo : Nat} {b : Int} (h : gd_B r R C (lo + 1) b) (hb : 0 ≤ b ∧ bc4 b.toNat < bc4 lo) : gd_B r R C lo b := by
  rcases h with ⟨e, h1⟩ | ⟨n, e, h1, h2, h3, h4⟩
  · omega
  · subst e
    rw [Int.toNat_natCast] at hb
    refine Or.inr ⟨n, rfl, by omega, h2, h3, fun q g1 g2 g3 => ?_⟩
    by_cases e9 : q = lo
    · rw [e9]; omega
    · exact h4 q (by omega) g2 g3
theorem gd_B.bd {r : mu_RS} {R C lo : Nat} {b : Int} (h : gd_B r R C lo b) : -1 ≤ b ∧ b < 2 ^ (R * C) := by
  have hp : (0 : Int) < 2 ^ (R * C) := Int.pow_pos (by decide)
  rcases h with ⟨e, -⟩ | ⟨n, e, h1, h2, -⟩
  · omega
  · have : ((2 ^ (R * C) : Nat) : Int) = (2 : Int) ^ (R * C) := by rw [Int.natCast_pow]; rfl
    omega
theorem en_z {P : Nat → Prop} : ∀ {n : Nat}, (∀ j, j < n → ¬ P j) → en_c P n = 0
  | 0, _ => rfl
  | n + 1, h => by rw [en_neg (h n (by omega)), en_z (fun j hj => h j (by omega))]

set_option maxHeartbeats 4000000 in
set_option maxRecDepth 100000 in
theorem c_X12_garden (G : mu_G) {w : mu_W} {m : Nat} (hm : mo_ok w m) {nr : Nat} {rs : Nat → mu_RS} (hru : MRu w m nr rs) {sr : Nat} {P0 : Nat → Prop} (hsr : MSr w m sr P0) {z x y : Int} (hz : mi_ok z) (hx : mi_ok x) (hy : mi_ok y) : mu_Ct G M_X12_garden [.ref m, .int (mI z), .int (mI x), .int (mI y)] w (fun r w' => ss_all w m sr (rf_v nr rs sr z x y 2 16) (gd_P (rs z.toNat) x.toNat y.toNat) r w') := by
  have hk0 := hm.1
  have hnr := hru.1
  have hsr30 := hsr.1
  obtain ⟨hz1, hz2⟩ := id hz
  obtain ⟨hx1, hx2⟩ := id hx
  obtain ⟨hy1, hy2⟩ := id hy
  have hrf := rf_neg (nr := nr) (rs := rs) (sr := sr) (z := z) (x := x) (y := y) (mo := 2) (mx := 16)
  refine mu_ofWA G M_X12_garden [.ref m, .int (mI z), .int (mI x), .int (mI y), mu_no, mu_no, mu_no, mu_no] (by decide) rfl (Nat.le_of_ble_eq_true rfl) ?_
  intro X E
  have B : mu_B X G cX12_garden RX12 8 (mu_rm M_X12_garden) := E.1
  show mu_WA X G 8 _ _ 0 0 0 _ []
  refine mu_al_0 B dX12_garden_0 ?_
  refine mu_il_1 B dX12_garden_1 ?_
  refine mu_il_2 B dX12_garden_2 ?_
  refine mu_il_3 B dX12_garden_3 ?_
  refine mu_iconst (v := mI 2) B dX12_garden_4 rfl ?_
  refine mu_bipush (v := mI 16) B dX12_garden_5 (by decide) ?_
  refine mu_eV5 B dX12_garden_7 mX12_285 ⟨⟨by decide, by decide⟩, by decide, by decide⟩ (Nat.le_of_ble_eq_true rfl) (by assumption) (c_X12_refused G hm hru hsr.2.1 hsr.1 hz hx hy (mo := 2) (mx := 16) (by decide) (by decide)) ?_
  refine mu_is_4 B dX12_garden_10 (by decide) rfl ?_
  refine mu_il_4 B dX12_garden_12 ?_
  refine mu_if_ge (tgt := 20) B dX12_garden_14 (by decide) (fun c14 => ?_) (fun c14 => ?_)
  · try rw [mI_ge0 ⟨by omega, by omega⟩] at c14
    have hv0 : rf_v nr rs sr z x y 2 16 = 0 := by omega
    obtain ⟨hz9, hft, hq9, hs9⟩ := rf_zero hv0
    obtain ⟨hx9, hy9, hm9⟩ := id hft
    obtain ⟨k, hk⟩ : ∃ k : Nat, z = k := ⟨z.toNat, by omega⟩
    subst hk
    obtain ⟨R, hR⟩ : ∃ k : Nat, x = k := ⟨x.toNat, by omega⟩
    subst hR
    obtain ⟨C, hC⟩ : ∃ k : Nat, y = k := ⟨y.toNat, by omega⟩
    subst hC
    rw [Int.toNat_natCast] at hq9
    rw [Int.toNat_natCast, Int.toNat_natCast] at hm9
    have hk : k < nr := by omega
    have hRC2 : (R + 2) * (C + 2) ≤ 16 := hm9
    obtain ⟨hR3, hC3, hRC4⟩ := rc4 (by omega) (by omega) hRC2
    have hpw4 : 2 ^ (R * C) ≤ 2 ^ 4 := Nat.pow_le_pow_right (by decide) hRC4
    have hpw0 : 0 < 2 ^ (R * C) := Nat.two_pow_pos _
    have hpw := pw16 hRC2
    have hcast : ((2 ^ (R * C) : Nat) : Int) = (2 : Int) ^ (R * C) := by rw [Int.natCast_pow]; rfl
    refine mu_al_0 B dX12_garden_20 ?_
    refine mu_iconst (v := mI 0) B dX12_garden_21 rfl ?_
    refine mu_putI B dX12_garden_22 fX12_282 fwX12_43 rfl (by assumption) ?_
    refine mu_iconst (v := mI 1) B dX12_garden_25 rfl ?_
    refine mu_il_2 B dX12_garden_26 ?_
    refine mu_il_3 B dX12_garden_27 ?_
    refine mu_imul B dX12_garden_28 ?_
    try rw [mI_mul]
    try rw [mI_mul]
    rw [← Int.natCast_mul]
    refine mu_ishl B dX12_garden_29 ?_
    rw [mI_shl _ _ (by omega), Int.one_mul]
    rw [show (2 : Int) ^ (R * C) = ((2 ^ (R * C) : Nat) : Int) by rw [Int.natCast_pow]; rfl]
    refine mu_is_5 B dX12_garden_30 (by decide) rfl ?_
    refine mu_iconst (v := mI 0) B dX12_garden_32 rfl ?_
    refine mu_is_6 B dX12_garden_33 (by decide) rfl ?_
    rw [Int.toNat_natCast, Int.toNat_natCast, Int.toNat_natCast]
    have KX : ∀ v4 : Int32, mu_WA X G 8 (mu_Q X G M_X12_garden (ss_all w m sr (rf_v nr rs sr (k : Int) (R : Int) (C : Int) 2 16) (gd_P (rs k) R C))) (mu_si w m 43 (mI 0)) 0 0 35 [.ref m, .int (mI k), .int (mI R), .int (mI C), .int v4, .int (mI ((2 ^ (R * C)) : Nat)), .int (mI 0), mu_no] [] := by
      intro v4
      have KF : ∀ (s : mu_W) (u6 u7 : Value), mu_Fi (sr_S m) w s → mu_iv s m 42 = mI sr → FDR s m (gd_P (rs k) R C) 65536 → mu_WA X G 8 (mu_Q X G M_X12_garden (ss_all w m sr (rf_v nr rs sr (k : Int) (R : Int) (C : Int) 2 16) (gd_P (rs k) R C))) s 0 0 166 [.ref m, .int (mI k), .int (mI R), .int (mI C), .int v4, .int (mI ((2 ^ (R * C)) : Nat)), u6, u7] [] := by
        intro s u6 u7 hF h42 hfa
        have hm1 := hm.fi hF
        have hk1 := hm1.1
        refine mu_al_0 B dX12_garden_166 ?_
        refine mu_cV0 B dX12_garden_167 mX12_302 ⟨⟨by decide, by decide⟩, by decide, by decide⟩ (Nat.le_of_ble_eq_true rfl) (by assumption) (c_X12_done G hm1 h42 hfa.1) (fun r167 w167 q167 => ?_)
        obtain ⟨rfl, rfl⟩ := q167
        show mu_WA X G 8 _ _ 0 0 170 _ [.int (mI (en_c (gd_P (rs k) R C) 65536 : Int))]
        refine mu_iret E rfl (by decide) (by decide) dX12_garden_170 ?_
        refine ⟨fun hh => absurd hh (by omega), fun _ => ⟨rfl, hF.si (Or.inl ⟨rfl, Or.inr (Or.inr (Or.inl rfl))⟩), by omega, mu_iv_same _ _ _ _, (mu_iv_oth _ _ (by omega)).trans hfa.1, fun j hj hp => (mu_iv_oth _ _ (by omega)).trans (hfa.2 j hj hp)⟩⟩
      have LB : ∀ p (s : mu_W), p ≤ 2 ^ ((R + 2) * (C + 2)) → ((mu_Fi (sr_S m) w s ∧ mu_iv s m 42 = mI sr ∧ mu_iv s m 43 = mI 0) ∧ (∀ q, q < (2 ^ (R * C)) → (gd_N (rs k) R C q p → mu_iv s (m + 26) q = mI 1) ∧ (¬ gd_N (rs k) R C q p → mu_iv s (m + 26) q = mI 0))) → mu_WA X G 8 (mu_Q X G M_X12_garden (ss_all w m sr (rf_v nr rs sr (k : Int) (R : Int) (C : Int) 2 16) (gd_P (rs k) R C))) s 0 0 59 [.ref m, .int (mI k), .int (mI R), .int (mI C), .int v4, .int (mI ((2 ^ (R * C)) : Nat)), .int (mI p), mu_no] [] := by
        refine mu_ind (2 ^ ((R + 2) * (C + 2))) (fun p (s : mu_W) => mu_WA X G 8 (mu_Q X G M_X12_garden (ss_all w m sr (rf_v nr rs sr (k : Int) (R : Int) (C : Int) 2 16) (gd_P (rs k) R C))) s 0 0 59 [.ref m, .int (mI k), .int (mI R), .int (mI C), .int v4, .int (mI ((2 ^ (R * C)) : Nat)), .int (mI p), mu_no] []) (fun p (s : mu_W) => (mu_Fi (sr_S m) w s ∧ mu_iv s m 42 = mI sr ∧ mu_iv s m 43 = mI 0) ∧ (∀ q, q < (2 ^ (R * C)) → (gd_N (rs k) R C q p → mu_iv s (m + 26) q = mI 1) ∧ (¬ gd_N (rs k) R C q p → mu_iv s (m + 26) q = mI 0))) ?_
        rintro p w1 hp ⟨⟨hF, h42, h43⟩, hanc⟩ ih
        have hm1 := hm.fi hF
        have hk1 := hm1.1
        obtain ⟨r45, k45⟩ := mo_45 hm1
        have hru1 := sr_ru hru hF
        refine mu_il_6 B dX12_garden_59 ?_
        refine mu_iconst (v := mI 1) B dX12_garden_61 rfl ?_
        refine mu_il_2 B dX12_garden_62 ?_
        refine mu_iconst (v := mI 2) B dX12_garden_63 rfl ?_
        refine mu_iadd B dX12_garden_64 ?_
        try rw [mI_add]
        try rw [mI_add]
        rw [show (R : Int) + 2 = ((R + 2 : Nat) : Int) by omega]
        refine mu_il_3 B dX12_garden_65 ?_
        refine mu_iconst (v := mI 2) B dX12_garden_66 rfl ?_
        refine mu_iadd B dX12_garden_67 ?_
        try rw [mI_add]
        try rw [mI_add]
        rw [show (C : Int) + 2 = ((C + 2 : Nat) : Int) by omega]
        refine mu_imul B dX12_garden_68 ?_
        try rw [mI_mul]
        try rw [mI_mul]
        rw [← Int.natCast_mul]
        refine mu_ishl B dX12_garden_69 ?_
        rw [mI_shl _ _ (by omega), Int.one_mul]
        rw [show (2 : Int) ^ ((R + 2) * (C + 2)) = ((2 ^ ((R + 2) * (C + 2)) : Nat) : Int) by rw [Int.natCast_pow]; rfl]
        refine mu_icmp_ge (tgt := 103) B dX12_garden_70 (by decide) (fun c70 => ?_) (fun c70 => ?_)
        · try rw [mI_le ⟨by omega, by omega⟩ ⟨by omega, by omega⟩] at c70
          obtain rfl : 2 ^ ((R + 2) * (C + 2)) = p := by omega
          refine mu_iconst (v := mI (-1)) B dX12_garden_103 rfl ?_
          refine mu_is_6 B dX12_garden_104 (by decide) rfl ?_
          refine mu_il_5 B dX12_garden_106 ?_
          refine mu_iconst (v := mI 1) B dX12_garden_108 rfl ?_
          refine mu_isub B dX12_garden_109 ?_
          try rw [mI_sub]
          refine mu_is_7 B dX12_garden_110 (by decide) rfl ?_
          have LC : ∀ n (b : Int), n ≤ (2 ^ (R * C)) → (gd_B (rs k) R C ((2 ^ (R * C)) - n) b) → mu_WA X G 8 (mu_Q X G M_X12_garden (ss_all w m sr (rf_v nr rs sr (k : Int) (R : Int) (C : Int) 2 16) (gd_P (rs k) R C))) w1 0 0 112 [.ref m, .int (mI k), .int (mI R), .int (mI C), .int v4, .int (mI ((2 ^ (R * C)) : Nat)), .int (mI b), .int (mI (((2 ^ (R * C) : Nat) : Int) - 1 - (n : Int)))] [] := by
            refine mu_ind ((2 ^ (R * C))) (fun n (b : Int) => mu_WA X G 8 (mu_Q X G M_X12_garden (ss_all w m sr (rf_v nr rs sr (k : Int) (R : Int) (C : Int) 2 16) (gd_P (rs k) R C))) w1 0 0 112 [.ref m, .int (mI k), .int (mI R), .int (mI C), .int v4, .int (mI ((2 ^ (R * C)) : Nat)), .int (mI b), .int (mI (((2 ^ (R * C) : Nat) : Int) - 1 - (n : Int)))] []) (fun n (b : Int) => gd_B (rs k) R C ((2 ^ (R * C)) - n) b) ?_
            rintro n b hn hB ih
            have hbb := hB.bd
            rw [← hcast] at hbb
            refine mu_il_7 B dX12_garden_112 ?_
            refine mu_if_lt (tgt := 155) B dX12_garden_114 (by decide) (fun c114 => ?_) (fun c114 => ?_)
            · try rw [mI_lt0 ⟨by omega, by omega⟩] at c114
              obtain rfl : (2 ^ (R * C)) = n := by omega
              rw [Nat.sub_self] at hB
              refine mu_il_6 B dX12_garden_155 ?_
              refine mu_if_lt (tgt := 166) B dX12_garden_157 (by decide) (fun c157 => ?_) (fun c157 => ?_)
              · try rw [mI_lt0 ⟨by omega, by omega⟩] at c157
                have hP9 : ∀ j, ¬ gd_P (rs k) R C j := fun j hh => by have := gd_B.uniq hh hB; omega
                have hfa : FDR w1 m (gd_P (rs k) R C) 65536 := ⟨by rw [en_z (fun j _ => hP9 j)]; exact h43, fun j _ hh => absurd hh (hP9 j)⟩
                have hw9 : w1 = w1 := rfl
                first
                  | exact KF _ _ _ hF h42 hfa
                  | exact KF _ _ _ ((hF.si (Or.inr ⟨by omega, by omega⟩)).si (Or.inl ⟨rfl, Or.inr (Or.inr (Or.inr rfl))⟩)) ((mu_iv_oth _ _ (by omega)).trans ((mu_iv_oth _ _ (by omega)).trans h42)) hfa
              · try rw [mI_lt0 ⟨by omega, by omega⟩] at c157
                obtain ⟨b, hb9⟩ : ∃ c : Nat, b = c := ⟨b.toNat, by omega⟩
                subst hb9
                have hP9 : ∀ j, gd_P (rs k) R C j ↔ j = b := fun j => ⟨fun hh => by have := gd_B.uniq hh hB; omega, fun hh => by rw [hh]; exact hB⟩
                have he9 : FDR w1 m (gd_P (rs k) R C) b := ⟨by rw [en_z (fun j hj hh => by have := (hP9 j).mp hh; omega)]; exact h43, fun j hj hh => by have := (hP9 j).mp hh; omega⟩
                refine mu_al_0 B dX12_garden_160 ?_
                refine mu_il_6 B dX12_garden_161 ?_
                refine mu_cV1 B dX12_garden_163 mX12_299 ⟨⟨by decide, by decide⟩, by decide, by decide⟩ (Nat.le_of_ble_eq_true rfl) (by assumption) (c_X12_finds G hm1 he9.1 (by have := en_le (gd_P (rs k) R C) b; omega)) (fun r163 w163 q163 => ?_)
                obtain ⟨rfl, rfl⟩ := q163
                have hfa := (he9.hit ((hP9 b).mpr rfl)).all (fun j hj hh => by have := (hP9 j).mp hh; omega) (by omega)
                show mu_WA X G 8 _ _ 0 0 166 _ []
                first
                  | exact KF _ _ _ hF h42 hfa
                  | exact KF _ _ _ ((hF.si (Or.inr ⟨by omega, by omega⟩)).si (Or.inl ⟨rfl, Or.inr (Or.inr (Or.inr rfl))⟩)) ((mu_iv_oth _ _ (by omega)).trans ((mu_iv_oth _ _ (by omega)).trans h42)) hfa
            · try rw [mI_lt0 ⟨by omega, by omega⟩] at c114
              refine mu_al_0 B dX12_garden_117 ?_
              refine mu_getR B dX12_garden_118 fX12_89 rfl (by assumption) (by assumption) ?_
              refine mu_il_7 B dX12_garden_121 ?_
              refine mu_zald B dX12_garden_123 (by assumption) (mI_in (by omega) (by omega) (by decide)) ?_
              rw [mI_clamp ⟨by omega, by omega⟩]
              rw [show (((2 ^ (R * C) : Nat) : Int) - 1 - (n : Int)).toNat = (2 ^ (R * C)) - 1 - n by omega]
              refine mu_if_ne (tgt := 149) B dX12_garden_124 (by decide) (fun c124 => ?_) (fun c124 => ?_)
              · have hA : gd_A (rs k) R C ((2 ^ (R * C)) - 1 - n) := Classical.byContradiction (fun hh => c124 ((hanc ((2 ^ (R * C)) - 1 - n) (by omega)).2 hh))
                refine mu_inc_7 (c := mI (-1)) B dX12_garden_149 rfl (by decide) rfl ?_
                try rw [mI_add]
                refine mu_goto (tgt := 112) B dX12_garden_152 (by decide) ?_
                have hloc : ((2 ^ (R * C) : Nat) : Int) - 1 - ((n + 1 : Nat) : Int) = ((2 ^ (R * C) : Nat) : Int) - 1 - (n : Int) + -1 := by omega
                first
                  | exact mu_to (ih b (by omega) (by rw [show (2 ^ (R * C)) - (n + 1) = (2 ^ (R * C)) - 1 - n by omega]; exact gd_B.dead (by rw [show (2 ^ (R * C)) - 1 - n + 1 = (2 ^ (R * C)) - n by omega]; exact hB) hA)) rfl (by rw [hloc])
                  | exact mu_to (ih (((2 ^ (R * C)) - 1 - n : Nat) : Int) (by omega) (by rw [show (2 ^ (R * C)) - (n + 1) = (2 ^ (R * C)) - 1 - n by omega]; exact gd_B.take (by rw [show (2 ^ (R * C)) - 1 - n + 1 = (2 ^ (R * C)) - n by omega]; exact hB) (by omega) hA (by omega))) rfl (by rw [hloc, show (((2 ^ (R * C)) - 1 - n : Nat) : Int) = ((2 ^ (R * C) : Nat) : Int) - 1 - (n : Int) by omega])
                  | exact mu_to (ih b (by omega) (by rw [show (2 ^ (R * C)) - (n + 1) = (2 ^ (R * C)) - 1 - n by omega]; exact gd_B.keep (by rw [show (2 ^ (R * C)) - 1 - n + 1 = (2 ^ (R * C)) - n by omega]; exact hB) ⟨by omega, by omega⟩)) rfl (by rw [hloc, show (((2 ^ (R * C)) - 1 - n : Nat) : Int) = ((2 ^ (R * C) : Nat) : Int) - 1 - (n : Int) by omega, show ((b.toNat : Nat) : Int) = b by omega])
              · have hA : ¬ gd_A (rs k) R C ((2 ^ (R * C)) - 1 - n) := fun hh => absurd (((hanc ((2 ^ (R * C)) - 1 - n) (by omega)).1 hh).symm.trans c124) (by decide)
                refine mu_il_6 B dX12_garden_127 ?_
                refine mu_if_lt (tgt := 145) B dX12_garden_129 (by decide) (fun c129 => ?_) (fun c129 => ?_)
                · try rw [mI_lt0 ⟨by omega, by omega⟩] at c129
                  refine mu_il_7 B dX12_garden_145 ?_
                  refine mu_is_6 B dX12_garden_147 (by decide) rfl ?_
                  refine mu_inc_7 (c := mI (-1)) B dX12_garden_149 rfl (by decide) rfl ?_
                  try rw [mI_add]
                  refine mu_goto (tgt := 112) B dX12_garden_152 (by decide) ?_
                  have hloc : ((2 ^ (R * C) : Nat) : Int) - 1 - ((n + 1 : Nat) : Int) = ((2 ^ (R * C) : Nat) : Int) - 1 - (n : Int) + -1 := by omega
                  first
                    | exact mu_to (ih b (by omega) (by rw [show (2 ^ (R * C)) - (n + 1) = (2 ^ (R * C)) - 1 - n by omega]; exact gd_B.dead (by rw [show (2 ^ (R * C)) - 1 - n + 1 = (2 ^ (R * C)) - n by omega]; exact hB) hA)) rfl (by rw [hloc])
                    | exact mu_to (ih (((2 ^ (R * C)) - 1 - n : Nat) : Int) (by omega) (by rw [show (2 ^ (R * C)) - (n + 1) = (2 ^ (R * C)) - 1 - n by omega]; exact gd_B.take (by rw [show (2 ^ (R * C)) - 1 - n + 1 = (2 ^ (R * C)) - n by omega]; exact hB) (by omega) hA (by omega))) rfl (by rw [hloc, show (((2 ^ (R * C)) - 1 - n : Nat) : Int) = ((2 ^ (R * C) : Nat) : Int) - 1 - (n : Int) by omega])
                    | exact mu_to (ih b (by omega) (by rw [show (2 ^ (R * C)) - (n + 1) = (2 ^ (R * C)) - 1 - n by omega]; exact gd_B.keep (by rw [show (2 ^ (R * C)) - 1 - n + 1 = (2 ^ (R * C)) - n by omega]; exact hB) ⟨by omega, by omega⟩)) rfl (by rw [hloc, show (((2 ^ (R * C)) - 1 - n : Nat) : Int) = ((2 ^ (R * C) : Nat) : Int) - 1 - (n : Int) by omega, show ((b.toNat : Nat) : Int) = b by omega])
                · try rw [mI_lt0 ⟨by omega, by omega⟩] at c129
                  refine mu_il_7 B dX12_garden_132 ?_
                  refine mu_eS1 B dX12_garden_134 mX12_308 ⟨⟨by decide, by decide⟩, by decide, by decide⟩ (Nat.le_of_ble_eq_true rfl) (c_J6_bitCount G) ?_
                  rw [show ((2 ^ (R * C) : Nat) : Int) - 1 - (n : Int) = (((2 ^ (R * C)) - 1 - n : Nat) : Int) by omega, bc4_eq _ (by omega)]
                  refine mu_il_6 B dX12_garden_137 ?_
                  refine mu_eS1 B dX12_garden_139 mX12_308 ⟨⟨by decide, by decide⟩, by decide, by decide⟩ (Nat.le_of_ble_eq_true rfl) (c_J6_bitCount G) ?_
                  rw [show b = ((b.toNat : Nat) : Int) by omega, bc4_eq _ (by omega)]
                  have hb1 : bc4 b.toNat ≤ 4 := by unfold bc4; omega
                  have hb2 : bc4 ((2 ^ (R * C)) - 1 - n) ≤ 4 := by unfold bc4; omega
                  refine mu_icmp_gt (tgt := 149) B dX12_garden_142 (by decide) (fun c142 => ?_) (fun c142 => ?_)
                  · try rw [mI_lt ⟨by omega, by omega⟩ ⟨by omega, by omega⟩] at c142
                    refine mu_inc_7 (c := mI (-1)) B dX12_garden_149 rfl (by decide) rfl ?_
                    try rw [mI_add]
                    refine mu_goto (tgt := 112) B dX12_garden_152 (by decide) ?_
                    have hloc : ((2 ^ (R * C) : Nat) : Int) - 1 - ((n + 1 : Nat) : Int) = ((2 ^ (R * C) : Nat) : Int) - 1 - (n : Int) + -1 := by omega
                    first
                      | exact mu_to (ih b (by omega) (by rw [show (2 ^ (R * C)) - (n + 1) = (2 ^ (R * C)) - 1 - n by omega]; exact gd_B.dead (by rw [show (2 ^ (R * C)) - 1 - n + 1 = (2 ^ (R * C)) - n by omega]; exact hB) hA)) rfl (by rw [hloc])
                      | exact mu_to (ih (((2 ^ (R * C)) - 1 - n : Nat) : Int) (by omega) (by rw [show (2 ^ (R * C)) - (n + 1) = (2 ^ (R * C)) - 1 - n by omega]; exact gd_B.take (by rw [show (2 ^ (R * C)) - 1 - n + 1 = (2 ^ (R * C)) - n by omega]; exact hB) (by omega) hA (by omega))) rfl (by rw [hloc, show (((2 ^ (R * C)) - 1 - n : Nat) : Int) = ((2 ^ (R * C) : Nat) : Int) - 1 - (n : Int) by omega])
                      | exact mu_to (ih b (by omega) (by rw [show (2 ^ (R * C)) - (n + 1) = (2 ^ (R * C)) - 1 - n by omega]; exact gd_B.keep (by rw [show (2 ^ (R * C)) - 1 - n + 1 = (2 ^ (R * C)) - n by omega]; exact hB) ⟨by omega, by omega⟩)) rfl (by rw [hloc, show (((2 ^ (R * C)) - 1 - n : Nat) : Int) = ((2 ^ (R * C) : Nat) : Int) - 1 - (n : Int) by omega, show ((b.toNat : Nat) : Int) = b by omega])
                  · try rw [mI_lt ⟨by omega, by omega⟩ ⟨by omega, by omega⟩] at c142
                    refine mu_il_7 B dX12_garden_145 ?_
                    refine mu_is_6 B dX12_garden_147 (by decide) rfl ?_
                    refine mu_inc_7 (c := mI (-1)) B dX12_garden_149 rfl (by decide) rfl ?_
                    try rw [mI_add]
                    refine mu_goto (tgt := 112) B dX12_garden_152 (by decide) ?_
                    have hloc : ((2 ^ (R * C) : Nat) : Int) - 1 - ((n + 1 : Nat) : Int) = ((2 ^ (R * C) : Nat) : Int) - 1 - (n : Int) + -1 := by omega
                    first
                      | exact mu_to (ih b (by omega) (by rw [show (2 ^ (R * C)) - (n + 1) = (2 ^ (R * C)) - 1 - n by omega]; exact gd_B.dead (by rw [show (2 ^ (R * C)) - 1 - n + 1 = (2 ^ (R * C)) - n by omega]; exact hB) hA)) rfl (by rw [hloc])
                      | exact mu_to (ih (((2 ^ (R * C)) - 1 - n : Nat) : Int) (by omega) (by rw [show (2 ^ (R * C)) - (n + 1) = (2 ^ (R * C)) - 1 - n by omega]; exact gd_B.take (by rw [show (2 ^ (R * C)) - 1 - n + 1 = (2 ^ (R * C)) - n by omega]; exact hB) (by omega) hA (by omega))) rfl (by rw [hloc, show (((2 ^ (R * C)) - 1 - n : Nat) : Int) = ((2 ^ (R * C) : Nat) : Int) - 1 - (n : Int) by omega])
                      | exact mu_to (ih b (by omega) (by rw [show (2 ^ (R * C)) - (n + 1) = (2 ^ (R * C)) - 1 - n by omega]; exact gd_B.keep (by rw [show (2 ^ (R * C)) - 1 - n + 1 = (2 ^ (R * C)) - n by omega]; exact hB) ⟨by omega, by omega⟩)) rfl (by rw [hloc, show (((2 ^ (R * C)) - 1 - n : Nat) : Int) = ((2 ^ (R * C) : Nat) : Int) - 1 - (n : Int) by omega, show ((b.toNat : Nat) : Int) = b by omega])
          refine mu_fg (LC 0 (-1) (Nat.zero_le _) (Or.inl ⟨rfl, fun q h1 h2 => absurd h1 (by omega)⟩)) rfl (by rw [Int.natCast_zero, Int.sub_zero]; exact ⟨Or.inl rfl, Or.inl rfl, Or.inl rfl, Or.inl rfl, Or.inl rfl, Or.inl rfl, Or.inl rfl, Or.inl rfl, trivial⟩)
        · try rw [mI_le ⟨by omega, by omega⟩ ⟨by omega, by omega⟩] at c70
          refine mu_al_0 B dX12_garden_73 ?_
          refine mu_il_1 B dX12_garden_74 ?_
          refine mu_il_2 B dX12_garden_75 ?_
          refine mu_il_3 B dX12_garden_76 ?_
          refine mu_il_6 B dX12_garden_77 ?_
          refine mu_cV4 B dX12_garden_79 mX12_305 ⟨⟨by decide, by decide⟩, by decide, by decide⟩ (Nat.le_of_ble_eq_true rfl) (by assumption) (c_X12_becomesSmall G hm1 hru1 (p := p) hk hq9 (by omega) (by omega) hRC2 (by omega)) (fun r79 w79 q79 => ?_)
          obtain ⟨hF2, q, rfl, hpat⟩ := q79
          have hqb := hpat.bd (by rw [show R + 2 + 4 - 2 * 3 = R by omega, show C + 2 + 4 - 2 * 3 = C by omega]; omega)
          have hFb := hF.trans (sm_sr hF2)
          have hm3 := hm.fi hFb
          have hk3 := hm3.1
          show mu_WA X G 8 _ w79 0 0 82 _ ([.int (mI q)])
          refine mu_is_7 B dX12_garden_82 (by decide) rfl ?_
          refine mu_il_7 B dX12_garden_84 ?_
          refine mu_if_lt (tgt := 97) B dX12_garden_86 (by decide) (fun c86 => ?_) (fun c86 => ?_)
          · try rw [mI_lt0 ⟨by omega, by omega⟩] at c86
            refine mu_inc_6 (c := mI 1) B dX12_garden_97 rfl (by decide) rfl ?_
            try rw [mI_add]
            refine mu_goto (tgt := 59) B dX12_garden_100 (by decide) ?_
            have hnst : ∀ q' : Nat, gd_N (rs k) R C q' (p + 1) ↔ gd_N (rs k) R C q' p ∨ PAT (C + 2 + 4) (R + 2 + 4) 3 (sp_nx (rs k) (R + 2) (C + 2) p) (q' : Int) := fun q' => ⟨fun ⟨p9, h1, h2⟩ => by by_cases e : p9 = p; (rw [e] at h2; exact Or.inr h2); exact Or.inl ⟨p9, by omega, h2⟩, fun hh => by rcases hh with ⟨p9, h1, h2⟩ | h2; exact ⟨p9, by omega, h2⟩; exact ⟨p, by omega, h2⟩⟩
            have hanc2 : ∀ q, q < (2 ^ (R * C)) → (gd_N (rs k) R C q p → mu_iv w79 (m + 26) q = mI 1) ∧ (¬ gd_N (rs k) R C q p → mu_iv w79 (m + 26) q = mI 0) := fun q hq => ⟨fun hh => hF2.iv (by unfold sm_S; omega) ((hanc q hq).1 hh), fun hh => hF2.iv (by unfold sm_S; omega) ((hanc q hq).2 hh)⟩
            first
              | refine mu_fg (ih _ (by omega) ⟨⟨hFb.si (Or.inr ⟨by omega, by omega⟩), (mu_iv_oth _ _ (by omega)).trans (hF2.iv (by unfold sm_S; omega) h42), (mu_iv_oth _ _ (by omega)).trans (hF2.iv (by unfold sm_S; omega) h43)⟩, fun q9 hq9 => ?_⟩) rfl (by rw [show ((p + 1 : Nat) : Int) = (p : Int) + 1 by omega]; exact ⟨Or.inl rfl, Or.inl rfl, Or.inl rfl, Or.inl rfl, Or.inl rfl, Or.inl rfl, Or.inl rfl, Or.inr rfl, trivial⟩)
              | refine mu_fg (ih _ (by omega) ⟨⟨hFb, hF2.iv (by unfold sm_S; omega) h42, hF2.iv (by unfold sm_S; omega) h43⟩, fun q9 hq9 => ?_⟩) rfl (by rw [show ((p + 1 : Nat) : Int) = (p : Int) + 1 by omega]; exact ⟨Or.inl rfl, Or.inl rfl, Or.inl rfl, Or.inl rfl, Or.inl rfl, Or.inl rfl, Or.inl rfl, Or.inr rfl, trivial⟩)
            rw [hnst]
            by_cases e9 : PAT (C + 2 + 4) (R + 2 + 4) 3 (sp_nx (rs k) (R + 2) (C + 2) p) (q9 : Int)
            · have e8 := hpat.uniq e9
              refine ⟨fun _ => ?_, fun hh => absurd (Or.inr e9) hh⟩
              first
                | (rw [show q9 = q by omega, mu_iv_same])
                | (exfalso; omega)
            · have e7 : ∀ h : gd_N (rs k) R C q9 p ∨ PAT (C + 2 + 4) (R + 2 + 4) 3 (sp_nx (rs k) (R + 2) (C + 2) p) (q9 : Int), gd_N (rs k) R C q9 p := fun h => h.elim id (fun h => absurd h e9)
              first
                | (rw [mu_iv_oth _ _ (fun hh => e9 (by rw [hh.2]; exact hpat))]; exact ⟨fun hh => (hanc2 q9 hq9).1 (e7 hh), fun hh => (hanc2 q9 hq9).2 (fun h => hh (Or.inl h))⟩)
                | exact ⟨fun hh => (hanc2 q9 hq9).1 (e7 hh), fun hh => (hanc2 q9 hq9).2 (fun h => hh (Or.inl h))⟩
          · try rw [mI_lt0 ⟨by omega, by omega⟩] at c86
            obtain ⟨q, hq8⟩ : ∃ c : Nat, q = c := ⟨q.toNat, by omega⟩
            subst hq8
            obtain ⟨r45, k45⟩ := mo_45 hm3
            have hql : q < (2 ^ (R * C)) := by rcases hpat.lo.2 with e | ⟨n, e, h3⟩; omega; (rw [show R + 2 + 4 - 2 * 3 = R by omega, show C + 2 + 4 - 2 * 3 = C by omega] at h3; omega)
            refine mu_al_0 B dX12_garden_89 ?_
            refine mu_getR B dX12_garden_90 fX12_89 rfl (by assumption) (by assumption) ?_
            refine mu_il_7 B dX12_garden_93 ?_
            refine mu_iconst (v := mI 1) B dX12_garden_95 rfl ?_
            refine mu_zast B dX12_garden_96 (by assumption) (mI_inN (by omega) (by decide)) (Or.inr rfl) ?_
            rw [mI_clampN (by omega)]
            refine mu_inc_6 (c := mI 1) B dX12_garden_97 rfl (by decide) rfl ?_
            try rw [mI_add]
            refine mu_goto (tgt := 59) B dX12_garden_100 (by decide) ?_
            have hnst : ∀ q' : Nat, gd_N (rs k) R C q' (p + 1) ↔ gd_N (rs k) R C q' p ∨ PAT (C + 2 + 4) (R + 2 + 4) 3 (sp_nx (rs k) (R + 2) (C + 2) p) (q' : Int) := fun q' => ⟨fun ⟨p9, h1, h2⟩ => by by_cases e : p9 = p; (rw [e] at h2; exact Or.inr h2); exact Or.inl ⟨p9, by omega, h2⟩, fun hh => by rcases hh with ⟨p9, h1, h2⟩ | h2; exact ⟨p9, by omega, h2⟩; exact ⟨p, by omega, h2⟩⟩
            have hanc2 : ∀ q, q < (2 ^ (R * C)) → (gd_N (rs k) R C q p → mu_iv w79 (m + 26) q = mI 1) ∧ (¬ gd_N (rs k) R C q p → mu_iv w79 (m + 26) q = mI 0) := fun q hq => ⟨fun hh => hF2.iv (by unfold sm_S; omega) ((hanc q hq).1 hh), fun hh => hF2.iv (by unfold sm_S; omega) ((hanc q hq).2 hh)⟩
            first
              | refine mu_fg (ih _ (by omega) ⟨⟨hFb.si (Or.inr ⟨by omega, by omega⟩), (mu_iv_oth _ _ (by omega)).trans (hF2.iv (by unfold sm_S; omega) h42), (mu_iv_oth _ _ (by omega)).trans (hF2.iv (by unfold sm_S; omega) h43)⟩, fun q9 hq9 => ?_⟩) rfl (by rw [show ((p + 1 : Nat) : Int) = (p : Int) + 1 by omega]; exact ⟨Or.inl rfl, Or.inl rfl, Or.inl rfl, Or.inl rfl, Or.inl rfl, Or.inl rfl, Or.inl rfl, Or.inr rfl, trivial⟩)
              | refine mu_fg (ih _ (by omega) ⟨⟨hFb, hF2.iv (by unfold sm_S; omega) h42, hF2.iv (by unfold sm_S; omega) h43⟩, fun q9 hq9 => ?_⟩) rfl (by rw [show ((p + 1 : Nat) : Int) = (p : Int) + 1 by omega]; exact ⟨Or.inl rfl, Or.inl rfl, Or.inl rfl, Or.inl rfl, Or.inl rfl, Or.inl rfl, Or.inl rfl, Or.inr rfl, trivial⟩)
            rw [hnst]
            by_cases e9 : PAT (C + 2 + 4) (R + 2 + 4) 3 (sp_nx (rs k) (R + 2) (C + 2) p) (q9 : Int)
            · have e8 := hpat.uniq e9
              refine ⟨fun _ => ?_, fun hh => absurd (Or.inr e9) hh⟩
              first
                | (rw [show q9 = q by omega, mu_iv_same])
                | (exfalso; omega)
            · have e7 : ∀ h : gd_N (rs k) R C q9 p ∨ PAT (C + 2 + 4) (R + 2 + 4) 3 (sp_nx (rs k) (R + 2) (C + 2) p) (q9 : Int), gd_N (rs k) R C q9 p := fun h => h.elim id (fun h => absurd h e9)
              first
                | (rw [mu_iv_oth _ _ (fun hh => e9 (by rw [hh.2]; exact hpat))]; exact ⟨fun hh => (hanc2 q9 hq9).1 (e7 hh), fun hh => (hanc2 q9 hq9).2 (fun h => hh (Or.inl h))⟩)
                | exact ⟨fun hh => (hanc2 q9 hq9).1 (e7 hh), fun hh => (hanc2 q9 hq9).2 (fun h => hh (Or.inl h))⟩
      have LA : ∀ p (s : mu_W), p ≤ (2 ^ (R * C)) → ((mu_Fi (sr_S m) w s ∧ mu_iv s m 42 = mI sr ∧ mu_iv s m 43 = mI 0) ∧ ∀ j, j < p → mu_iv s (m + 26) j = mI 0) → mu_WA X G 8 (mu_Q X G M_X12_garden (ss_all w m sr (rf_v nr rs sr (k : Int) (R : Int) (C : Int) 2 16) (gd_P (rs k) R C))) s 0 0 35 [.ref m, .int (mI k), .int (mI R), .int (mI C), .int v4, .int (mI ((2 ^ (R * C)) : Nat)), .int (mI p), mu_no] [] := by
        refine mu_ind ((2 ^ (R * C))) (fun p (s : mu_W) => mu_WA X G 8 (mu_Q X G M_X12_garden (ss_all w m sr (rf_v nr rs sr (k : Int) (R : Int) (C : Int) 2 16) (gd_P (rs k) R C))) s 0 0 35 [.ref m, .int (mI k), .int (mI R), .int (mI C), .int v4, .int (mI ((2 ^ (R * C)) : Nat)), .int (mI p), mu_no] []) (fun p (s : mu_W) => (mu_Fi (sr_S m) w s ∧ mu_iv s m 42 = mI sr ∧ mu_iv s m 43 = mI 0) ∧ ∀ j, j < p → mu_iv s (m + 26) j = mI 0) ?_
        rintro p w1 hp ⟨⟨hF, h42, h43⟩, hz0⟩ ih
        have hm1 := hm.fi hF
        have hk1 := hm1.1
        obtain ⟨r45, k45⟩ := mo_45 hm1
        refine mu_il_6 B dX12_garden_35 ?_
        refine mu_il_5 B dX12_garden_37 ?_
        refine mu_icmp_ge (tgt := 56) B dX12_garden_39 (by decide) (fun c39 => ?_) (fun c39 => ?_)
        · try rw [mI_le ⟨by omega, by omega⟩ ⟨by omega, by omega⟩] at c39
          obtain rfl : (2 ^ (R * C)) = p := by omega
          refine mu_iconst (v := mI 0) B dX12_garden_56 rfl ?_
          refine mu_is_6 B dX12_garden_57 (by decide) rfl ?_
          exact LB 0 w1 (Nat.zero_le _) ⟨⟨hF, h42, h43⟩, fun q hq => ⟨fun ⟨p9, h1, _⟩ => absurd h1 (Nat.not_lt_zero p9), fun _ => hz0 q hq⟩⟩
        · try rw [mI_le ⟨by omega, by omega⟩ ⟨by omega, by omega⟩] at c39
          refine mu_al_0 B dX12_garden_42 ?_
          refine mu_getR B dX12_garden_43 fX12_89 rfl (by assumption) (by assumption) ?_
          refine mu_il_6 B dX12_garden_46 ?_
          refine mu_iconst (v := mI 0) B dX12_garden_48 rfl ?_
          refine mu_zast B dX12_garden_49 (by assumption) (mI_inN (by omega) (by decide)) (Or.inl rfl) ?_
          rw [mI_clampN (by omega)]
          refine mu_inc_6 (c := mI 1) B dX12_garden_50 rfl (by decide) rfl ?_
          try rw [mI_add]
          refine mu_goto (tgt := 35) B dX12_garden_53 (by decide) ?_
          refine mu_fg (ih _ (by omega) ⟨⟨hF.si (Or.inr ⟨by omega, by omega⟩), (mu_iv_oth _ _ (by omega)).trans h42, (mu_iv_oth _ _ (by omega)).trans h43⟩, fun j hj => ?_⟩) rfl (by rw [show ((p + 1 : Nat) : Int) = (p : Int) + 1 by omega]; exact ⟨Or.inl rfl, Or.inl rfl, Or.inl rfl, Or.inl rfl, Or.inl rfl, Or.inl rfl, Or.inl rfl, Or.inr rfl, trivial⟩)
          by_cases e9 : j = p
          · rw [e9, mu_iv_same]
          · rw [mu_iv_oth _ _ (by omega)]; exact hz0 j (by omega)
      exact LA 0 _ (Nat.zero_le _) ⟨⟨(mu_Fi.refl _).si (Or.inl ⟨rfl, Or.inr (Or.inr (Or.inr rfl))⟩), (mu_iv_oth _ _ (by omega)).trans hsr.2.1, mu_iv_same _ _ _ _⟩, fun j hj => absurd hj (Nat.not_lt_zero j)⟩
    exact KX _
  · try rw [mI_ge0 ⟨by omega, by omega⟩] at c14
    refine mu_il_4 B dX12_garden_17 ?_
    refine mu_iret E rfl (by decide) (by decide) dX12_garden_19 ?_
    exact ⟨fun _ => ⟨rfl, rfl⟩, fun hh => absurd hh (by omega)⟩
