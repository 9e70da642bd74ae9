/-! ===== the class's grids: blocks turned ===== -/
theorem nb4 {S p q r t : Nat} (hS : 2 ≤ S ∧ S ≤ 4) (h1 : p < S) (h2 : q < S) (h3 : r < S) (h4 : t < S) : ((p * S + q) * S + r) * S + t < S * S * S * S := by
  obtain ⟨a1, a2⟩ := hS
  rcases (show S = 2 ∨ S = 3 ∨ S = 4 by omega) with rfl | rfl | rfl <;> omega
def nb_ (S : Nat) (c : Nat → Nat → Nat) (i i' j j' : Nat) : Nat := ((c i j * S + c i j') * S + c i' j) * S + c i' j'
def t1_ (S : Nat) (c : Nat → Nat → Nat) (i i' j j' v : Nat) : Nat → Nat → Nat := cu (cu (cu (cu c i' j' (v % S)) i' j (v / S % S)) i j' (v / S / S % S)) i j (v / S / S / S)
theorem v3_lt {S v : Nat} (hS : 0 < S) (hv : v < S * S * S * S) : v / S / S / S % S = v / S / S / S := by
  apply Nat.mod_eq_of_lt
  rw [Nat.div_lt_iff_lt_mul hS, Nat.div_lt_iff_lt_mul hS, Nat.div_lt_iff_lt_mul hS]
  exact hv
theorem sp_t1_eq {tab : Nat → Nat} {S R C i j : Nat} {c : Nat → Nat → Nat} (hS : 0 < S) (hi : i < R) (hj : j < C) (hv : tab (nb_ S c i ((i + 1) % R) j ((j + 1) % C)) < S * S * S * S) : sp_t1 tab S R C i j c = t1_ S c i ((i + 1) % R) j ((j + 1) % C) (tab (nb_ S c i ((i + 1) % R) j ((j + 1) % C))) := by
  have e0 : tq_i R i 0 = i := Nat.mod_eq_of_lt hi
  have e1 : tq_i R i 1 = i := Nat.mod_eq_of_lt hi
  have e2 : tq_i R i 2 = (i + 1) % R := rfl
  have e3 : tq_i R i 3 = (i + 1) % R := rfl
  have f0 : tq_j C j 0 = j := Nat.mod_eq_of_lt hj
  have f1 : tq_j C j 1 = (j + 1) % C := rfl
  have f2 : tq_j C j 2 = j := Nat.mod_eq_of_lt hj
  have f3 : tq_j C j 3 = (j + 1) % C := rfl
  have en : tq_n S R C i j c 4 = nb_ S c i ((i + 1) % R) j ((j + 1) % C) := by
    unfold nb_
    rw [tq_n, tq_n, tq_n, tq_n, tq_n, e0, e1, e2, e3, f0, f1, f2, f3, Nat.zero_mul, Nat.zero_add]
  unfold sp_t1
  rw [en]
  generalize tab (nb_ S c i ((i + 1) % R) j ((j + 1) % C)) = v at hv ⊢
  unfold t1_
  rw [tq_w, tq_w, tq_w, tq_w, tq_w, show 3 - 0 = 3 from rfl, show 3 - 1 = 2 from rfl, show 3 - 2 = 1 from rfl, show 3 - 3 = 0 from rfl, e0, e1, e2, e3, f0, f1, f2, f3]
  have g0 : v / S ^ 0 = v := by rw [Nat.pow_zero, Nat.div_one]
  have g1 : v / S ^ 1 = v / S := by rw [Nat.pow_one]
  have g2 : v / S ^ 2 = v / S / S := by rw [Nat.pow_succ, Nat.pow_one, Nat.div_div_eq_div_mul]
  have g3 : v / S ^ 3 = v / S / S / S := by rw [Nat.pow_succ, Nat.pow_succ, Nat.pow_one, Nat.div_div_eq_div_mul, Nat.div_div_eq_div_mul, Nat.mul_assoc]
  rw [g0, g1, g2, g3, v3_lt hS hv]

set_option maxHeartbeats 4000000 in
set_option maxRecDepth 100000 in
theorem c_X3_turnBlock (G : mu_G) {w : mu_W} {a : Nat} (ho : CGo w a) {S R C n : Nat} (hf : CGf w a S R C n) (hS : 2 ≤ S ∧ S ≤ 4) (hR : gs_sd R) (hC : gs_sd C) {c : Nat → Nat → Nat} (hb : CGc w a R C c) (hc : ∀ i j, c i j < S) {tt TN : Nat} (hkt : mu_kd w tt = some (100, TN)) (hTN : S * S * S * S ≤ TN) (hTN2 : TN ≤ 1000000) {tab : Nat → Nat} (hT : ∀ b, b < S * S * S * S → mu_iv w tt b = mI (tab b)) (hTl : ∀ b, b < S * S * S * S → tab b < S * S * S * S) {i i' j j' : Nat} (hi : i < R) (hi' : i' < R) (hj : j < C) (hj' : j' < C) : mu_Ct G M_X3_turnBlock [.ref a, .ref tt, .int (mI ((C * i + j : Nat) : Int)), .int (mI ((C * i + j' : Nat) : Int)), .int (mI ((C * i' + j : Nat) : Int)), .int (mI ((C * i' + j' : Nat) : Int))] w (fun r w' => r = none ∧ mu_Fi (fun q _ => q = a + 1) w w' ∧ CGc w' a R C (t1_ S c i i' j j' (tab (nb_ S c i i' j j')))) := by
  obtain ⟨ka, r0, k1⟩ := id ho
  have h9 : (a = a + 1) = False := by simp
  have hN : nb_ S c i i' j j' < S * S * S * S := nb4 hS (hc i j) (hc i j') (hc i' j) (hc i' j')
  have hV := hTl _ hN
  have h256 := (s4_le hS).2
  obtain ⟨S1, S2⟩ := id hS
  refine mu_ofWA G M_X3_turnBlock [.ref a, .ref tt, .int (mI ((C * i + j : Nat) : Int)), .int (mI ((C * i + j' : Nat) : Int)), .int (mI ((C * i' + j : Nat) : Int)), .int (mI ((C * i' + j' : Nat) : Int)), mu_no, mu_no] (by decide) rfl (Nat.le_of_ble_eq_true rfl) ?_
  intro X E
  have B : mu_B X G cX3_turnBlock RX3 8 (mu_rm M_X3_turnBlock) := E.1
  show mu_WA X G 8 _ _ 0 0 0 _ []
  refine mu_al_0 B dX3_turnBlock_0 ?_
  refine mu_getR B dX3_turnBlock_1 fX3_9 rfl (by assumption) (by assumption) ?_
  refine mu_il_2 B dX3_turnBlock_4 ?_
  refine mu_iald B dX3_turnBlock_5 (by assumption) (mI_inN (gs_ixN hR hC hi hj) (by decide)) ?_
  rw [mI_clampN (by have := gs_ixN hR hC hi hj; omega), hb i j hi hj]
  refine mu_al_0 B dX3_turnBlock_6 ?_
  refine mu_getI B dX3_turnBlock_7 fX3_22 rfl (by assumption) ?_
  rw [hf.1]
  refine mu_imul B dX3_turnBlock_10 ?_
  try rw [mI_mul]
  refine mu_al_0 B dX3_turnBlock_11 ?_
  refine mu_getR B dX3_turnBlock_12 fX3_9 rfl (by assumption) (by assumption) ?_
  refine mu_il_3 B dX3_turnBlock_15 ?_
  refine mu_iald B dX3_turnBlock_16 (by assumption) (mI_inN (gs_ixN hR hC hi hj') (by decide)) ?_
  rw [mI_clampN (by have := gs_ixN hR hC hi hj'; omega), hb i j' hi hj']
  refine mu_iadd B dX3_turnBlock_17 ?_
  try rw [mI_add]
  refine mu_al_0 B dX3_turnBlock_18 ?_
  refine mu_getI B dX3_turnBlock_19 fX3_22 rfl (by assumption) ?_
  rw [hf.1]
  refine mu_imul B dX3_turnBlock_22 ?_
  try rw [mI_mul]
  refine mu_al_0 B dX3_turnBlock_23 ?_
  refine mu_getR B dX3_turnBlock_24 fX3_9 rfl (by assumption) (by assumption) ?_
  refine mu_il_4 B dX3_turnBlock_27 ?_
  refine mu_iald B dX3_turnBlock_29 (by assumption) (mI_inN (gs_ixN hR hC hi' hj) (by decide)) ?_
  rw [mI_clampN (by have := gs_ixN hR hC hi' hj; omega), hb i' j hi' hj]
  refine mu_iadd B dX3_turnBlock_30 ?_
  try rw [mI_add]
  refine mu_al_0 B dX3_turnBlock_31 ?_
  refine mu_getI B dX3_turnBlock_32 fX3_22 rfl (by assumption) ?_
  rw [hf.1]
  refine mu_imul B dX3_turnBlock_35 ?_
  try rw [mI_mul]
  refine mu_al_0 B dX3_turnBlock_36 ?_
  refine mu_getR B dX3_turnBlock_37 fX3_9 rfl (by assumption) (by assumption) ?_
  refine mu_il_5 B dX3_turnBlock_40 ?_
  refine mu_iald B dX3_turnBlock_42 (by assumption) (mI_inN (gs_ixN hR hC hi' hj') (by decide)) ?_
  rw [mI_clampN (by have := gs_ixN hR hC hi' hj'; omega), hb i' j' hi' hj']
  refine mu_iadd B dX3_turnBlock_43 ?_
  try rw [mI_add]
  try rw [mI_add]
  rw [show (((c i j : Int) * (S : Int) + (c i j' : Int)) * (S : Int) + (c i' j : Int)) * (S : Int) + (c i' j' : Int) = ((nb_ S c i i' j j' : Nat) : Int) by unfold nb_; simp only [Int.natCast_add, Int.natCast_mul]]
  refine mu_is_6 B dX3_turnBlock_44 (by decide) rfl ?_
  refine mu_al_0 B dX3_turnBlock_46 ?_
  refine mu_getI B dX3_turnBlock_47 fX3_22 rfl (by assumption) ?_
  rw [hf.1]
  refine mu_iconst (v := mI 2) B dX3_turnBlock_50 rfl ?_
  refine mu_icmp_lt (tgt := 73) B dX3_turnBlock_51 (by decide) (fun c51 => ?_) (fun c51 => ?_)
  · try rw [mI_lt ⟨by omega, by omega⟩ ⟨by omega, by omega⟩] at c51
    exfalso
    omega
  · try rw [mI_lt ⟨by omega, by omega⟩ ⟨by omega, by omega⟩] at c51
    refine mu_il_6 B dX3_turnBlock_54 ?_
    refine mu_if_lt (tgt := 73) B dX3_turnBlock_56 (by decide) (fun c56 => ?_) (fun c56 => ?_)
    · try rw [mI_lt0 ⟨by omega, by omega⟩] at c56
      exfalso
      omega
    · try rw [mI_lt0 ⟨by omega, by omega⟩] at c56
      refine mu_il_6 B dX3_turnBlock_59 ?_
      refine mu_al_1 B dX3_turnBlock_61 ?_
      refine mu_len (ka := 0) B dX3_turnBlock_62 hkt (by decide) ?_
      refine mu_icmp_ge (tgt := 73) B dX3_turnBlock_63 (by decide) (fun c63 => ?_) (fun c63 => ?_)
      · try rw [mI_le ⟨by omega, by omega⟩ ⟨by omega, by omega⟩] at c63
        exfalso
        omega
      · try rw [mI_le ⟨by omega, by omega⟩ ⟨by omega, by omega⟩] at c63
        refine mu_al_1 B dX3_turnBlock_66 ?_
        refine mu_il_6 B dX3_turnBlock_67 ?_
        refine mu_iald B dX3_turnBlock_69 hkt (mI_inN (by omega) (by omega)) ?_
        rw [mI_clampN (by omega), hT _ hN]
        refine mu_if_ge (tgt := 74) B dX3_turnBlock_70 (by decide) (fun c70 => ?_) (fun c70 => ?_)
        · try rw [mI_ge0 ⟨by omega, by omega⟩] at c70
          refine mu_al_1 B dX3_turnBlock_74 ?_
          refine mu_il_6 B dX3_turnBlock_75 ?_
          refine mu_iald B dX3_turnBlock_77 hkt (mI_inN (by omega) (by omega)) ?_
          rw [mI_clampN (by omega), hT _ hN]
          obtain ⟨v, hv⟩ : ∃ v, tab (nb_ S c i i' j j') = v := ⟨_, rfl⟩
          rw [hv] at hV ⊢
          obtain ⟨v1, hv1⟩ : ∃ v1, v / S = v1 := ⟨_, rfl⟩
          have hd1 : v1 ≤ v := by rw [← hv1]; exact Nat.div_le_self v S
          obtain ⟨v2, hv2⟩ : ∃ v2, v1 / S = v2 := ⟨_, rfl⟩
          have hd2 : v2 ≤ v1 := by rw [← hv2]; exact Nat.div_le_self v1 S
          obtain ⟨v3, hv3⟩ : ∃ v3, v2 / S = v3 := ⟨_, rfl⟩
          refine mu_is_7 B dX3_turnBlock_78 (by decide) rfl ?_
          refine mu_al_0 B dX3_turnBlock_80 ?_
          refine mu_getR B dX3_turnBlock_81 fX3_9 rfl (by exact ka) (by exact r0) ?_
          refine mu_il_5 B dX3_turnBlock_84 ?_
          refine mu_il_7 B dX3_turnBlock_86 ?_
          refine mu_al_0 B dX3_turnBlock_88 ?_
          refine mu_getI B dX3_turnBlock_89 fX3_22 rfl (by exact ka) ?_
          try simp only [mu_iv_si, h9, false_and, if_false]
          rw [hf.1]
          refine mu_irem B dX3_turnBlock_92 ?_ ?_
          · exact mu_ne (by omega) (by omega)
          rw [mI_rem (by omega) (by omega) (by omega) (by omega), ← Int.natCast_emod]
          refine mu_iast B dX3_turnBlock_93 (by exact k1) (mI_inN (gs_ixN hR hC hi' hj') (by decide)) ?_
          rw [mI_clampN (by have := gs_ixN hR hC hi' hj'; omega)]
          refine mu_il_7 B dX3_turnBlock_94 ?_
          refine mu_al_0 B dX3_turnBlock_96 ?_
          refine mu_getI B dX3_turnBlock_97 fX3_22 rfl (by exact ka) ?_
          try simp only [mu_iv_si, h9, false_and, if_false]
          rw [hf.1]
          refine mu_idiv B dX3_turnBlock_100 ?_ ?_
          · exact mu_ne (by omega) (by omega)
          rw [mI_div (by omega) (by omega) (by omega) (by omega), ← Int.natCast_ediv, hv1]
          refine mu_is_7 B dX3_turnBlock_101 (by decide) rfl ?_
          refine mu_al_0 B dX3_turnBlock_103 ?_
          refine mu_getR B dX3_turnBlock_104 fX3_9 rfl (by exact ka) (by exact r0) ?_
          refine mu_il_4 B dX3_turnBlock_107 ?_
          refine mu_il_7 B dX3_turnBlock_109 ?_
          refine mu_al_0 B dX3_turnBlock_111 ?_
          refine mu_getI B dX3_turnBlock_112 fX3_22 rfl (by exact ka) ?_
          try simp only [mu_iv_si, h9, false_and, if_false]
          rw [hf.1]
          refine mu_irem B dX3_turnBlock_115 ?_ ?_
          · exact mu_ne (by omega) (by omega)
          rw [mI_rem (by omega) (by omega) (by omega) (by omega), ← Int.natCast_emod]
          refine mu_iast B dX3_turnBlock_116 (by exact k1) (mI_inN (gs_ixN hR hC hi' hj) (by decide)) ?_
          rw [mI_clampN (by have := gs_ixN hR hC hi' hj; omega)]
          refine mu_il_7 B dX3_turnBlock_117 ?_
          refine mu_al_0 B dX3_turnBlock_119 ?_
          refine mu_getI B dX3_turnBlock_120 fX3_22 rfl (by exact ka) ?_
          try simp only [mu_iv_si, h9, false_and, if_false]
          rw [hf.1]
          refine mu_idiv B dX3_turnBlock_123 ?_ ?_
          · exact mu_ne (by omega) (by omega)
          rw [mI_div (by omega) (by omega) (by omega) (by omega), ← Int.natCast_ediv, hv2]
          refine mu_is_7 B dX3_turnBlock_124 (by decide) rfl ?_
          refine mu_al_0 B dX3_turnBlock_126 ?_
          refine mu_getR B dX3_turnBlock_127 fX3_9 rfl (by exact ka) (by exact r0) ?_
          refine mu_il_3 B dX3_turnBlock_130 ?_
          refine mu_il_7 B dX3_turnBlock_131 ?_
          refine mu_al_0 B dX3_turnBlock_133 ?_
          refine mu_getI B dX3_turnBlock_134 fX3_22 rfl (by exact ka) ?_
          try simp only [mu_iv_si, h9, false_and, if_false]
          rw [hf.1]
          refine mu_irem B dX3_turnBlock_137 ?_ ?_
          · exact mu_ne (by omega) (by omega)
          rw [mI_rem (by omega) (by omega) (by omega) (by omega), ← Int.natCast_emod]
          refine mu_iast B dX3_turnBlock_138 (by exact k1) (mI_inN (gs_ixN hR hC hi hj') (by decide)) ?_
          rw [mI_clampN (by have := gs_ixN hR hC hi hj'; omega)]
          refine mu_al_0 B dX3_turnBlock_139 ?_
          refine mu_getR B dX3_turnBlock_140 fX3_9 rfl (by exact ka) (by exact r0) ?_
          refine mu_il_2 B dX3_turnBlock_143 ?_
          refine mu_il_7 B dX3_turnBlock_144 ?_
          refine mu_al_0 B dX3_turnBlock_146 ?_
          refine mu_getI B dX3_turnBlock_147 fX3_22 rfl (by exact ka) ?_
          try simp only [mu_iv_si, h9, false_and, if_false]
          rw [hf.1]
          refine mu_idiv B dX3_turnBlock_150 ?_ ?_
          · exact mu_ne (by omega) (by omega)
          rw [mI_div (by omega) (by omega) (by omega) (by omega), ← Int.natCast_ediv, hv3]
          refine mu_iast B dX3_turnBlock_151 (by exact k1) (mI_inN (gs_ixN hR hC hi hj) (by decide)) ?_
          rw [mI_clampN (by have := gs_ixN hR hC hi hj; omega)]
          refine mu_vret E rfl (by decide) (by decide) dX3_turnBlock_152 ?_
          refine ⟨rfl, ((((mu_Fi.refl (S := fun q _ => q = a + 1) w).si rfl).si rfl).si rfl).si rfl, ?_⟩
          unfold t1_
          rw [hv1, hv2, hv3]
          exact (((hb.wr hj').wr hj).wr hj').wr hj
        · try rw [mI_ge0 ⟨by omega, by omega⟩] at c70
          exfalso
          omega

set_option maxHeartbeats 4000000 in
set_option maxRecDepth 100000 in
theorem c_X3_turnBlocks (G : mu_G) {w : mu_W} {a : Nat} (ho : CGo w a) {S R C n : Nat} (hf : CGf w a S R C n) (hS : 2 ≤ S ∧ S ≤ 4) (hR : gs_sd R) (hC : gs_sd C) {c : Nat → Nat → Nat} (hb : CGc w a R C c) (hc : ∀ i j, c i j < S) {tt TN : Nat} (hkt : mu_kd w tt = some (100, TN)) (htt : tt ≠ a + 1) (hTN : S * S * S * S ≤ TN) (hTN2 : TN ≤ 1000000) {tab : Nat → Nat} (hT : ∀ b, b < S * S * S * S → mu_iv w tt b = mI (tab b)) (hTl : ∀ b, b < S * S * S * S → tab b < S * S * S * S) {off : Nat} (hoff : off ≤ 1) : mu_Ct G M_X3_turnBlocks [.ref a, .ref tt, .int (mI off)] w (fun r w' => r = none ∧ mu_Fi (fun q _ => q = a + 1) w w' ∧ CGc w' a R C (sp_tu tab S R C off c (R / 2))) := by
  obtain ⟨ka, r0, k1⟩ := id ho
  obtain ⟨R1, R2, R3⟩ := id hR
  obtain ⟨C1, C2, C3⟩ := id hC
  obtain ⟨S1, S2⟩ := id hS
  refine mu_ofWA G M_X3_turnBlocks [.ref a, .ref tt, .int (mI off), mu_no, mu_no, mu_no, mu_no, mu_no] (by decide) rfl (Nat.le_of_ble_eq_true rfl) ?_
  intro X E
  have B : mu_B X G cX3_turnBlocks RX3 8 (mu_rm M_X3_turnBlocks) := E.1
  have LI : ∀ r (s : mu_W), r ≤ R / 2 → (mu_Fi (fun q _ => q = a + 1) w s ∧ CGc s a R C (sp_tu tab S R C off c r)) → mu_WA X G 8 (mu_Q X G M_X3_turnBlocks (fun r w' => r = none ∧ mu_Fi (fun q _ => q = a + 1) w w' ∧ CGc w' a R C (sp_tu tab S R C off c (R / 2)))) s 0 0 2 [.ref a, .ref tt, .int (mI off), .int (mI ((off + 2 * r : Nat) : Int)), mu_no, mu_no, mu_no, mu_no] [] := by
    refine mu_ind (R / 2) (fun r (s : mu_W) => mu_WA X G 8 (mu_Q X G M_X3_turnBlocks (fun r w' => r = none ∧ mu_Fi (fun q _ => q = a + 1) w w' ∧ CGc w' a R C (sp_tu tab S R C off c (R / 2)))) s 0 0 2 [.ref a, .ref tt, .int (mI off), .int (mI ((off + 2 * r : Nat) : Int)), mu_no, mu_no, mu_no, mu_no] []) (fun r (s : mu_W) => mu_Fi (fun q _ => q = a + 1) w s ∧ CGc s a R C (sp_tu tab S R C off c r)) ?_
    intro r s hr ⟨hFs, hbs⟩ ih
    have hfs := hf.fi hFs (fun j _ _ hh => by omega)
    refine mu_il_3 B dX3_turnBlocks_2 ?_
    refine mu_al_0 B dX3_turnBlocks_3 ?_
    refine mu_getI B dX3_turnBlocks_4 fX3_25 rfl (hFs.kd ka) ?_
    rw [hfs.2.1]
    refine mu_icmp_ge (tgt := 111) B dX3_turnBlocks_7 (by decide) (fun c7 => ?_) (fun c7 => ?_)
    · try rw [mI_le ⟨by omega, by omega⟩ ⟨by omega, by omega⟩] at c7
      try rw [mI_le ⟨by omega, by omega⟩ ⟨by omega, by omega⟩] at c7
      obtain rfl : R / 2 = r := by omega
      refine mu_vret E rfl (by decide) (by decide) dX3_turnBlocks_111 ?_
      exact ⟨rfl, hFs, hbs⟩
    · try rw [mI_le ⟨by omega, by omega⟩ ⟨by omega, by omega⟩] at c7
      have K39 : ∀ lw : Nat, lw = C * ((off + 2 * r + 1) % R) → mu_WA X G 8 (mu_Q X G M_X3_turnBlocks (fun r w' => r = none ∧ mu_Fi (fun q _ => q = a + 1) w w' ∧ CGc w' a R C (sp_tu tab S R C off c (R / 2)))) s 0 0 39 [.ref a, .ref tt, .int (mI off), .int (mI ((off + 2 * r : Nat) : Int)), .int (mI ((C * (off + 2 * r) : Nat) : Int)), mu_no, mu_no, mu_no] [.int (mI (lw : Int))] := by
        intro lw hlw
        subst hlw
        have LJ : ∀ q (t : mu_W), q ≤ C / 2 → (mu_Fi (fun q _ => q = a + 1) w t ∧ CGc t a R C (sp_tr tab S R C (off + 2 * r) off (sp_tu tab S R C off c r) q)) → mu_WA X G 8 (mu_Q X G M_X3_turnBlocks (fun r w' => r = none ∧ mu_Fi (fun q _ => q = a + 1) w w' ∧ CGc w' a R C (sp_tu tab S R C off c (R / 2)))) t 0 0 44 [.ref a, .ref tt, .int (mI off), .int (mI ((off + 2 * r : Nat) : Int)), .int (mI ((C * (off + 2 * r) : Nat) : Int)), .int (mI ((C * ((off + 2 * r + 1) % R) : Nat) : Int)), .int (mI ((off + 2 * q : Nat) : Int)), mu_no] [] := by
          refine mu_ind (C / 2) (fun q (t : mu_W) => mu_WA X G 8 (mu_Q X G M_X3_turnBlocks (fun r w' => r = none ∧ mu_Fi (fun q _ => q = a + 1) w w' ∧ CGc w' a R C (sp_tu tab S R C off c (R / 2)))) t 0 0 44 [.ref a, .ref tt, .int (mI off), .int (mI ((off + 2 * r : Nat) : Int)), .int (mI ((C * (off + 2 * r) : Nat) : Int)), .int (mI ((C * ((off + 2 * r + 1) % R) : Nat) : Int)), .int (mI ((off + 2 * q : Nat) : Int)), mu_no] []) (fun q (t : mu_W) => mu_Fi (fun q _ => q = a + 1) w t ∧ CGc t a R C (sp_tr tab S R C (off + 2 * r) off (sp_tu tab S R C off c r) q)) ?_
          intro q t hq ⟨hFt, hbt⟩ ihq
          have hft := hf.fi hFt (fun j _ _ hh => by omega)
          have hcq : ∀ i j, (sp_tr tab S R C (off + 2 * r) off (sp_tu tab S R C off c r) q) i j < S := sp_tr_lt (by omega) (sp_tu_lt (by omega) hc r) q
          refine mu_il_6 B dX3_turnBlocks_44 ?_
          refine mu_al_0 B dX3_turnBlocks_46 ?_
          refine mu_getI B dX3_turnBlocks_47 fX3_28 rfl (hFt.kd ka) ?_
          rw [hft.2.2.1]
          refine mu_icmp_ge (tgt := 105) B dX3_turnBlocks_50 (by decide) (fun c50 => ?_) (fun c50 => ?_)
          · try rw [mI_le ⟨by omega, by omega⟩ ⟨by omega, by omega⟩] at c50
            try rw [mI_le ⟨by omega, by omega⟩ ⟨by omega, by omega⟩] at c50
            obtain rfl : C / 2 = q := by omega
            refine mu_inc_3 (c := mI 2) B dX3_turnBlocks_105 rfl (by decide) rfl ?_
            try rw [mI_add]
            refine mu_goto (tgt := 2) B dX3_turnBlocks_108 (by decide) ?_
            exact mu_fg (ih _ (by omega) ⟨hFt, hbt⟩) rfl (by rw [show ((off + 2 * (r + 1) : Nat) : Int) = ((off + 2 * r : Nat) : Int) + 2 by omega]; exact ⟨Or.inl rfl, Or.inl rfl, Or.inl rfl, Or.inl rfl, Or.inr rfl, Or.inr rfl, Or.inr rfl, Or.inr rfl, trivial⟩)
          · try rw [mI_le ⟨by omega, by omega⟩ ⟨by omega, by omega⟩] at c50
            have K72 : ∀ wr : Nat, wr = (off + 2 * q + 1) % C → mu_WA X G 8 (mu_Q X G M_X3_turnBlocks (fun r w' => r = none ∧ mu_Fi (fun q _ => q = a + 1) w w' ∧ CGc w' a R C (sp_tu tab S R C off c (R / 2)))) t 0 0 72 [.ref a, .ref tt, .int (mI off), .int (mI ((off + 2 * r : Nat) : Int)), .int (mI ((C * (off + 2 * r) : Nat) : Int)), .int (mI ((C * ((off + 2 * r + 1) % R) : Nat) : Int)), .int (mI ((off + 2 * q : Nat) : Int)), mu_no] [.int (mI (wr : Int))] := by
              intro wr hwr
              subst hwr
              have hj2 : (off + 2 * q + 1) % C < C := Nat.mod_lt _ (by omega)
              refine mu_is_7 B dX3_turnBlocks_72 (by decide) rfl ?_
              refine mu_al_0 B dX3_turnBlocks_74 ?_
              refine mu_al_1 B dX3_turnBlocks_75 ?_
              refine mu_il_4 B dX3_turnBlocks_76 ?_
              refine mu_il_6 B dX3_turnBlocks_78 ?_
              refine mu_iadd B dX3_turnBlocks_80 ?_
              try rw [mI_add]
              try rw [mI_add]
              rw [show ((C * (off + 2 * r) : Nat) : Int) + ((off + 2 * q : Nat) : Int) = ((C * (off + 2 * r) + (off + 2 * q) : Nat) : Int) from (Int.natCast_add _ _).symm]
              refine mu_il_4 B dX3_turnBlocks_81 ?_
              refine mu_il_7 B dX3_turnBlocks_83 ?_
              refine mu_iadd B dX3_turnBlocks_85 ?_
              try rw [mI_add]
              try rw [mI_add]
              rw [show ((C * (off + 2 * r) : Nat) : Int) + (((off + 2 * q + 1) % C : Nat) : Int) = ((C * (off + 2 * r) + ((off + 2 * q + 1) % C) : Nat) : Int) from (Int.natCast_add _ _).symm]
              refine mu_il_5 B dX3_turnBlocks_86 ?_
              refine mu_il_6 B dX3_turnBlocks_88 ?_
              refine mu_iadd B dX3_turnBlocks_90 ?_
              try rw [mI_add]
              try rw [mI_add]
              rw [show ((C * ((off + 2 * r + 1) % R) : Nat) : Int) + ((off + 2 * q : Nat) : Int) = ((C * ((off + 2 * r + 1) % R) + (off + 2 * q) : Nat) : Int) from (Int.natCast_add _ _).symm]
              refine mu_il_5 B dX3_turnBlocks_91 ?_
              refine mu_il_7 B dX3_turnBlocks_93 ?_
              refine mu_iadd B dX3_turnBlocks_95 ?_
              try rw [mI_add]
              try rw [mI_add]
              rw [show ((C * ((off + 2 * r + 1) % R) : Nat) : Int) + (((off + 2 * q + 1) % C : Nat) : Int) = ((C * ((off + 2 * r + 1) % R) + ((off + 2 * q + 1) % C) : Nat) : Int) from (Int.natCast_add _ _).symm]
              refine mu_cV5 B dX3_turnBlocks_96 mX3_63 ⟨⟨by decide, by decide⟩, by decide, by decide⟩ (Nat.le_of_ble_eq_true rfl) (hFt.kd ka) (c_X3_turnBlock G (ho.fi hFt) (hf.fi hFt (fun j _ _ hh => by omega)) hS hR hC hbt hcq (hFt.kd hkt) hTN hTN2 (tab := tab) (fun b hb9 => hFt.iv (fun q9 => htt q9) (hT b hb9)) hTl (i := off + 2 * r) (i' := (off + 2 * r + 1) % R) (j := off + 2 * q) (j' := (off + 2 * q + 1) % C) (by omega) (Nat.mod_lt _ (by omega)) (by omega) hj2) (fun r96 w96 q96 => ?_)
              obtain ⟨rfl, hF4, hb4⟩ := q96
              refine mu_inc_6 (c := mI 2) B dX3_turnBlocks_99 rfl (by decide) rfl ?_
              try rw [mI_add]
              refine mu_goto (tgt := 44) B dX3_turnBlocks_102 (by decide) ?_
              rw [← sp_t1_eq (by omega) (by omega) (by omega) (hTl _ (nb4 hS (hcq _ _) (hcq _ _) (hcq _ _) (hcq _ _)))] at hb4
              exact mu_fg (ihq _ (by omega) ⟨hFt.trans hF4, hb4⟩) rfl (by rw [show ((off + 2 * (q + 1) : Nat) : Int) = ((off + 2 * q : Nat) : Int) + 2 by omega]; exact ⟨Or.inl rfl, Or.inl rfl, Or.inl rfl, Or.inl rfl, Or.inl rfl, Or.inl rfl, Or.inl rfl, Or.inr rfl, trivial⟩)
            refine mu_il_6 B dX3_turnBlocks_53 ?_
            refine mu_iconst (v := mI 1) B dX3_turnBlocks_55 rfl ?_
            refine mu_iadd B dX3_turnBlocks_56 ?_
            try rw [mI_add]
            try rw [mI_add]
            rw [show ((off + 2 * q : Nat) : Int) + 1 = ((off + 2 * q + 1 : Nat) : Int) by omega]
            refine mu_al_0 B dX3_turnBlocks_57 ?_
            refine mu_getI B dX3_turnBlocks_58 fX3_28 rfl (hFt.kd ka) ?_
            rw [hft.2.2.1]
            refine mu_icmp_ge (tgt := 71) B dX3_turnBlocks_61 (by decide) (fun c61 => ?_) (fun c61 => ?_)
            · try rw [mI_le ⟨by omega, by omega⟩ ⟨by omega, by omega⟩] at c61
              refine mu_iconst (v := mI 0) B dX3_turnBlocks_71 rfl ?_
              first
                | exact K72 (off + 2 * q + 1) (Nat.mod_eq_of_lt (by omega)).symm
                | exact K72 0 (by rw [show off + 2 * q + 1 = C by omega, Nat.mod_self])
            · try rw [mI_le ⟨by omega, by omega⟩ ⟨by omega, by omega⟩] at c61
              refine mu_il_6 B dX3_turnBlocks_64 ?_
              refine mu_iconst (v := mI 1) B dX3_turnBlocks_66 rfl ?_
              refine mu_iadd B dX3_turnBlocks_67 ?_
              try rw [mI_add]
              try rw [mI_add]
              rw [show ((off + 2 * q : Nat) : Int) + 1 = ((off + 2 * q + 1 : Nat) : Int) by omega]
              refine mu_goto (tgt := 72) B dX3_turnBlocks_68 (by decide) ?_
              first
                | exact K72 (off + 2 * q + 1) (Nat.mod_eq_of_lt (by omega)).symm
                | exact K72 0 (by rw [show off + 2 * q + 1 = C by omega, Nat.mod_self])
        refine mu_is_5 B dX3_turnBlocks_39 (by decide) rfl ?_
        refine mu_il_2 B dX3_turnBlocks_41 ?_
        refine mu_is_6 B dX3_turnBlocks_42 (by decide) rfl ?_
        exact mu_to (LJ 0 s (Nat.zero_le _) ⟨hFs, hbs⟩) rfl (by rw [show off + 2 * 0 = off by omega])
      refine mu_il_3 B dX3_turnBlocks_10 ?_
      refine mu_al_0 B dX3_turnBlocks_11 ?_
      refine mu_getI B dX3_turnBlocks_12 fX3_28 rfl (hFs.kd ka) ?_
      rw [hfs.2.2.1]
      refine mu_imul B dX3_turnBlocks_15 ?_
      try rw [mI_mul]
      try rw [mI_mul]
      rw [im_]
      refine mu_is_4 B dX3_turnBlocks_16 (by decide) rfl ?_
      refine mu_il_3 B dX3_turnBlocks_18 ?_
      refine mu_iconst (v := mI 1) B dX3_turnBlocks_19 rfl ?_
      refine mu_iadd B dX3_turnBlocks_20 ?_
      try rw [mI_add]
      try rw [mI_add]
      rw [show ((off + 2 * r : Nat) : Int) + 1 = ((off + 2 * r + 1 : Nat) : Int) by omega]
      refine mu_al_0 B dX3_turnBlocks_21 ?_
      refine mu_getI B dX3_turnBlocks_22 fX3_25 rfl (hFs.kd ka) ?_
      rw [hfs.2.1]
      refine mu_icmp_ge (tgt := 38) B dX3_turnBlocks_25 (by decide) (fun c25 => ?_) (fun c25 => ?_)
      · try rw [mI_le ⟨by omega, by omega⟩ ⟨by omega, by omega⟩] at c25
        refine mu_iconst (v := mI 0) B dX3_turnBlocks_38 rfl ?_
        first
          | exact K39 _ (by rw [Nat.mod_eq_of_lt (by omega)])
          | exact K39 0 (by rw [show off + 2 * r + 1 = R by omega, Nat.mod_self, Nat.mul_zero])
      · try rw [mI_le ⟨by omega, by omega⟩ ⟨by omega, by omega⟩] at c25
        refine mu_il_4 B dX3_turnBlocks_28 ?_
        refine mu_al_0 B dX3_turnBlocks_30 ?_
        refine mu_getI B dX3_turnBlocks_31 fX3_28 rfl (hFs.kd ka) ?_
        rw [hfs.2.2.1]
        refine mu_iadd B dX3_turnBlocks_34 ?_
        try rw [mI_add]
        try rw [mI_add]
        rw [show ((C * (off + 2 * r) : Nat) : Int) + (C : Int) = ((C * (off + 2 * r + 1) : Nat) : Int) by rw [Nat.mul_succ, Int.natCast_add]]
        refine mu_goto (tgt := 39) B dX3_turnBlocks_35 (by decide) ?_
        first
          | exact K39 _ (by rw [Nat.mod_eq_of_lt (by omega)])
          | exact K39 0 (by rw [show off + 2 * r + 1 = R by omega, Nat.mod_self, Nat.mul_zero])
  show mu_WA X G 8 _ _ 0 0 0 _ []
  refine mu_il_2 B dX3_turnBlocks_0 ?_
  refine mu_is_3 B dX3_turnBlocks_1 (by decide) rfl ?_
  exact mu_to (LI 0 w (Nat.zero_le _) ⟨mu_Fi.refl _, hb⟩) rfl (by rw [show off + 2 * 0 = off by omega])
