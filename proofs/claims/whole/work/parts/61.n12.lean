/-! ===== the stepper: the next word ===== -/
theorem c_X9_tally2 (G : mu_G) {w : mu_W} {b kb : Nat} (hkb : mu_kd w b = some (9, kb)) {N : Nat → Nat} (hT : TD w b N) {m : Nat} (hN : ∀ i, N i ≤ m) (hm : m ≤ 7) {c : Nat → Nat → Nat} (hc : ∀ i j, c i j ≤ 1) {X y : Int} {d : Int64} (hd : WDx c X y d) : mu_Ct G M_X9_tally [.ref b, .long d] w (fun r w' => r = none ∧ mu_Fi (taS b) w w' ∧ TD w' b (fun i => N i + sp_al 256 256 c (X + (i : Int)) y) ∧ ∀ i, N i + sp_al 256 256 c (X + (i : Int)) y ≤ m + 1) := by
  refine (c_X9_tally G hkb hT (fun i _ => Nat.le_trans (hN i) hm)).mono (fun r w' h => ?_)
  obtain ⟨h1, h2, h3⟩ := h
  refine ⟨h1, h2, fun i hi => ?_, fun i => ?_⟩
  · have e : (if lb d i = true then 1 else 0) = sp_al 256 256 c (X + (i : Int)) y := by
      have h4 := sp_al_le (W := 256) (H := 256) hc (X + (i : Int)) y
      rw [hd i hi]
      by_cases e9 : sp_al 256 256 c (X + (i : Int)) y = 1
      · rw [e9]; rfl
      · rw [decide_eq_false e9, if_neg (by decide)]; omega
    have h5 := h3 i hi
    dsimp only at h5 ⊢
    simp only [e] at h5
    exact h5
  · have h4 := sp_al_le (W := 256) (H := 256) hc (X + (i : Int)) y
    have := hN i
    omega
/-- what the stepper reads: its three rows and the rule -/
def NB (w : mu_W) (b e0 e1 e2 rr : Nat) (c : Nat → Nat → Nat) (y : Int) (nb bo st : Nat) : Prop := mu_kd w b = some (9, 0) ∧ mu_rv w b 0 = some e0 ∧ mu_rv w b 1 = some e1 ∧ mu_rv w b 2 = some e2 ∧ RWx w e0 c (y - 1) ∧ RWx w e1 c y ∧ RWx w e2 c (y + 1) ∧ mu_kd w rr = some (4, 0) ∧ mu_iv w rr 1 = mI nb ∧ mu_iv w rr 2 = mI bo ∧ mu_iv w rr 3 = mI st
theorem NB.fi {w w' : mu_W} {b e0 e1 e2 rr : Nat} {c : Nat → Nat → Nat} {y : Int} {nb bo st : Nat} (h : NB w b e0 e1 e2 rr c y nb bo st) (hF : mu_Fi (taS b) w w') : NB w' b e0 e1 e2 rr c y nb bo st := by
  obtain ⟨h1, h2, h3, h4, h5, h6, h7, h8, h9, h10, h11⟩ := h
  have n0 : ∀ e, mu_kd w e = some (101, 6) → ∀ j, ¬ taS b e j := fun e he j q => by rw [q.1, h1] at he; cases he
  have n1 : ∀ j, ¬ taS b rr j := fun j q => by rw [q.1, h1] at h8; cases h8
  exact ⟨hF.kd h1, hF.rv h2, hF.rv h3, hF.rv h4, h5.fi hF (n0 _ h5.1), h6.fi hF (n0 _ h6.1), h7.fi hF (n0 _ h7.1), hF.kd h8, hF.iv (n1 1) h9, hF.iv (n1 2) h10, hF.iv (n1 3) h11⟩
def nw_post (w : mu_W) (b : Nat) (c : Nat → Nat → Nat) (k : Nat) (y : Int) (nb bo st : Nat) (r : Option Value) (w' : mu_W) : Prop := (∃ d, r = some (.long d) ∧ ∀ i, i < 64 → lb d i = decide (sp_af 256 256 c nb bo st (64 * (k : Int) - 64 + (i : Int)) y = 1)) ∧ mu_Fi (taS b) w w'

set_option maxHeartbeats 4000000 in
set_option maxRecDepth 100000 in
theorem c_X9_nextWord (G : mu_G) {w : mu_W} {b e0 e1 e2 rr : Nat} {c : Nat → Nat → Nat} (hc : ∀ i j, c i j ≤ 1) {y : Int} {nb bo st : Nat} (hB : NB w b e0 e1 e2 rr c y nb bo st) (hnb : nb = 4 ∨ nb = 6 ∨ nb = 8) (hbo : bo ≤ 1000000) (hst : st ≤ 1000000) {k : Nat} (hk1 : 1 ≤ k) (hk4 : k ≤ 4) : mu_Ct G M_X9_nextWord [.ref b, .int (mI k), .ref rr] w (nw_post w b c k y nb bo st) := by
  obtain ⟨kb, v0, v1, v2, x0, x1, x2, kr, i1, i2, i3⟩ := id hB
  refine mu_ofWA G M_X9_nextWord [.ref b, .int (mI k), .ref rr] (by decide) rfl (Nat.le_of_ble_eq_true rfl) ?_
  intro X E
  have B : mu_B X G cX9_nextWord RX9 3 (mu_rm M_X9_nextWord) := E.1
  have K142 : ∀ (s : mu_W) (N : Nat → Nat), mu_Fi (taS b) w s → NB s b e0 e1 e2 rr c y nb bo st → TD s b N → (∀ i, i < 64 → N i = sp_ne 256 256 c nb (64 * (k : Int) - 64 + (i : Int)) y) → mu_WA X G 3 (mu_Q X G M_X9_nextWord (nw_post w b c k y nb bo st)) s 0 0 142 [.ref b, .int (mI k), .ref rr] [] := by
    intro s N hG hB hT hNe
    obtain ⟨kb, v0, v1, v2, x0, x1, x2, kr, i1, i2, i3⟩ := id hB
    refine mu_al_0 B dX9_nextWord_142 ?_
    refine mu_getR B dX9_nextWord_143 fX9_15 rfl (by assumption) (by assumption) ?_
    refine mu_il_1 B dX9_nextWord_146 ?_
    refine mu_lald B dX9_nextWord_147 x1.1 (mI_inN (by omega) (by decide)) ?_
    rw [mI_clampN (by omega)]
    refine mu_al_0 B dX9_nextWord_148 ?_
    refine mu_al_2 B dX9_nextWord_149 ?_
    refine mu_getIN B dX9_nextWord_150 fX9_99 rfl (by assumption) ?_
    rw [i3]
    refine mu_cV1 B dX9_nextWord_153 mX9_102 ⟨⟨by decide, by decide⟩, by decide, by decide⟩ (Nat.le_of_ble_eq_true rfl) kb (c_X9_thoseIn G kb hT hst) (fun r153 w153 q153 => ?_)
    obtain ⟨⟨d1, rfl, hd1⟩, rfl⟩ := q153
    show mu_WA X G 3 _ _ 0 0 156 _ [.long d1, .long _]
    refine mu_land B dX9_nextWord_156 ?_
    refine mu_al_0 B dX9_nextWord_157 ?_
    refine mu_getR B dX9_nextWord_158 fX9_15 rfl (by assumption) (by assumption) ?_
    refine mu_il_1 B dX9_nextWord_161 ?_
    refine mu_lald B dX9_nextWord_162 x1.1 (mI_inN (by omega) (by decide)) ?_
    rw [mI_clampN (by omega)]
    refine mu_ldc2 B kX9_106 dX9_nextWord_163 ?_
    refine mu_lxor B dX9_nextWord_166 ?_
    refine mu_al_0 B dX9_nextWord_167 ?_
    refine mu_al_2 B dX9_nextWord_168 ?_
    refine mu_getIN B dX9_nextWord_169 fX9_108 rfl (by assumption) ?_
    rw [i2]
    refine mu_cV1 B dX9_nextWord_172 mX9_102 ⟨⟨by decide, by decide⟩, by decide, by decide⟩ (Nat.le_of_ble_eq_true rfl) kb (c_X9_thoseIn G kb hT hbo) (fun r172 w172 q172 => ?_)
    obtain ⟨⟨d2, rfl, hd2⟩, rfl⟩ := q172
    show mu_WA X G 3 _ _ 0 0 175 _ [.long d2, .long _, .long _]
    refine mu_land B dX9_nextWord_175 ?_
    refine mu_lor B dX9_nextWord_176 ?_
    refine mu_lret E rfl (by decide) (by decide) dX9_nextWord_177 ?_
    refine ⟨⟨_, rfl, fun i hi => ?_⟩, hG⟩
    rw [lb_or, lb_and, lb_and, lb_xor, lb_m1 i hi, hd1 i hi, hd2 i hi, x1.2 k (by omega) i hi, hNe i hi]
    unfold sp_af
    by_cases e9 : sp_al 256 256 c (64 * (k : Int) - 64 + (i : Int)) y = 1
    · rw [if_pos e9, decide_eq_true e9, Nat.testBit_eq_decide_div_mod_eq]; simp
    · rw [if_neg e9, decide_eq_false e9, Nat.testBit_eq_decide_div_mod_eq (x := bo)]; simp
  show mu_WA X G 3 _ _ 0 0 0 _ []
  refine mu_il_1 B dX9_nextWord_0 ?_
  refine mu_iconst (v := mI 1) B dX9_nextWord_1 rfl ?_
  refine mu_icmp_lt (tgt := 10) B dX9_nextWord_2 (by decide) (fun c2 => ?_) (fun c2 => ?_)
  · try rw [mI_lt ⟨by omega, by omega⟩ ⟨by omega, by omega⟩] at c2
    exfalso
    omega
  · try rw [mI_lt ⟨by omega, by omega⟩ ⟨by omega, by omega⟩] at c2
    refine mu_il_1 B dX9_nextWord_5 ?_
    refine mu_iconst (v := mI 4) B dX9_nextWord_6 rfl ?_
    refine mu_icmp_le (tgt := 12) B dX9_nextWord_7 (by decide) (fun c7 => ?_) (fun c7 => ?_)
    · try rw [mI_le ⟨by omega, by omega⟩ ⟨by omega, by omega⟩] at c7
      refine mu_al_0 B dX9_nextWord_12 ?_
      refine mu_lconst (v := mL 0) B dX9_nextWord_13 rfl ?_
      refine mu_putL B dX9_nextWord_14 fX9_70 fwX9_3 rfl (by assumption) ?_
      refine mu_al_0 B dX9_nextWord_17 ?_
      refine mu_lconst (v := mL 0) B dX9_nextWord_18 rfl ?_
      refine mu_putL B dX9_nextWord_19 fX9_74 fwX9_4 rfl (by assumption) ?_
      refine mu_al_0 B dX9_nextWord_22 ?_
      refine mu_lconst (v := mL 0) B dX9_nextWord_23 rfl ?_
      refine mu_putL B dX9_nextWord_24 fX9_77 fwX9_5 rfl (by assumption) ?_
      refine mu_al_0 B dX9_nextWord_27 ?_
      refine mu_lconst (v := mL 0) B dX9_nextWord_28 rfl ?_
      refine mu_putL B dX9_nextWord_29 fX9_80 fwX9_6 rfl (by assumption) ?_
      have hG : mu_Fi (taS b) w (mu_sl (mu_sl (mu_sl (mu_sl w b 3 (mL 0)) b 4 (mL 0)) b 5 (mL 0)) b 6 (mL 0)) := ((((mu_Fi.refl _).sl ⟨rfl, by decide, by decide⟩).sl ⟨rfl, by decide, by decide⟩).sl ⟨rfl, by decide, by decide⟩).sl ⟨rfl, by decide, by decide⟩
      have hT : TD (mu_sl (mu_sl (mu_sl (mu_sl w b 3 (mL 0)) b 4 (mL 0)) b 5 (mL 0)) b 6 (mL 0)) b (fun _ => 0) := fun i hi => ⟨Nat.zero_le _, by simp [mu_lg_sl]; exact lb_0 i, by simp [mu_lg_sl]; exact lb_0 i, by simp [mu_lg_sl]; exact lb_0 i, by simp [mu_lg_sl]; exact lb_0 i⟩
      have hN : ∀ i : Nat, (fun _ : Nat => 0) i ≤ 0 := fun _ => Nat.le_refl _
      replace hB := hB.fi hG
      clear kb v0 v1 v2 x0 x1 x2 kr i1 i2 i3
      obtain ⟨kb, v0, v1, v2, x0, x1, x2, kr, i1, i2, i3⟩ := id hB
      refine mu_al_0 B dX9_nextWord_32 ?_
      refine mu_al_0 B dX9_nextWord_33 ?_
      refine mu_getR B dX9_nextWord_34 fX9_9 rfl (by assumption) (by assumption) ?_
      refine mu_il_1 B dX9_nextWord_37 ?_
      refine mu_lald B dX9_nextWord_38 x0.1 (mI_inN (by omega) (by decide)) ?_
      rw [mI_clampN (by omega)]
      refine mu_cV1 B dX9_nextWord_39 mX9_83 ⟨⟨by decide, by decide⟩, by decide, by decide⟩ (Nat.le_of_ble_eq_true rfl) kb (c_X9_tally2 G kb hT (m := 0) (fun i => Nat.le_trans (hN i) (by decide)) (by decide) hc (x0.2 k (by omega))) (fun r39 w39 q39 => ?_)
      obtain ⟨rfl, hF1, hT1, hN1⟩ := q39
      replace hG := hG.trans hF1
      replace hB := hB.fi hF1
      clear hT hN kb v0 v1 v2 x0 x1 x2 kr i1 i2 i3
      have hT := hT1
      have hN := hN1
      clear hF1 hT1 hN1
      obtain ⟨kb, v0, v1, v2, x0, x1, x2, kr, i1, i2, i3⟩ := id hB
      show mu_WA X G 3 _ w39 0 0 42 _ []
      refine mu_al_0 B dX9_nextWord_42 ?_
      refine mu_al_0 B dX9_nextWord_43 ?_
      refine mu_getR B dX9_nextWord_44 fX9_18 rfl (by assumption) (by assumption) ?_
      refine mu_il_1 B dX9_nextWord_47 ?_
      refine mu_lald B dX9_nextWord_48 x2.1 (mI_inN (by omega) (by decide)) ?_
      rw [mI_clampN (by omega)]
      refine mu_cV1 B dX9_nextWord_49 mX9_83 ⟨⟨by decide, by decide⟩, by decide, by decide⟩ (Nat.le_of_ble_eq_true rfl) kb (c_X9_tally2 G kb hT (m := 1) (fun i => Nat.le_trans (hN i) (by decide)) (by decide) hc (x2.2 k (by omega))) (fun r49 w49 q49 => ?_)
      obtain ⟨rfl, hF1, hT1, hN1⟩ := q49
      replace hG := hG.trans hF1
      replace hB := hB.fi hF1
      clear hT hN kb v0 v1 v2 x0 x1 x2 kr i1 i2 i3
      have hT := hT1
      have hN := hN1
      clear hF1 hT1 hN1
      obtain ⟨kb, v0, v1, v2, x0, x1, x2, kr, i1, i2, i3⟩ := id hB
      show mu_WA X G 3 _ w49 0 0 52 _ []
      refine mu_al_0 B dX9_nextWord_52 ?_
      refine mu_al_0 B dX9_nextWord_53 ?_
      refine mu_getR B dX9_nextWord_54 fX9_15 rfl (by assumption) (by assumption) ?_
      refine mu_il_1 B dX9_nextWord_57 ?_
      refine mu_cS2 B dX9_nextWord_58 mX9_87 ⟨⟨by decide, by decide⟩, by decide, by decide⟩ (Nat.le_of_ble_eq_true rfl) (c_X9_westOf G x1 (by omega) (by omega)) (fun r58 w58 q58 => ?_)
      obtain ⟨⟨d58, rfl, hd⟩, rfl⟩ := q58
      show mu_WA X G 3 _ _ 0 0 61 _ [.long d58, .ref b]
      refine mu_cV1 B dX9_nextWord_61 mX9_83 ⟨⟨by decide, by decide⟩, by decide, by decide⟩ (Nat.le_of_ble_eq_true rfl) kb (c_X9_tally2 G kb hT (m := 2) (fun i => Nat.le_trans (hN i) (by decide)) (by decide) hc hd) (fun r61 w61 q61 => ?_)
      obtain ⟨rfl, hF1, hT1, hN1⟩ := q61
      replace hG := hG.trans hF1
      replace hB := hB.fi hF1
      clear hT hN kb v0 v1 v2 x0 x1 x2 kr i1 i2 i3
      have hT := hT1
      have hN := hN1
      clear hF1 hT1 hN1
      obtain ⟨kb, v0, v1, v2, x0, x1, x2, kr, i1, i2, i3⟩ := id hB
      show mu_WA X G 3 _ w61 0 0 64 _ []
      refine mu_al_0 B dX9_nextWord_64 ?_
      refine mu_al_0 B dX9_nextWord_65 ?_
      refine mu_getR B dX9_nextWord_66 fX9_15 rfl (by assumption) (by assumption) ?_
      refine mu_il_1 B dX9_nextWord_69 ?_
      refine mu_cS2 B dX9_nextWord_70 mX9_91 ⟨⟨by decide, by decide⟩, by decide, by decide⟩ (Nat.le_of_ble_eq_true rfl) (c_X9_eastOf G x1 (by omega) (by omega)) (fun r70 w70 q70 => ?_)
      obtain ⟨⟨d70, rfl, hd⟩, rfl⟩ := q70
      show mu_WA X G 3 _ _ 0 0 73 _ [.long d70, .ref b]
      refine mu_cV1 B dX9_nextWord_73 mX9_83 ⟨⟨by decide, by decide⟩, by decide, by decide⟩ (Nat.le_of_ble_eq_true rfl) kb (c_X9_tally2 G kb hT (m := 3) (fun i => Nat.le_trans (hN i) (by decide)) (by decide) hc hd) (fun r73 w73 q73 => ?_)
      obtain ⟨rfl, hF1, hT1, hN1⟩ := q73
      replace hG := hG.trans hF1
      replace hB := hB.fi hF1
      clear hT hN kb v0 v1 v2 x0 x1 x2 kr i1 i2 i3
      have hT := hT1
      have hN := hN1
      clear hF1 hT1 hN1
      obtain ⟨kb, v0, v1, v2, x0, x1, x2, kr, i1, i2, i3⟩ := id hB
      show mu_WA X G 3 _ w73 0 0 76 _ []
      refine mu_al_2 B dX9_nextWord_76 ?_
      refine mu_getIN B dX9_nextWord_77 fX9_94 rfl (by assumption) ?_
      rw [i1]
      refine mu_bipush (v := mI 6) B dX9_nextWord_80 (by decide) ?_
      refine mu_icmp_lt (tgt := 109) B dX9_nextWord_82 (by decide) (fun c82 => ?_) (fun c82 => ?_)
      · try rw [mI_lt ⟨by omega, by omega⟩ ⟨by omega, by omega⟩] at c82
        refine mu_al_2 B dX9_nextWord_109 ?_
        refine mu_getIN B dX9_nextWord_110 fX9_94 rfl (by assumption) ?_
        rw [i1]
        refine mu_bipush (v := mI 8) B dX9_nextWord_113 (by decide) ?_
        refine mu_icmp_ne (tgt := 142) B dX9_nextWord_115 (by decide) (fun c115 => ?_) (fun c115 => ?_)
        · try rw [mI_eq ⟨by omega, by omega⟩ ⟨by omega, by omega⟩] at c115
          first
            | (exfalso; omega)
            | refine K142 _ _ hG hB hT (fun i hi => ?_)
              try dsimp only
              unfold sp_ne
              rw [show (64 * (k : Int) - 64 + (i : Int)) - 1 = 64 * (k : Int) - 64 - 1 + (i : Int) by omega, show (64 * (k : Int) - 64 + (i : Int)) + 1 = 64 * (k : Int) - 64 + 1 + (i : Int) by omega]
              first
                | (rw [if_neg (by omega), if_neg (by omega)]; omega)
                | (rw [if_pos (by omega), if_neg (by omega)]; omega)
                | (rw [if_pos (by omega), if_pos (by omega)]; omega)
        · try rw [mI_eq ⟨by omega, by omega⟩ ⟨by omega, by omega⟩] at c115
          refine mu_al_0 B dX9_nextWord_118 ?_
          refine mu_al_0 B dX9_nextWord_119 ?_
          refine mu_getR B dX9_nextWord_120 fX9_9 rfl (by assumption) (by assumption) ?_
          refine mu_il_1 B dX9_nextWord_123 ?_
          refine mu_cS2 B dX9_nextWord_124 mX9_91 ⟨⟨by decide, by decide⟩, by decide, by decide⟩ (Nat.le_of_ble_eq_true rfl) (c_X9_eastOf G x0 (by omega) (by omega)) (fun r124 w124 q124 => ?_)
          obtain ⟨⟨d124, rfl, hd⟩, rfl⟩ := q124
          show mu_WA X G 3 _ _ 0 0 127 _ [.long d124, .ref b]
          refine mu_cV1 B dX9_nextWord_127 mX9_83 ⟨⟨by decide, by decide⟩, by decide, by decide⟩ (Nat.le_of_ble_eq_true rfl) kb (c_X9_tally2 G kb hT (m := 6) (fun i => Nat.le_trans (hN i) (by decide)) (by decide) hc hd) (fun r127 w127 q127 => ?_)
          obtain ⟨rfl, hF1, hT1, hN1⟩ := q127
          replace hG := hG.trans hF1
          replace hB := hB.fi hF1
          clear hT hN kb v0 v1 v2 x0 x1 x2 kr i1 i2 i3
          have hT := hT1
          have hN := hN1
          clear hF1 hT1 hN1
          obtain ⟨kb, v0, v1, v2, x0, x1, x2, kr, i1, i2, i3⟩ := id hB
          show mu_WA X G 3 _ w127 0 0 130 _ []
          refine mu_al_0 B dX9_nextWord_130 ?_
          refine mu_al_0 B dX9_nextWord_131 ?_
          refine mu_getR B dX9_nextWord_132 fX9_18 rfl (by assumption) (by assumption) ?_
          refine mu_il_1 B dX9_nextWord_135 ?_
          refine mu_cS2 B dX9_nextWord_136 mX9_87 ⟨⟨by decide, by decide⟩, by decide, by decide⟩ (Nat.le_of_ble_eq_true rfl) (c_X9_westOf G x2 (by omega) (by omega)) (fun r136 w136 q136 => ?_)
          obtain ⟨⟨d136, rfl, hd⟩, rfl⟩ := q136
          show mu_WA X G 3 _ _ 0 0 139 _ [.long d136, .ref b]
          refine mu_cV1 B dX9_nextWord_139 mX9_83 ⟨⟨by decide, by decide⟩, by decide, by decide⟩ (Nat.le_of_ble_eq_true rfl) kb (c_X9_tally2 G kb hT (m := 7) (fun i => Nat.le_trans (hN i) (by decide)) (by decide) hc hd) (fun r139 w139 q139 => ?_)
          obtain ⟨rfl, hF1, hT1, hN1⟩ := q139
          replace hG := hG.trans hF1
          replace hB := hB.fi hF1
          clear hT hN kb v0 v1 v2 x0 x1 x2 kr i1 i2 i3
          have hT := hT1
          have hN := hN1
          clear hF1 hT1 hN1
          obtain ⟨kb, v0, v1, v2, x0, x1, x2, kr, i1, i2, i3⟩ := id hB
          show mu_WA X G 3 _ w139 0 0 142 _ []
          first
            | (exfalso; omega)
            | refine K142 _ _ hG hB hT (fun i hi => ?_)
              try dsimp only
              unfold sp_ne
              rw [show (64 * (k : Int) - 64 + (i : Int)) - 1 = 64 * (k : Int) - 64 - 1 + (i : Int) by omega, show (64 * (k : Int) - 64 + (i : Int)) + 1 = 64 * (k : Int) - 64 + 1 + (i : Int) by omega]
              first
                | (rw [if_neg (by omega), if_neg (by omega)]; omega)
                | (rw [if_pos (by omega), if_neg (by omega)]; omega)
                | (rw [if_pos (by omega), if_pos (by omega)]; omega)
      · try rw [mI_lt ⟨by omega, by omega⟩ ⟨by omega, by omega⟩] at c82
        refine mu_al_0 B dX9_nextWord_85 ?_
        refine mu_al_0 B dX9_nextWord_86 ?_
        refine mu_getR B dX9_nextWord_87 fX9_9 rfl (by assumption) (by assumption) ?_
        refine mu_il_1 B dX9_nextWord_90 ?_
        refine mu_cS2 B dX9_nextWord_91 mX9_87 ⟨⟨by decide, by decide⟩, by decide, by decide⟩ (Nat.le_of_ble_eq_true rfl) (c_X9_westOf G x0 (by omega) (by omega)) (fun r91 w91 q91 => ?_)
        obtain ⟨⟨d91, rfl, hd⟩, rfl⟩ := q91
        show mu_WA X G 3 _ _ 0 0 94 _ [.long d91, .ref b]
        refine mu_cV1 B dX9_nextWord_94 mX9_83 ⟨⟨by decide, by decide⟩, by decide, by decide⟩ (Nat.le_of_ble_eq_true rfl) kb (c_X9_tally2 G kb hT (m := 4) (fun i => Nat.le_trans (hN i) (by decide)) (by decide) hc hd) (fun r94 w94 q94 => ?_)
        obtain ⟨rfl, hF1, hT1, hN1⟩ := q94
        replace hG := hG.trans hF1
        replace hB := hB.fi hF1
        clear hT hN kb v0 v1 v2 x0 x1 x2 kr i1 i2 i3
        have hT := hT1
        have hN := hN1
        clear hF1 hT1 hN1
        obtain ⟨kb, v0, v1, v2, x0, x1, x2, kr, i1, i2, i3⟩ := id hB
        show mu_WA X G 3 _ w94 0 0 97 _ []
        refine mu_al_0 B dX9_nextWord_97 ?_
        refine mu_al_0 B dX9_nextWord_98 ?_
        refine mu_getR B dX9_nextWord_99 fX9_18 rfl (by assumption) (by assumption) ?_
        refine mu_il_1 B dX9_nextWord_102 ?_
        refine mu_cS2 B dX9_nextWord_103 mX9_91 ⟨⟨by decide, by decide⟩, by decide, by decide⟩ (Nat.le_of_ble_eq_true rfl) (c_X9_eastOf G x2 (by omega) (by omega)) (fun r103 w103 q103 => ?_)
        obtain ⟨⟨d103, rfl, hd⟩, rfl⟩ := q103
        show mu_WA X G 3 _ _ 0 0 106 _ [.long d103, .ref b]
        refine mu_cV1 B dX9_nextWord_106 mX9_83 ⟨⟨by decide, by decide⟩, by decide, by decide⟩ (Nat.le_of_ble_eq_true rfl) kb (c_X9_tally2 G kb hT (m := 5) (fun i => Nat.le_trans (hN i) (by decide)) (by decide) hc hd) (fun r106 w106 q106 => ?_)
        obtain ⟨rfl, hF1, hT1, hN1⟩ := q106
        replace hG := hG.trans hF1
        replace hB := hB.fi hF1
        clear hT hN kb v0 v1 v2 x0 x1 x2 kr i1 i2 i3
        have hT := hT1
        have hN := hN1
        clear hF1 hT1 hN1
        obtain ⟨kb, v0, v1, v2, x0, x1, x2, kr, i1, i2, i3⟩ := id hB
        show mu_WA X G 3 _ w106 0 0 109 _ []
        refine mu_al_2 B dX9_nextWord_109 ?_
        refine mu_getIN B dX9_nextWord_110 fX9_94 rfl (by assumption) ?_
        rw [i1]
        refine mu_bipush (v := mI 8) B dX9_nextWord_113 (by decide) ?_
        refine mu_icmp_ne (tgt := 142) B dX9_nextWord_115 (by decide) (fun c115 => ?_) (fun c115 => ?_)
        · try rw [mI_eq ⟨by omega, by omega⟩ ⟨by omega, by omega⟩] at c115
          first
            | (exfalso; omega)
            | refine K142 _ _ hG hB hT (fun i hi => ?_)
              try dsimp only
              unfold sp_ne
              rw [show (64 * (k : Int) - 64 + (i : Int)) - 1 = 64 * (k : Int) - 64 - 1 + (i : Int) by omega, show (64 * (k : Int) - 64 + (i : Int)) + 1 = 64 * (k : Int) - 64 + 1 + (i : Int) by omega]
              first
                | (rw [if_neg (by omega), if_neg (by omega)]; omega)
                | (rw [if_pos (by omega), if_neg (by omega)]; omega)
                | (rw [if_pos (by omega), if_pos (by omega)]; omega)
        · try rw [mI_eq ⟨by omega, by omega⟩ ⟨by omega, by omega⟩] at c115
          refine mu_al_0 B dX9_nextWord_118 ?_
          refine mu_al_0 B dX9_nextWord_119 ?_
          refine mu_getR B dX9_nextWord_120 fX9_9 rfl (by assumption) (by assumption) ?_
          refine mu_il_1 B dX9_nextWord_123 ?_
          refine mu_cS2 B dX9_nextWord_124 mX9_91 ⟨⟨by decide, by decide⟩, by decide, by decide⟩ (Nat.le_of_ble_eq_true rfl) (c_X9_eastOf G x0 (by omega) (by omega)) (fun r124 w124 q124 => ?_)
          obtain ⟨⟨d124, rfl, hd⟩, rfl⟩ := q124
          show mu_WA X G 3 _ _ 0 0 127 _ [.long d124, .ref b]
          refine mu_cV1 B dX9_nextWord_127 mX9_83 ⟨⟨by decide, by decide⟩, by decide, by decide⟩ (Nat.le_of_ble_eq_true rfl) kb (c_X9_tally2 G kb hT (m := 6) (fun i => Nat.le_trans (hN i) (by decide)) (by decide) hc hd) (fun r127 w127 q127 => ?_)
          obtain ⟨rfl, hF1, hT1, hN1⟩ := q127
          replace hG := hG.trans hF1
          replace hB := hB.fi hF1
          clear hT hN kb v0 v1 v2 x0 x1 x2 kr i1 i2 i3
          have hT := hT1
          have hN := hN1
          clear hF1 hT1 hN1
          obtain ⟨kb, v0, v1, v2, x0, x1, x2, kr, i1, i2, i3⟩ := id hB
          show mu_WA X G 3 _ w127 0 0 130 _ []
          refine mu_al_0 B dX9_nextWord_130 ?_
          refine mu_al_0 B dX9_nextWord_131 ?_
          refine mu_getR B dX9_nextWord_132 fX9_18 rfl (by assumption) (by assumption) ?_
          refine mu_il_1 B dX9_nextWord_135 ?_
          refine mu_cS2 B dX9_nextWord_136 mX9_87 ⟨⟨by decide, by decide⟩, by decide, by decide⟩ (Nat.le_of_ble_eq_true rfl) (c_X9_westOf G x2 (by omega) (by omega)) (fun r136 w136 q136 => ?_)
          obtain ⟨⟨d136, rfl, hd⟩, rfl⟩ := q136
          show mu_WA X G 3 _ _ 0 0 139 _ [.long d136, .ref b]
          refine mu_cV1 B dX9_nextWord_139 mX9_83 ⟨⟨by decide, by decide⟩, by decide, by decide⟩ (Nat.le_of_ble_eq_true rfl) kb (c_X9_tally2 G kb hT (m := 7) (fun i => Nat.le_trans (hN i) (by decide)) (by decide) hc hd) (fun r139 w139 q139 => ?_)
          obtain ⟨rfl, hF1, hT1, hN1⟩ := q139
          replace hG := hG.trans hF1
          replace hB := hB.fi hF1
          clear hT hN kb v0 v1 v2 x0 x1 x2 kr i1 i2 i3
          have hT := hT1
          have hN := hN1
          clear hF1 hT1 hN1
          obtain ⟨kb, v0, v1, v2, x0, x1, x2, kr, i1, i2, i3⟩ := id hB
          show mu_WA X G 3 _ w139 0 0 142 _ []
          first
            | (exfalso; omega)
            | refine K142 _ _ hG hB hT (fun i hi => ?_)
              try dsimp only
              unfold sp_ne
              rw [show (64 * (k : Int) - 64 + (i : Int)) - 1 = 64 * (k : Int) - 64 - 1 + (i : Int) by omega, show (64 * (k : Int) - 64 + (i : Int)) + 1 = 64 * (k : Int) - 64 + 1 + (i : Int) by omega]
              first
                | (rw [if_neg (by omega), if_neg (by omega)]; omega)
                | (rw [if_pos (by omega), if_neg (by omega)]; omega)
                | (rw [if_pos (by omega), if_pos (by omega)]; omega)
    · try rw [mI_le ⟨by omega, by omega⟩ ⟨by omega, by omega⟩] at c7
      exfalso
      omega
