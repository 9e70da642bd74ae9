/-! ===== the reference reads a block rule ===== -/
def sp_pv (b : Nat → Int) (s k : Nat) : Nat → Nat
  | 0 => 0
  | i + 1 => sp_pv b s k i * s + (b (2 + 4 * k + i) - 48).toNat
theorem sp_pv4 (b : Nat → Int) (s k : Nat) : sp_pv b s k 4 = sp_be b s k := by
  unfold sp_be
  simp only [sp_pv, Nat.zero_mul, Nat.zero_add, Nat.add_zero]
theorem sp_run_go {b : Nat → Int} {s N p f : Nat} (h : sp_run b s N p = f) (hN : N ≠ 0) (h1 : 48 ≤ b p ∧ b p < 48 + s) : sp_run b s (N - 1) (p + 1) = f := by
  cases N with
  | zero => exact absurd rfl hN
  | succ N => rw [sp_run, if_pos h1] at h; exact h
theorem sp_run_no {b : Nat → Int} {s N p f : Nat} (h : sp_run b s N p = f) (h1 : ¬ (48 ≤ b p ∧ b p < 48 + s)) : f = p := by
  cases N with
  | zero => exact h.symm
  | succ N => rw [sp_run, if_neg h1] at h; exact h.symm
theorem sp_blk_1 {b : Nat → Int} (h : ¬ b 0 = 75) : sp_blk b = (false, 0, 0) := by unfold sp_blk; rw [if_pos h]
theorem sp_blk_2 {b : Nat → Int} (h0 : b 0 = 75) (h : sp_S b = 0) : sp_blk b = (false, 1, 0) := by unfold sp_blk; rw [if_neg (fun q => q h0), if_pos h]
theorem sp_blk_3 {b : Nat → Int} {S f : Nat} (h0 : b 0 = 75) (hS : sp_S b = S) (hS0 : S ≠ 0) (hf : sp_run b S (4 * (S * S * S * S)) 2 = f) (h : f < 2 + 4 * (S * S * S * S)) : sp_blk b = (false, f, 0) := by unfold sp_blk; rw [hS, if_neg (fun q => q h0), if_neg hS0, hf, if_pos h]
theorem sp_blk_4 {b : Nat → Int} {S f : Nat} (h0 : b 0 = 75) (hS : sp_S b = S) (hS0 : S ≠ 0) (hf : sp_run b S (4 * (S * S * S * S)) 2 = f) (h : ¬ f < 2 + 4 * (S * S * S * S)) : sp_blk b = (true, 2 + 4 * (S * S * S * S), S) := by unfold sp_blk; rw [hS, if_neg (fun q => q h0), if_neg hS0, hf, if_neg h]
theorem sp_S_of {b : Nat → Int} (h : 50 ≤ b 1 ∧ b 1 ≤ 52) : sp_S b = (b 1 - 48).toNat := by unfold sp_S; rw [if_pos h]
theorem sp_S_no {b : Nat → Int} (h : ¬ (50 ≤ b 1 ∧ b 1 ≤ 52)) : sp_S b = 0 := by unfold sp_S; rw [if_neg h]
def bl_post (w0 : mu_W) (m n : Nat) (tp : Nat → Nat) (nr : Nat) (c : Bool × Nat × Nat) (r : Option Value) (w : mu_W) : Prop := r = some (.int (if c.1 = true ∧ c.2.1 = n then mI 1 else mI 0)) ∧ Rd w0 m n tp nr w c.2.1 ∧ (c.1 = true → mu_iv w (m + 5) nr = mI 0 ∧ mu_iv w (m + 4) nr = mI c.2.2 ∧ ∀ k, k < c.2.2 * c.2.2 * c.2.2 * c.2.2 → mu_iv w (m + 8) (256 * nr + k) = mI (sp_be (tb n tp) c.2.2 k))
theorem bl_no {w0 : mu_W} {m n : Nat} {tp : Nat → Nat} {nr p : Nat} {w : mu_W} (h : Rd w0 m n tp nr w p) : bl_post w0 m n tp nr (false, p, 0) (some (.int (mI 0))) w := ⟨rfl, h, fun hh => by cases hh⟩
theorem s4_cases {S : Nat} (h1 : 2 ≤ S) (h2 : S ≤ 4) : (S = 2 ∧ S * S * S * S = 16) ∨ (S = 3 ∧ S * S * S * S = 81) ∨ (S = 4 ∧ S * S * S * S = 256) := by
  rcases (show S = 2 ∨ S = 3 ∨ S = 4 by omega) with rfl | rfl | rfl <;> simp

set_option maxHeartbeats 4000000 in
set_option maxRecDepth 100000 in
theorem c_X12_readBlocks (G : mu_G) {w0 w : mu_W} {m n nr : Nat} {tp : Nat → Nat} (h0 : Rd w0 m n tp nr w 0) (hnr : nr < 16) : mu_Ct G M_X12_readBlocks [.ref m] w (bl_post w0 m n tp nr (sp_blk (tb n tp))) := by
  have hk0 := h0.1.1
  have hn2 := h0.2.1.1.1
  refine mu_ofWA G M_X12_readBlocks [.ref m, mu_no, mu_no, mu_no, mu_no, mu_no] (by decide) rfl (Nat.le_of_ble_eq_true rfl) ?_
  intro X E
  have B : mu_B X G cX12_readBlocks RX12 6 (mu_rm M_X12_readBlocks) := E.1
  have LO : ∀ (S f : Nat), 2 ≤ S → S ≤ 4 → tb n tp 0 = 75 → sp_S (tb n tp) = S → sp_run (tb n tp) S (4 * (S * S * S * S)) 2 = f → ∀ k (s : mu_W × Value × Value × Value), k ≤ S * S * S * S → (Rd w0 m n tp nr s.1 (2 + 4 * k) ∧ sp_run (tb n tp) S (4 * (S * S * S * S) - 4 * k) (2 + 4 * k) = f ∧ ∀ q, q < k → mu_iv s.1 (m + 8) (256 * nr + q) = mI (sp_be (tb n tp) S q)) → mu_WA X G 6 (mu_Q X G M_X12_readBlocks (bl_post w0 m n tp nr (sp_blk (tb n tp)))) s.1 0 0 47 [.ref m, .int (mI S), .int (mI k), s.2.1, s.2.2.1, s.2.2.2] [] := by
    intro S f hS1 hS2 hb0 hS hf
    have hs4 := s4_cases hS1 hS2
    refine mu_ind (S * S * S * S) (fun k (s : mu_W × Value × Value × Value) => mu_WA X G 6 (mu_Q X G M_X12_readBlocks (bl_post w0 m n tp nr (sp_blk (tb n tp)))) s.1 0 0 47 [.ref m, .int (mI S), .int (mI k), s.2.1, s.2.2.1, s.2.2.2] []) (fun k s => Rd w0 m n tp nr s.1 (2 + 4 * k) ∧ sp_run (tb n tp) S (4 * (S * S * S * S) - 4 * k) (2 + 4 * k) = f ∧ ∀ q, q < k → mu_iv s.1 (m + 8) (256 * nr + q) = mI (sp_be (tb n tp) S q)) ?_
    rintro k ⟨w1, u3, u4, u5⟩ hk ⟨hw, hr, hbs⟩ ih
    dsimp only at hw hr hbs ⊢
    have hk0 := hw.1.1
    obtain ⟨r6, k6⟩ := mo_6 hw.1
    obtain ⟨r7, k7⟩ := mo_7 hw.1
    refine mu_il_2 B dX12_readBlocks_47 ?_
    refine mu_il_1 B dX12_readBlocks_48 ?_
    refine mu_il_1 B dX12_readBlocks_49 ?_
    refine mu_imul B dX12_readBlocks_50 ?_
    try rw [mI_mul]
    refine mu_il_1 B dX12_readBlocks_51 ?_
    refine mu_imul B dX12_readBlocks_52 ?_
    try rw [mI_mul]
    refine mu_il_1 B dX12_readBlocks_53 ?_
    refine mu_imul B dX12_readBlocks_54 ?_
    try rw [mI_mul]
    rw [show (S : Int) * S * S * S = ((S * S * S * S : Nat) : Int) by simp [Int.natCast_mul]]
    refine mu_icmp_ge (tgt := 140) B dX12_readBlocks_55 (by decide) (fun c55 => ?_) (fun c55 => ?_)
    · try rw [mI_le ⟨by omega, by omega⟩ ⟨by omega, by omega⟩] at c55
      have hk4 : k = S * S * S * S := by omega
      rw [hk4] at hw hr hbs
      rw [show 4 * (S * S * S * S) - 4 * (S * S * S * S) = 0 by omega, sp_run] at hr
      have hblk := sp_blk_4 hb0 hS (by omega) hf (by omega)
      rw [hblk]
      refine mu_al_0 B dX12_readBlocks_140 ?_
      refine mu_getR B dX12_readBlocks_141 fX12_23 rfl (by assumption) (by assumption) ?_
      refine mu_al_0 B dX12_readBlocks_144 ?_
      refine mu_getI B dX12_readBlocks_145 fX12_148 rfl (by assumption) ?_
      rw [hw.2.2.2.2.1]
      refine mu_iconst (v := mI 0) B dX12_readBlocks_148 rfl ?_
      refine mu_iast B dX12_readBlocks_149 (by assumption) (mI_inN (by omega) (by omega)) ?_
      rw [mI_clampN (by omega)]
      refine mu_al_0 B dX12_readBlocks_150 ?_
      refine mu_getR B dX12_readBlocks_151 fX12_20 rfl (by assumption) (by assumption) ?_
      refine mu_al_0 B dX12_readBlocks_154 ?_
      refine mu_getI B dX12_readBlocks_155 fX12_148 rfl (by assumption) ?_
      rw [mu_iv_oth _ _ (by omega), hw.2.2.2.2.1]
      refine mu_il_1 B dX12_readBlocks_158 ?_
      refine mu_iast B dX12_readBlocks_159 (by assumption) (mI_inN (by omega) (by omega)) ?_
      rw [mI_clampN (by omega)]
      refine mu_al_0 B dX12_readBlocks_160 ?_
      refine mu_getI B dX12_readBlocks_161 fX12_134 rfl (by assumption) ?_
      rw [mu_iv_oth _ _ (by omega), mu_iv_oth _ _ (by omega), hw.2.2.1]
      refine mu_al_0 B dX12_readBlocks_164 ?_
      refine mu_getI B dX12_readBlocks_165 fX12_128 rfl (by assumption) ?_
      rw [mu_iv_oth _ _ (by omega), mu_iv_oth _ _ (by omega), hw.2.1.2.1]
      refine mu_icmp_ne (tgt := 175) B dX12_readBlocks_168 (by decide) (fun c168 => ?_) (fun c168 => ?_)
      · try rw [mI_eq ⟨by omega, by omega⟩ ⟨by omega, by omega⟩] at c168
        refine mu_iconst (v := mI 0) B dX12_readBlocks_175 rfl ?_
        refine mu_zret E rfl (by decide) (by decide) dX12_readBlocks_176 (by decide) ?_
        refine ⟨?_, (hw.ast (a := m + 5) (k := nr) (x := mI 0) (by omega)).ast (a := m + 4) (k := nr) (x := mI S) (by omega), fun _ => ⟨?_, mu_iv_same _ _ _ _, fun q hq => ?_⟩⟩
        · first | exact congrArg (fun v => some (Value.int v)) (if_pos ⟨rfl, (show 2 + 4 * (S * S * S * S) = n by omega)⟩).symm | exact congrArg (fun v => some (Value.int v)) (if_neg (fun hh => absurd (show 2 + 4 * (S * S * S * S) = n from hh.2) (by omega))).symm
        · rw [mu_iv_oth _ _ (by omega), mu_iv_same]
        · rw [mu_iv_oth _ _ (by omega), mu_iv_oth _ _ (by omega)]; exact hbs q hq
      · try rw [mI_eq ⟨by omega, by omega⟩ ⟨by omega, by omega⟩] at c168
        refine mu_iconst (v := mI 1) B dX12_readBlocks_171 rfl ?_
        refine mu_goto (tgt := 176) B dX12_readBlocks_172 (by decide) ?_
        refine mu_zret E rfl (by decide) (by decide) dX12_readBlocks_176 (by decide) ?_
        refine ⟨?_, (hw.ast (a := m + 5) (k := nr) (x := mI 0) (by omega)).ast (a := m + 4) (k := nr) (x := mI S) (by omega), fun _ => ⟨?_, mu_iv_same _ _ _ _, fun q hq => ?_⟩⟩
        · first | exact congrArg (fun v => some (Value.int v)) (if_pos ⟨rfl, (show 2 + 4 * (S * S * S * S) = n by omega)⟩).symm | exact congrArg (fun v => some (Value.int v)) (if_neg (fun hh => absurd (show 2 + 4 * (S * S * S * S) = n from hh.2) (by omega))).symm
        · rw [mu_iv_oth _ _ (by omega), mu_iv_same]
        · rw [mu_iv_oth _ _ (by omega), mu_iv_oth _ _ (by omega)]; exact hbs q hq
    · try rw [mI_le ⟨by omega, by omega⟩ ⟨by omega, by omega⟩] at c55
      refine mu_iconst (v := mI 0) B dX12_readBlocks_58 rfl ?_
      refine mu_is_3 B dX12_readBlocks_59 (by decide) rfl ?_
      refine mu_iconst (v := mI 0) B dX12_readBlocks_60 rfl ?_
      refine mu_is_4 B dX12_readBlocks_61 (by decide) rfl ?_
      have hI : ∀ i w1 u5, i ≤ 4 → (Rd w0 m n tp nr w1 (2 + 4 * k + i) ∧ sp_run (tb n tp) S (4 * (S * S * S * S) - (4 * k + i)) (2 + 4 * k + i) = f ∧ ∀ q, q < k → mu_iv w1 (m + 8) (256 * nr + q) = mI (sp_be (tb n tp) S q)) → mu_WA X G 6 (mu_Q X G M_X12_readBlocks (bl_post w0 m n tp nr (sp_blk (tb n tp)))) w1 0 0 63 [.ref m, .int (mI S), .int (mI k), .int (mI (sp_pv (tb n tp) S k i)), .int (mI i), u5] [] := by
        have hAfter : ∀ (w4 : mu_W) (u4 u5 : Value), Rd w0 m n tp nr w4 (2 + 4 * k + 4) → sp_run (tb n tp) S (4 * (S * S * S * S) - (4 * k + 4)) (2 + 4 * k + 4) = f → (∀ q, q < k → mu_iv w4 (m + 8) (256 * nr + q) = mI (sp_be (tb n tp) S q)) → mu_WA X G 6 (mu_Q X G M_X12_readBlocks (bl_post w0 m n tp nr (sp_blk (tb n tp)))) w4 0 0 118 [.ref m, .int (mI S), .int (mI k), .int (mI (sp_pv (tb n tp) S k 4)), u4, u5] [] := by
          intro w4 u4 u5 hw4 hr4 hb4
          have hk0 := hw4.1.1
          obtain ⟨r10, k10⟩ := mo_10 hw4.1
          refine mu_al_0 B dX12_readBlocks_118 ?_
          refine mu_getR B dX12_readBlocks_119 fX12_32 rfl (by assumption) (by assumption) ?_
          refine mu_sipush (v := mI 256) B dX12_readBlocks_122 (by decide) ?_
          refine mu_al_0 B dX12_readBlocks_125 ?_
          refine mu_getI B dX12_readBlocks_126 fX12_148 rfl (by assumption) ?_
          rw [hw4.2.2.2.2.1]
          refine mu_imul B dX12_readBlocks_129 ?_
          try rw [mI_mul]
          refine mu_il_2 B dX12_readBlocks_130 ?_
          refine mu_iadd B dX12_readBlocks_131 ?_
          try rw [mI_add]
          refine mu_il_3 B dX12_readBlocks_132 ?_
          refine mu_iast B dX12_readBlocks_133 (by assumption) (by rw [show (256 : Int) * (nr : Int) + (k : Int) = ((256 * nr + k : Nat) : Int) by omega]; exact mI_inN (by omega) (by omega)) ?_
          rw [show (256 : Int) * (nr : Int) + (k : Int) = ((256 * nr + k : Nat) : Int) by omega, mI_clampN (by omega)]
          refine mu_inc_2 (c := mI 1) B dX12_readBlocks_134 rfl (by decide) rfl ?_
          try rw [mI_add]
          refine mu_goto (tgt := 47) B dX12_readBlocks_137 (by decide) ?_
          rw [show (k : Int) + 1 = ((k + 1 : Nat) : Int) by omega]
          refine ih (mu_si w4 (m + 8) (256 * nr + k) (mI (sp_pv (tb n tp) S k 4)), _, _, _) (by omega) ⟨?_, ?_, ?_⟩
          · have := hw4.ast (a := m + 8) (k := 256 * nr + k) (x := mI (sp_pv (tb n tp) S k 4)) (by omega)
            rw [show 2 + 4 * (k + 1) = 2 + 4 * k + 4 by omega]
            exact this
          · rw [show 4 * (S * S * S * S) - 4 * (k + 1) = 4 * (S * S * S * S) - (4 * k + 4) by omega, show 2 + 4 * (k + 1) = 2 + 4 * k + 4 by omega]
            exact hr4
          · intro q hq
            show mu_iv (mu_si w4 (m + 8) (256 * nr + k) (mI (sp_pv (tb n tp) S k 4))) (m + 8) (256 * nr + q) = _
            by_cases hqk : q = k
            · rw [hqk, mu_iv_same, sp_pv4]
            · rw [mu_iv_oth _ _ (by omega)]; exact hb4 q (by omega)
        intro i w1 u5 hi hP
        refine mu_ind 4 (fun i (s : mu_W × Value) => mu_WA X G 6 (mu_Q X G M_X12_readBlocks (bl_post w0 m n tp nr (sp_blk (tb n tp)))) s.1 0 0 63 [.ref m, .int (mI S), .int (mI k), .int (mI (sp_pv (tb n tp) S k i)), .int (mI i), s.2] []) (fun i s => Rd w0 m n tp nr s.1 (2 + 4 * k + i) ∧ sp_run (tb n tp) S (4 * (S * S * S * S) - (4 * k + i)) (2 + 4 * k + i) = f ∧ ∀ q, q < k → mu_iv s.1 (m + 8) (256 * nr + q) = mI (sp_be (tb n tp) S q)) ?_ i (w1, u5) hi hP
        rintro i ⟨w1, u5⟩ hi ⟨hw, hr, hbs⟩ ih
        dsimp only at hw hr hbs ⊢
        have hk0 := hw.1.1
        have hb1 := tb_bd h0.2.1.1 (2 + 4 * k + i)
        refine mu_il_4 B dX12_readBlocks_63 ?_
        refine mu_iconst (v := mI 4) B dX12_readBlocks_65 rfl ?_
        refine mu_icmp_ge (tgt := 118) B dX12_readBlocks_66 (by decide) (fun c66 => ?_) (fun c66 => ?_)
        · try rw [mI_le ⟨by omega, by omega⟩ ⟨by omega, by omega⟩] at c66
          obtain rfl : i = 4 := by omega
          exact hAfter w1 _ _ hw hr hbs
        · try rw [mI_le ⟨by omega, by omega⟩ ⟨by omega, by omega⟩] at c66
          refine mu_al_0 B dX12_readBlocks_69 ?_
          refine mu_al_0 B dX12_readBlocks_70 ?_
          refine mu_getI B dX12_readBlocks_71 fX12_134 rfl (by assumption) ?_
          rw [hw.2.2.1]
          refine mu_eV1 B dX12_readBlocks_74 mX12_137 ⟨⟨by decide, by decide⟩, by decide, by decide⟩ (Nat.le_of_ble_eq_true rfl) (by assumption) (c_X12_byteAt2 G hw.1 hw.2.1 (i := 2 + 4 * k + i) (by omega)) ?_
          refine mu_bipush (v := mI 48) B dX12_readBlocks_77 (by decide) ?_
          refine mu_isub B dX12_readBlocks_79 ?_
          try rw [mI_sub]
          obtain ⟨dv, hdv⟩ : ∃ q, (tb n tp (2 + 4 * k + i) - 48).toNat = q := ⟨_, rfl⟩
          refine mu_is_5 B dX12_readBlocks_80 (by decide) rfl ?_
          refine mu_il_5 B dX12_readBlocks_82 ?_
          refine mu_if_lt (tgt := 93) B dX12_readBlocks_84 (by decide) (fun c84 => ?_) (fun c84 => ?_)
          · try rw [mI_lt0 ⟨by omega, by omega⟩] at c84
            refine mu_iconst (v := mI 0) B dX12_readBlocks_93 rfl ?_
            refine mu_zret E rfl (by decide) (by decide) dX12_readBlocks_94 (by decide) ?_
            have hfe := sp_run_no hr (by omega)
            rw [sp_blk_3 hb0 hS (by omega) hf (by omega), hfe]
            exact bl_no hw
          · try rw [mI_lt0 ⟨by omega, by omega⟩] at c84
            refine mu_il_5 B dX12_readBlocks_87 ?_
            refine mu_il_1 B dX12_readBlocks_89 ?_
            refine mu_icmp_lt (tgt := 95) B dX12_readBlocks_90 (by decide) (fun c90 => ?_) (fun c90 => ?_)
            · try rw [mI_lt ⟨by omega, by omega⟩ ⟨by omega, by omega⟩] at c90
              refine mu_il_3 B dX12_readBlocks_95 ?_
              refine mu_il_1 B dX12_readBlocks_96 ?_
              refine mu_imul B dX12_readBlocks_97 ?_
              try rw [mI_mul]
              refine mu_il_5 B dX12_readBlocks_98 ?_
              refine mu_iadd B dX12_readBlocks_100 ?_
              try rw [mI_add]
              refine mu_is_3 B dX12_readBlocks_101 (by decide) rfl ?_
              refine mu_al_0 B dX12_readBlocks_102 ?_
              refine mu_dup B dX12_readBlocks_103 rfl ?_
              refine mu_getI B dX12_readBlocks_104 fX12_134 rfl (by assumption) ?_
              rw [hw.2.2.1]
              refine mu_iconst (v := mI 1) B dX12_readBlocks_107 rfl ?_
              refine mu_iadd B dX12_readBlocks_108 ?_
              try rw [mI_add]
              refine mu_putI B dX12_readBlocks_109 fX12_134 fwX12_11 rfl (by assumption) ?_
              rw [show ((2 + 4 * k + i : Nat) : Int) + 1 = ((2 + 4 * k + i + 1 : Nat) : Int) by omega]
              have hin := tb_in (n := n) (tp := tp) (i := 2 + 4 * k + i) (by omega)
              have hw2 := hw.at (q := 2 + 4 * k + i + 1) (by omega)
              have hb2 : ∀ q, q < k → mu_iv (mu_si w1 m 11 (mI ((2 + 4 * k + i + 1 : Nat) : Int))) (m + 8) (256 * nr + q) = mI (sp_be (tb n tp) S q) := fun q hq => by rw [mu_iv_oth _ _ (by omega)]; exact hbs q hq
              generalize mu_si w1 m 11 (mI ((2 + 4 * k + i + 1 : Nat) : Int)) = w2 at hw2 hb2 ⊢
              refine mu_inc_4 (c := mI 1) B dX12_readBlocks_112 rfl (by decide) rfl ?_
              try rw [mI_add]
              refine mu_goto (tgt := 63) B dX12_readBlocks_115 (by decide) ?_
              have hgo := sp_run_go hr (by omega) ⟨by omega, by omega⟩
              refine mu_to (ih (w2, .int (mI (tb n tp (2 + 4 * k + i) - 48))) (by omega) ⟨hw2, by rw [show 4 * (S * S * S * S) - (4 * k + (i + 1)) = 4 * (S * S * S * S) - (4 * k + i) - 1 by omega]; exact hgo, hb2⟩) rfl ?_
              rw [show sp_pv (tb n tp) S k (i + 1) = sp_pv (tb n tp) S k i * S + dv by rw [sp_pv, hdv]]
              rw [show (((sp_pv (tb n tp) S k i * S + dv : Nat) : Int)) = (sp_pv (tb n tp) S k i : Int) * S + (tb n tp (2 + 4 * k + i) - 48) by rw [Int.natCast_add, Int.natCast_mul]; omega]
              rw [show ((i + 1 : Nat) : Int) = (i : Int) + 1 by omega]
            · try rw [mI_lt ⟨by omega, by omega⟩ ⟨by omega, by omega⟩] at c90
              refine mu_iconst (v := mI 0) B dX12_readBlocks_93 rfl ?_
              refine mu_zret E rfl (by decide) (by decide) dX12_readBlocks_94 (by decide) ?_
              have hfe := sp_run_no hr (by omega)
              rw [sp_blk_3 hb0 hS (by omega) hf (by omega), hfe]
              exact bl_no hw
      exact hI 0 w1 _ (by decide) ⟨hw, hr, hbs⟩
  show mu_WA X G 6 _ _ 0 0 0 _ []
  refine mu_al_0 B dX12_readBlocks_0 ?_
  refine mu_bipush (v := mI 75) B dX12_readBlocks_1 (by decide) ?_
  refine mu_cV1 B dX12_readBlocks_3 mX12_141 ⟨⟨by decide, by decide⟩, by decide, by decide⟩ (Nat.le_of_ble_eq_true rfl) (by assumption) (r_X12_reads G (w0 := w0) h0 (c := 75) (by decide) (by decide)) (fun r3 w3 q3 => ?_)
  obtain ⟨rfl, h1⟩ := q3
  have hkh1 := h1.1.1
  refine mu_if_ne (tgt := 11) B dX12_readBlocks_6 (by decide) (fun c6 => ?_) (fun c6 => ?_)
  · have z6 := mu_bt c6
    rw [if_pos z6, show (0 + 1 : Nat) = 1 from rfl] at h1
    have hb1 := tb_bd h0.2.1.1 1
    refine mu_al_0 B dX12_readBlocks_11 ?_
    refine mu_al_0 B dX12_readBlocks_12 ?_
    refine mu_getI B dX12_readBlocks_13 fX12_134 rfl (by assumption) ?_
    rw [h1.2.2.1]
    refine mu_eV1 B dX12_readBlocks_16 mX12_137 ⟨⟨by decide, by decide⟩, by decide, by decide⟩ (Nat.le_of_ble_eq_true rfl) (by assumption) (c_X12_byteAt2 G h1.1 h1.2.1 (i := 1) (by omega)) ?_
    refine mu_bipush (v := mI 48) B dX12_readBlocks_19 (by decide) ?_
    refine mu_isub B dX12_readBlocks_21 ?_
    try rw [mI_sub]
    refine mu_is_1 B dX12_readBlocks_22 (by decide) rfl ?_
    refine mu_il_1 B dX12_readBlocks_23 ?_
    refine mu_iconst (v := mI 2) B dX12_readBlocks_24 rfl ?_
    refine mu_icmp_lt (tgt := 33) B dX12_readBlocks_25 (by decide) (fun c25 => ?_) (fun c25 => ?_)
    · try rw [mI_lt ⟨by omega, by omega⟩ ⟨by omega, by omega⟩] at c25
      refine mu_iconst (v := mI 0) B dX12_readBlocks_33 rfl ?_
      refine mu_zret E rfl (by decide) (by decide) dX12_readBlocks_34 (by decide) ?_
      rw [sp_blk_2 z6 (sp_S_no (fun hh => by have := hh.1; have := hh.2; omega))]
      exact bl_no h1
    · try rw [mI_lt ⟨by omega, by omega⟩ ⟨by omega, by omega⟩] at c25
      refine mu_il_1 B dX12_readBlocks_28 ?_
      refine mu_iconst (v := mI 4) B dX12_readBlocks_29 rfl ?_
      refine mu_icmp_le (tgt := 35) B dX12_readBlocks_30 (by decide) (fun c30 => ?_) (fun c30 => ?_)
      · try rw [mI_le ⟨by omega, by omega⟩ ⟨by omega, by omega⟩] at c30
        refine mu_al_0 B dX12_readBlocks_35 ?_
        refine mu_dup B dX12_readBlocks_36 rfl ?_
        refine mu_getI B dX12_readBlocks_37 fX12_134 rfl (by assumption) ?_
        rw [h1.2.2.1]
        refine mu_iconst (v := mI 1) B dX12_readBlocks_40 rfl ?_
        refine mu_iadd B dX12_readBlocks_41 ?_
        try rw [mI_add]
        refine mu_putI B dX12_readBlocks_42 fX12_134 fwX12_11 rfl (by assumption) ?_
        have hin := tb_in (n := n) (tp := tp) (i := 1) (by omega)
        have h2 := h1.at (q := 2) (by omega)
        refine mu_iconst (v := mI 0) B dX12_readBlocks_45 rfl ?_
        refine mu_is_2 B dX12_readBlocks_46 (by decide) rfl ?_
        have hSe := sp_S_of (b := tb n tp) ⟨by omega, by omega⟩
        generalize hSS : (tb n tp 1 - 48).toNat = S at hSe
        have e1 : tb n tp 1 - 48 = (S : Int) := by omega
        rw [e1]
        exact LO S _ (by omega) (by omega) z6 hSe rfl 0 (_, mu_no, mu_no, mu_no) (Nat.zero_le _) ⟨h2, rfl, fun q hq => absurd hq (Nat.not_lt_zero q)⟩
      · try rw [mI_le ⟨by omega, by omega⟩ ⟨by omega, by omega⟩] at c30
        refine mu_iconst (v := mI 0) B dX12_readBlocks_33 rfl ?_
        refine mu_zret E rfl (by decide) (by decide) dX12_readBlocks_34 (by decide) ?_
        rw [sp_blk_2 z6 (sp_S_no (fun hh => by have := hh.1; have := hh.2; omega))]
        exact bl_no h1
  · have z6 := mu_bf c6
    rw [if_neg z6] at h1
    refine mu_iconst (v := mI 0) B dX12_readBlocks_9 rfl ?_
    refine mu_zret E rfl (by decide) (by decide) dX12_readBlocks_10 (by decide) ?_
    rw [sp_blk_1 z6]
    exact bl_no h1
