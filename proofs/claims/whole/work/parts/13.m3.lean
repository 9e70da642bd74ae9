/-! ===== the reference reads a rule ===== -/
theorem mu_bt {c : Prop} [Decidable c] (h : ¬ (if c then mI 1 else mI 0) = 0) : c := by
  by_cases hc : c
  · exact hc
  · rw [if_neg hc] at h; exact absurd rfl h
theorem mu_bf {c : Prop} [Decidable c] (h : (if c then mI 1 else mI 0) = 0) : ¬ c := fun hc => by
  rw [if_pos hc] at h
  exact absurd h (by decide)
def rd_S (m nr : Nat) : Nat → Nat → Prop := fun a j => (a = m ∧ (j = 11 ∨ j = 12)) ∨ (m + 3 ≤ a ∧ a ≤ m + 7 ∧ j = nr) ∨ (a = m + 8 ∧ 256 * nr ≤ j) ∨ (a = m + 2 ∧ 2000 * nr ≤ j)
def Rd (w0 : mu_W) (m n : Nat) (tp : Nat → Nat) (nr : Nat) (w : mu_W) (p : Nat) : Prop := mo_ok w m ∧ MT w m n tp ∧ mu_iv w m 11 = mI p ∧ p ≤ 2000 ∧ mu_iv w m 3 = mI nr ∧ mu_Fi (rd_S m nr) w0 w
theorem sp_dg_bd {n : Nat} {tp : Nat → Nat} (h : tp_ok n tp) : ∀ f p le t, p ≤ 2000 → t < 512 → (sp_dg (tb n tp) f p le t).1 ≤ 2000 ∧ (sp_dg (tb n tp) f p le t).2 < 512
  | 0, p, le, t, hp, ht => ⟨hp, ht⟩
  | f + 1, p, le, t, hp, ht => by
    rw [sp_dg]
    by_cases hc : 48 + (le : Int) ≤ tb n tp p ∧ tb n tp p ≤ 56
    · rw [if_pos hc]
      have h1 := tb_in (n := n) (tp := tp) (i := p) (by omega)
      have h2 := h.1
      exact sp_dg_bd h f (p + 1) _ _ (by omega) (Nat.or_lt_two_pow (n := 9) ht (Nat.pow_lt_pow_right (by decide) (by omega)))
    · rw [if_neg hc]; exact ⟨hp, ht⟩
theorem r_X12_reads (G : mu_G) {w0 w : mu_W} {m n nr p : Nat} {tp : Nat → Nat} (h : Rd w0 m n tp nr w p) {c : Int} (hc : 0 ≤ c) (hc2 : c < 256) : mu_Ct G M_X12_reads [.ref m, .int (mI c)] w (fun r w' => r = some (.int (if tb n tp p = c then mI 1 else mI 0)) ∧ Rd w0 m n tp nr w' (if tb n tp p = c then p + 1 else p)) := by
  obtain ⟨h1, h2, h3, h4, h5, h6⟩ := h
  refine (c_X12_reads G h1 h2 h3 h4 hc hc2).mono ?_
  rintro r w' ⟨rfl, rfl⟩
  refine ⟨rfl, ?_⟩
  by_cases hq : tb n tp p = c
  · rw [if_pos hq, if_pos hq]
    have := tb_in (n := n) (tp := tp) (i := p) (by omega)
    have := h2.1.1
    refine ⟨h1, h2.si (by decide), by rw [mu_iv_same]; rfl, by omega, by rw [mu_iv_oth _ _ (by omega)]; exact h5, h6.si (Or.inl ⟨rfl, Or.inl rfl⟩)⟩
  · rw [if_neg hq, if_neg hq]
    exact ⟨h1, h2, h3, h4, h5, h6⟩
theorem r_X12_readDigits (G : mu_G) {w0 w : mu_W} {m n nr p : Nat} {tp : Nat → Nat} (h : Rd w0 m n tp nr w p) : mu_Ct G M_X12_readDigits [.ref m] w (fun r w' => r = none ∧ Rd w0 m n tp nr w' (sp_dg (tb n tp) 9 p 0 0).1 ∧ mu_iv w' m 12 = mI (sp_dg (tb n tp) 9 p 0 0).2) := by
  obtain ⟨h1, h2, h3, h4, h5, h6⟩ := h
  refine (c_X12_readDigits G h1 h2 h3 h4).mono ?_
  rintro r w' ⟨rfl, rfl⟩
  refine ⟨rfl, ⟨h1, (h2.si (by decide)).si (by decide), mu_iv_same _ _ _ _, (sp_dg_bd h2.1 9 p 0 0 h4 (by decide)).1, ?_, (h6.si (Or.inl ⟨rfl, Or.inr rfl⟩)).si (Or.inl ⟨rfl, Or.inl rfl⟩)⟩, ?_⟩
  · rw [mu_iv_oth _ _ (by omega), mu_iv_oth _ _ (by omega)]; exact h5
  · rw [mu_iv_oth _ _ (by omega), mu_iv_same]
theorem Rd.ast {w0 w : mu_W} {m n nr p a k : Nat} {tp : Nat → Nat} {x : Int32} (h : Rd w0 m n tp nr w p) (ha : (m + 3 ≤ a ∧ a ≤ m + 7 ∧ k = nr) ∨ (a = m + 8 ∧ 256 * nr ≤ k) ∨ (a = m + 2 ∧ 2000 * nr ≤ k)) : Rd w0 m n tp nr (mu_si w a k x) p := by
  obtain ⟨h1, h2, h3, h4, h5, h6⟩ := h
  exact ⟨h1, h2.so (by omega) (by omega), by rw [mu_iv_oth _ _ (by omega)]; exact h3, h4, by rw [mu_iv_oth _ _ (by omega)]; exact h5, h6.si (Or.inr ha)⟩
theorem Rd.at {w0 w : mu_W} {m n nr p : Nat} {tp : Nat → Nat} (h : Rd w0 m n tp nr w p) {q : Nat} (hq : q ≤ 2000) : Rd w0 m n tp nr (mu_si w m 11 (mI q)) q := by
  obtain ⟨h1, h2, h3, h4, h5, h6⟩ := h
  exact ⟨h1, h2.si (by decide), mu_iv_same _ _ _ _, hq, by rw [mu_iv_oth _ _ (by omega)]; exact h5, h6.si (Or.inl ⟨rfl, Or.inl rfl⟩)⟩
theorem sp_cnt_1 {b : Nat → Int} (h : ¬ b 0 = 66) : sp_cnt b = (false, 0, 0, 0, 0) := by unfold sp_cnt; rw [if_pos h]
theorem sp_cnt_2 {b : Nat → Int} {d : Nat × Nat} (hd : sp_dg b 9 1 0 0 = d) (h0 : b 0 = 66) (h : ¬ b d.1 = 47) : sp_cnt b = (false, d.1, 0, 0, 0) := by unfold sp_cnt; rw [hd, if_neg (fun q => q h0), if_pos h]
theorem sp_cnt_3 {b : Nat → Int} {d : Nat × Nat} (hd : sp_dg b 9 1 0 0 = d) (h0 : b 0 = 66) (h1 : b d.1 = 47) (h : ¬ b (d.1 + 1) = 83) : sp_cnt b = (false, d.1 + 1, 0, 0, 0) := by unfold sp_cnt; rw [hd, if_neg (fun q => q h0), if_neg (fun q => q h1), if_pos h]
theorem sp_cnt_4 {b : Nat → Int} {d e : Nat × Nat} (hd : sp_dg b 9 1 0 0 = d) (he : sp_dg b 9 (d.1 + 2) 0 0 = e) (h0 : b 0 = 66) (h1 : b d.1 = 47) (h2 : b (d.1 + 1) = 83) (h : ¬ b e.1 = 47) : sp_cnt b = (false, e.1, 0, 0, 0) := by unfold sp_cnt; rw [hd, he, if_neg (fun q => q h0), if_neg (fun q => q h1), if_neg (fun q => q h2), if_pos h]
theorem sp_cnt_5 {b : Nat → Int} {d e : Nat × Nat} (hd : sp_dg b 9 1 0 0 = d) (he : sp_dg b 9 (d.1 + 2) 0 0 = e) (h0 : b 0 = 66) (h1 : b d.1 = 47) (h2 : b (d.1 + 1) = 83) (h3 : b e.1 = 47) (h : sp_nb (b (e.1 + 1)) = 0 ∨ (d.2 ||| e.2) / 2 ^ (sp_nb (b (e.1 + 1)) + 1) ≠ 0) : sp_cnt b = (false, e.1 + 1, 0, 0, 0) := by unfold sp_cnt; rw [hd, he, if_neg (fun q => q h0), if_neg (fun q => q h1), if_neg (fun q => q h2), if_neg (fun q => q h3), if_pos h]
theorem sp_cnt_6 {b : Nat → Int} {d e : Nat × Nat} (hd : sp_dg b 9 1 0 0 = d) (he : sp_dg b 9 (d.1 + 2) 0 0 = e) (h0 : b 0 = 66) (h1 : b d.1 = 47) (h2 : b (d.1 + 1) = 83) (h3 : b e.1 = 47) (h : ¬ (sp_nb (b (e.1 + 1)) = 0 ∨ (d.2 ||| e.2) / 2 ^ (sp_nb (b (e.1 + 1)) + 1) ≠ 0)) : sp_cnt b = (true, e.1 + 2, sp_nb (b (e.1 + 1)), d.2, e.2) := by unfold sp_cnt; rw [hd, he, if_neg (fun q => q h0), if_neg (fun q => q h1), if_neg (fun q => q h2), if_neg (fun q => q h3), if_neg h]
def cn_post (w0 : mu_W) (m n : Nat) (tp : Nat → Nat) (nr : Nat) (c : Bool × Nat × Nat × Nat × Nat) (r : Option Value) (w : mu_W) : Prop := r = some (.int (if c.1 = true ∧ c.2.1 = n then mI 1 else mI 0)) ∧ Rd w0 m n tp nr w c.2.1 ∧ (c.1 = true → mu_iv w (m + 5) nr = mI c.2.2.1 ∧ mu_iv w (m + 6) nr = mI c.2.2.2.1 ∧ mu_iv w (m + 7) nr = mI c.2.2.2.2)
theorem sp_nb_le (c : Int) : sp_nb c = 0 ∨ sp_nb c = 4 ∨ sp_nb c = 6 ∨ sp_nb c = 8 := by
  unfold sp_nb
  by_cases h1 : c = 77
  · simp [h1]
  · by_cases h2 : c = 86
    · simp [h2]
    · by_cases h3 : c = 88 <;> simp [h1, h2, h3]
theorem sp_nb_pos {c : Int} (h : sp_nb c ≠ 0) : 0 ≤ c := by
  unfold sp_nb at h
  by_cases h1 : c = 77
  · omega
  · by_cases h2 : c = 86
    · omega
    · by_cases h3 : c = 88
      · omega
      · simp [h1, h2, h3] at h
theorem cn_no {w0 : mu_W} {m n : Nat} {tp : Nat → Nat} {nr p : Nat} {w : mu_W} (h : Rd w0 m n tp nr w p) : cn_post w0 m n tp nr (false, p, 0, 0, 0) (some (.int (mI 0))) w := ⟨rfl, h, fun hh => by cases hh⟩

set_option maxHeartbeats 4000000 in
set_option maxRecDepth 100000 in
theorem c_X12_readCounts (G : mu_G) {w0 w : mu_W} {m n nr : Nat} {tp : Nat → Nat} (h0 : Rd w0 m n tp nr w 0) (hnr : nr < 16) : mu_Ct G M_X12_readCounts [.ref m] w (cn_post w0 m n tp nr (sp_cnt (tb n tp))) := by
  have hk0 := h0.1.1
  have hn2 := h0.2.1.1.1
  refine mu_ofWA G M_X12_readCounts [.ref m, mu_no, mu_no, mu_no, mu_no] (by decide) rfl (Nat.le_of_ble_eq_true rfl) ?_
  intro X E
  have B : mu_B X G cX12_readCounts RX12 5 (mu_rm M_X12_readCounts) := E.1
  show mu_WA X G 5 _ _ 0 0 0 _ []
  refine mu_al_0 B dX12_readCounts_0 ?_
  refine mu_bipush (v := mI 66) B dX12_readCounts_1 (by decide) ?_
  refine mu_cV1 B dX12_readCounts_3 mX12_141 ⟨⟨by decide, by decide⟩, by decide, by decide⟩ (Nat.le_of_ble_eq_true rfl) (by assumption) (r_X12_reads G (w0 := w0) h0 (c := 66) (by decide) (by decide)) (fun r3 w3 q3 => ?_)
  obtain ⟨rfl, h1⟩ := q3
  have hkh1 := h1.1.1
  refine mu_if_ne (tgt := 11) B dX12_readCounts_6 (by decide) (fun c6 => ?_) (fun c6 => ?_)
  · have z6 := mu_bt c6
    rw [if_pos z6] at h1
    refine mu_al_0 B dX12_readCounts_11 ?_
    refine mu_cV0 B dX12_readCounts_12 mX12_145 ⟨⟨by decide, by decide⟩, by decide, by decide⟩ (Nat.le_of_ble_eq_true rfl) (by assumption) (r_X12_readDigits G (w0 := w0) h1) (fun r12 w12 q12 => ?_)
    obtain ⟨rfl, h2, e2⟩ := q12
    have hk2 := h2.1.1
    have hd9 := sp_dg_bd (n := n) (tp := tp) h0.2.1.1 9 (0 + 1) 0 0 (by decide) (by decide)
    obtain ⟨d, hd⟩ : ∃ d, sp_dg (tb n tp) 9 1 0 0 = d := ⟨_, rfl⟩
    rw [show (0 + 1 : Nat) = 1 from rfl, hd] at h2 e2 hd9
    refine mu_al_0 B dX12_readCounts_15 ?_
    refine mu_getI B dX12_readCounts_16 fX12_131 rfl (by assumption) ?_
    rw [e2]
    refine mu_is_1 B dX12_readCounts_19 (by decide) rfl ?_
    refine mu_al_0 B dX12_readCounts_20 ?_
    refine mu_bipush (v := mI 47) B dX12_readCounts_21 (by decide) ?_
    refine mu_cV1 B dX12_readCounts_23 mX12_141 ⟨⟨by decide, by decide⟩, by decide, by decide⟩ (Nat.le_of_ble_eq_true rfl) (by assumption) (r_X12_reads G (w0 := w0) h2 (c := 47) (by decide) (by decide)) (fun r23 w23 q23 => ?_)
    obtain ⟨rfl, h3⟩ := q23
    have hkh3 := h3.1.1
    refine mu_if_eq (tgt := 38) B dX12_readCounts_26 (by decide) (fun c26 => ?_) (fun c26 => ?_)
    · have z26 := mu_bf c26
      rw [if_neg z26] at h3
      refine mu_iconst (v := mI 0) B dX12_readCounts_38 rfl ?_
      refine mu_zret E rfl (by decide) (by decide) dX12_readCounts_39 (by decide) ?_
      first | (rw [sp_cnt_2 hd z6 z26]; exact cn_no h3) | (rw [sp_cnt_3 hd z6 z26 z35]; exact cn_no h4)
    · have z26 := mu_bt c26
      rw [if_pos z26] at h3
      refine mu_al_0 B dX12_readCounts_29 ?_
      refine mu_bipush (v := mI 83) B dX12_readCounts_30 (by decide) ?_
      refine mu_cV1 B dX12_readCounts_32 mX12_141 ⟨⟨by decide, by decide⟩, by decide, by decide⟩ (Nat.le_of_ble_eq_true rfl) (by assumption) (r_X12_reads G (w0 := w0) h3 (c := 83) (by decide) (by decide)) (fun r32 w32 q32 => ?_)
      obtain ⟨rfl, h4⟩ := q32
      have hkh4 := h4.1.1
      refine mu_if_ne (tgt := 40) B dX12_readCounts_35 (by decide) (fun c35 => ?_) (fun c35 => ?_)
      · have z35 := mu_bt c35
        rw [if_pos z35] at h4
        refine mu_al_0 B dX12_readCounts_40 ?_
        refine mu_cV0 B dX12_readCounts_41 mX12_145 ⟨⟨by decide, by decide⟩, by decide, by decide⟩ (Nat.le_of_ble_eq_true rfl) (by assumption) (r_X12_readDigits G (w0 := w0) h4) (fun r41 w41 q41 => ?_)
        obtain ⟨rfl, h5, e5⟩ := q41
        have hk5 := h5.1.1
        have he9 := sp_dg_bd (n := n) (tp := tp) h0.2.1.1 9 (d.1 + 1 + 1) 0 0 h4.2.2.2.1 (by decide)
        obtain ⟨e, he⟩ : ∃ e, sp_dg (tb n tp) 9 (d.1 + 2) 0 0 = e := ⟨_, rfl⟩
        rw [show d.1 + 1 + 1 = d.1 + 2 from rfl, he] at h5 e5 he9
        refine mu_al_0 B dX12_readCounts_44 ?_
        refine mu_getI B dX12_readCounts_45 fX12_131 rfl (by assumption) ?_
        rw [e5]
        refine mu_is_2 B dX12_readCounts_48 (by decide) rfl ?_
        refine mu_al_0 B dX12_readCounts_49 ?_
        refine mu_bipush (v := mI 47) B dX12_readCounts_50 (by decide) ?_
        refine mu_cV1 B dX12_readCounts_52 mX12_141 ⟨⟨by decide, by decide⟩, by decide, by decide⟩ (Nat.le_of_ble_eq_true rfl) (by assumption) (r_X12_reads G (w0 := w0) h5 (c := 47) (by decide) (by decide)) (fun r52 w52 q52 => ?_)
        obtain ⟨rfl, h6⟩ := q52
        have hkh6 := h6.1.1
        refine mu_if_ne (tgt := 60) B dX12_readCounts_55 (by decide) (fun c55 => ?_) (fun c55 => ?_)
        · have z55 := mu_bt c55
          rw [if_pos z55] at h6
          have hk6 := h6.1.1
          have hb := tb_bd h0.2.1.1 (e.1 + 1)
          refine mu_al_0 B dX12_readCounts_60 ?_
          refine mu_al_0 B dX12_readCounts_61 ?_
          refine mu_getI B dX12_readCounts_62 fX12_134 rfl (by assumption) ?_
          rw [h6.2.2.1]
          refine mu_eV1 B dX12_readCounts_65 mX12_137 ⟨⟨by decide, by decide⟩, by decide, by decide⟩ (Nat.le_of_ble_eq_true rfl) (by assumption) (c_X12_byteAt2 G h6.1 h6.2.1 (i := e.1 + 1) (by omega)) ?_
          refine mu_is_3 B dX12_readCounts_68 (by decide) rfl ?_
          have hJ : ∀ v : Int, v = (if sp_nb (tb n tp (e.1 + 1)) = 0 then -1 else (sp_nb (tb n tp (e.1 + 1)) : Int)) → mu_WA X G 5 (mu_Q X G M_X12_readCounts (cn_post w0 m n tp nr (sp_cnt (tb n tp)))) w52 0 0 102 [.ref m, .int (mI d.2), .int (mI e.2), .int (mI (tb n tp (e.1 + 1))), mu_no] [.int (mI v)] := by
            intro v hv
            have hv3 : sp_nb (tb n tp (e.1 + 1)) = 0 ∧ v = -1 ∨ sp_nb (tb n tp (e.1 + 1)) ≠ 0 ∧ v = sp_nb (tb n tp (e.1 + 1)) := by
              by_cases hz : sp_nb (tb n tp (e.1 + 1)) = 0
              · rw [if_pos hz] at hv; exact Or.inl ⟨hz, hv⟩
              · rw [if_neg hz] at hv; exact Or.inr ⟨hz, hv⟩
            have hnb := sp_nb_le (tb n tp (e.1 + 1))
            have hor : d.2 ||| e.2 < 512 := Nat.or_lt_two_pow (n := 9) hd9.2 he9.2
            generalize hnbe : sp_nb (tb n tp (e.1 + 1)) = nb at hv hv3 hnb
            refine mu_is_4 B dX12_readCounts_102 (by decide) rfl ?_
            refine mu_il_4 B dX12_readCounts_104 ?_
            refine mu_if_lt (tgt := 120) B dX12_readCounts_106 (by decide) (fun c106 => ?_) (fun c106 => ?_)
            · try rw [mI_lt0 ⟨by omega, by omega⟩] at c106
              rw [sp_cnt_5 hd he z6 z26 z35 z55 (Or.inl (by omega))]
              refine mu_iconst (v := mI 0) B dX12_readCounts_120 rfl ?_
              refine mu_zret E rfl (by decide) (by decide) dX12_readCounts_121 (by decide) ?_
              exact cn_no h6
            · try rw [mI_lt0 ⟨by omega, by omega⟩] at c106
              obtain rfl : v = nb := by omega
              refine mu_il_1 B dX12_readCounts_109 ?_
              refine mu_il_2 B dX12_readCounts_110 ?_
              refine mu_ior B dX12_readCounts_111 ?_
              rw [mI_or (by omega) (by omega)]
              refine mu_il_4 B dX12_readCounts_112 ?_
              refine mu_iconst (v := mI 1) B dX12_readCounts_114 rfl ?_
              refine mu_iadd B dX12_readCounts_115 ?_
              try rw [mI_add]
              rw [show (nb : Int) + 1 = ((nb + 1 : Nat) : Int) by omega]
              refine mu_ishr B dX12_readCounts_116 ?_
              rw [mI_shr _ ⟨by omega, by omega⟩ _ (by omega)]
              rw [show ((d.2 ||| e.2 : Nat) : Int) / 2 ^ (nb + 1) = (((d.2 ||| e.2) / 2 ^ (nb + 1) : Nat) : Int) by simp]
              have hq := Nat.div_le_self (d.2 ||| e.2) (2 ^ (nb + 1))
              generalize hqq : (d.2 ||| e.2) / 2 ^ (nb + 1) = qq at hq ⊢
              refine mu_if_eq (tgt := 122) B dX12_readCounts_117 (by decide) (fun c117 => ?_) (fun c117 => ?_)
              · try rw [mI_eq0 ⟨by omega, by omega⟩] at c117
                have c6 := sp_cnt_6 hd he z6 z26 z35 z55 (by rw [hnbe, hqq]; omega)
                have hin := tb_in (n := n) (tp := tp) (i := e.1 + 1) (sp_nb_pos (by omega))
                have hk7 := h6.1.1
                refine mu_al_0 B dX12_readCounts_122 ?_
                refine mu_dup B dX12_readCounts_123 rfl ?_
                refine mu_getI B dX12_readCounts_124 fX12_134 rfl (by assumption) ?_
                rw [h6.2.2.1]
                refine mu_iconst (v := mI 1) B dX12_readCounts_127 rfl ?_
                refine mu_iadd B dX12_readCounts_128 ?_
                try rw [mI_add]
                refine mu_putI B dX12_readCounts_129 fX12_134 fwX12_11 rfl (by assumption) ?_
                rw [show (((e.1 + 1 : Nat) : Int) + 1) = ((e.1 + 2 : Nat) : Int) by omega]
                have h7 := h6.at (q := e.1 + 2) (by omega)
                generalize mu_si w52 m 11 (mI ((e.1 + 2 : Nat) : Int)) = w7 at h7 ⊢
                have hk7 := h7.1.1
                obtain ⟨r7, k7⟩ := mo_7 h7.1
                obtain ⟨r8, k8⟩ := mo_8 h7.1
                obtain ⟨r9, k9⟩ := mo_9 h7.1
                obtain ⟨r6, k6⟩ := mo_6 h7.1
                refine mu_al_0 B dX12_readCounts_132 ?_
                refine mu_getR B dX12_readCounts_133 fX12_23 rfl (by assumption) (by assumption) ?_
                refine mu_al_0 B dX12_readCounts_136 ?_
                refine mu_getI B dX12_readCounts_137 fX12_148 rfl (by assumption) ?_
                rw [h7.2.2.2.2.1]
                refine mu_il_4 B dX12_readCounts_140 ?_
                refine mu_iast B dX12_readCounts_142 (by assumption) (mI_inN (by omega) (by omega)) ?_
                rw [mI_clampN (by omega)]
                refine mu_al_0 B dX12_readCounts_143 ?_
                refine mu_getR B dX12_readCounts_144 fX12_26 rfl (by assumption) (by assumption) ?_
                refine mu_al_0 B dX12_readCounts_147 ?_
                refine mu_getI B dX12_readCounts_148 fX12_148 rfl (by assumption) ?_
                rw [mu_iv_oth _ _ (by omega), h7.2.2.2.2.1]
                refine mu_il_1 B dX12_readCounts_151 ?_
                refine mu_iast B dX12_readCounts_152 (by assumption) (mI_inN (by omega) (by omega)) ?_
                rw [mI_clampN (by omega)]
                refine mu_al_0 B dX12_readCounts_153 ?_
                refine mu_getR B dX12_readCounts_154 fX12_29 rfl (by assumption) (by assumption) ?_
                refine mu_al_0 B dX12_readCounts_157 ?_
                refine mu_getI B dX12_readCounts_158 fX12_148 rfl (by assumption) ?_
                rw [mu_iv_oth _ _ (by omega), mu_iv_oth _ _ (by omega), h7.2.2.2.2.1]
                refine mu_il_2 B dX12_readCounts_161 ?_
                refine mu_iast B dX12_readCounts_162 (by assumption) (mI_inN (by omega) (by omega)) ?_
                rw [mI_clampN (by omega)]
                refine mu_al_0 B dX12_readCounts_163 ?_
                refine mu_getR B dX12_readCounts_164 fX12_20 rfl (by assumption) (by assumption) ?_
                refine mu_al_0 B dX12_readCounts_167 ?_
                refine mu_getI B dX12_readCounts_168 fX12_148 rfl (by assumption) ?_
                rw [mu_iv_oth _ _ (by omega), mu_iv_oth _ _ (by omega), mu_iv_oth _ _ (by omega), h7.2.2.2.2.1]
                refine mu_iconst (v := mI 2) B dX12_readCounts_171 rfl ?_
                refine mu_iast B dX12_readCounts_172 (by assumption) (mI_inN (by omega) (by omega)) ?_
                rw [mI_clampN (by omega)]
                have h8 := (((h7.ast (a := m + 5) (k := nr) (x := mI nb) (by omega)).ast (a := m + 6) (k := nr) (x := mI d.2) (by omega)).ast (a := m + 7) (k := nr) (x := mI e.2) (by omega)).ast (a := m + 4) (k := nr) (x := mI 2) (by omega)
                have a5 : mu_iv (mu_si (mu_si (mu_si (mu_si w7 (m + 5) nr (mI nb)) (m + 6) nr (mI d.2)) (m + 7) nr (mI e.2)) (m + 4) nr (mI 2)) (m + 5) nr = mI nb := by rw [mu_iv_oth _ _ (by omega), mu_iv_oth _ _ (by omega), mu_iv_oth _ _ (by omega), mu_iv_same]
                have a6 : mu_iv (mu_si (mu_si (mu_si (mu_si w7 (m + 5) nr (mI nb)) (m + 6) nr (mI d.2)) (m + 7) nr (mI e.2)) (m + 4) nr (mI 2)) (m + 6) nr = mI d.2 := by rw [mu_iv_oth _ _ (by omega), mu_iv_oth _ _ (by omega), mu_iv_same]
                have a7 : mu_iv (mu_si (mu_si (mu_si (mu_si w7 (m + 5) nr (mI nb)) (m + 6) nr (mI d.2)) (m + 7) nr (mI e.2)) (m + 4) nr (mI 2)) (m + 7) nr = mI e.2 := by rw [mu_iv_oth _ _ (by omega), mu_iv_same]
                generalize (mu_si (mu_si (mu_si (mu_si w7 (m + 5) nr (mI nb)) (m + 6) nr (mI d.2)) (m + 7) nr (mI e.2)) (m + 4) nr (mI 2)) = w8 at h8 a5 a6 a7 ⊢
                have hk8 := h8.1.1
                refine mu_al_0 B dX12_readCounts_173 ?_
                refine mu_getI B dX12_readCounts_174 fX12_134 rfl (by assumption) ?_
                rw [h8.2.2.1]
                refine mu_al_0 B dX12_readCounts_177 ?_
                refine mu_getI B dX12_readCounts_178 fX12_128 rfl (by assumption) ?_
                rw [h8.2.1.2.1]
                refine mu_icmp_ne (tgt := 188) B dX12_readCounts_181 (by decide) (fun c181 => ?_) (fun c181 => ?_)
                · try rw [mI_eq ⟨by omega, by omega⟩ ⟨by omega, by omega⟩] at c181
                  refine mu_iconst (v := mI 0) B dX12_readCounts_188 rfl ?_
                  refine mu_zret E rfl (by decide) (by decide) dX12_readCounts_189 (by decide) ?_
                  rw [c6, hnbe]
                  refine ⟨?_, h8, fun _ => ⟨a5, a6, a7⟩⟩
                  first | exact congrArg (fun v => some (Value.int v)) (if_pos ⟨rfl, (show e.1 + 2 = n by omega)⟩).symm | exact congrArg (fun v => some (Value.int v)) (if_neg (fun hh => absurd (show e.1 + 2 = n from hh.2) (by omega))).symm
                · try rw [mI_eq ⟨by omega, by omega⟩ ⟨by omega, by omega⟩] at c181
                  refine mu_iconst (v := mI 1) B dX12_readCounts_184 rfl ?_
                  refine mu_goto (tgt := 189) B dX12_readCounts_185 (by decide) ?_
                  refine mu_zret E rfl (by decide) (by decide) dX12_readCounts_189 (by decide) ?_
                  rw [c6, hnbe]
                  refine ⟨?_, h8, fun _ => ⟨a5, a6, a7⟩⟩
                  first | exact congrArg (fun v => some (Value.int v)) (if_pos ⟨rfl, (show e.1 + 2 = n by omega)⟩).symm | exact congrArg (fun v => some (Value.int v)) (if_neg (fun hh => absurd (show e.1 + 2 = n from hh.2) (by omega))).symm
              · try rw [mI_eq0 ⟨by omega, by omega⟩] at c117
                rw [sp_cnt_5 hd he z6 z26 z35 z55 (Or.inr (by rw [hnbe, hqq]; omega))]
                refine mu_iconst (v := mI 0) B dX12_readCounts_120 rfl ?_
                refine mu_zret E rfl (by decide) (by decide) dX12_readCounts_121 (by decide) ?_
                exact cn_no h6
          refine mu_il_3 B dX12_readCounts_69 ?_
          refine mu_bipush (v := mI 77) B dX12_readCounts_70 (by decide) ?_
          refine mu_icmp_ne (tgt := 80) B dX12_readCounts_72 (by decide) (fun c72 => ?_) (fun c72 => ?_)
          · try rw [mI_eq ⟨by omega, by omega⟩ ⟨by omega, by omega⟩] at c72
            refine mu_il_3 B dX12_readCounts_80 ?_
            refine mu_bipush (v := mI 86) B dX12_readCounts_81 (by decide) ?_
            refine mu_icmp_ne (tgt := 90) B dX12_readCounts_83 (by decide) (fun c83 => ?_) (fun c83 => ?_)
            · try rw [mI_eq ⟨by omega, by omega⟩ ⟨by omega, by omega⟩] at c83
              refine mu_il_3 B dX12_readCounts_90 ?_
              refine mu_bipush (v := mI 88) B dX12_readCounts_91 (by decide) ?_
              refine mu_icmp_ne (tgt := 101) B dX12_readCounts_93 (by decide) (fun c93 => ?_) (fun c93 => ?_)
              · try rw [mI_eq ⟨by omega, by omega⟩ ⟨by omega, by omega⟩] at c93
                refine mu_iconst (v := mI (-1)) B dX12_readCounts_101 rfl ?_
                exact hJ _ (by unfold sp_nb; simp [*])
              · try rw [mI_eq ⟨by omega, by omega⟩ ⟨by omega, by omega⟩] at c93
                refine mu_bipush (v := mI 6) B dX12_readCounts_96 (by decide) ?_
                refine mu_goto (tgt := 102) B dX12_readCounts_98 (by decide) ?_
                exact hJ _ (by unfold sp_nb; simp [*])
            · try rw [mI_eq ⟨by omega, by omega⟩ ⟨by omega, by omega⟩] at c83
              refine mu_iconst (v := mI 4) B dX12_readCounts_86 rfl ?_
              refine mu_goto (tgt := 102) B dX12_readCounts_87 (by decide) ?_
              exact hJ _ (by unfold sp_nb; simp [*])
          · try rw [mI_eq ⟨by omega, by omega⟩ ⟨by omega, by omega⟩] at c72
            refine mu_bipush (v := mI 8) B dX12_readCounts_75 (by decide) ?_
            refine mu_goto (tgt := 102) B dX12_readCounts_77 (by decide) ?_
            exact hJ _ (by unfold sp_nb; simp [*])
        · have z55 := mu_bf c55
          rw [if_neg z55] at h6
          refine mu_iconst (v := mI 0) B dX12_readCounts_58 rfl ?_
          refine mu_zret E rfl (by decide) (by decide) dX12_readCounts_59 (by decide) ?_
          rw [sp_cnt_4 hd he z6 z26 z35 z55]
          exact cn_no h6
      · have z35 := mu_bf c35
        rw [if_neg z35] at h4
        refine mu_iconst (v := mI 0) B dX12_readCounts_38 rfl ?_
        refine mu_zret E rfl (by decide) (by decide) dX12_readCounts_39 (by decide) ?_
        first | (rw [sp_cnt_2 hd z6 z26]; exact cn_no h3) | (rw [sp_cnt_3 hd z6 z26 z35]; exact cn_no h4)
  · have z6 := mu_bf c6
    rw [if_neg z6] at h1
    refine mu_iconst (v := mI 0) B dX12_readCounts_9 rfl ?_
    refine mu_zret E rfl (by decide) (by decide) dX12_readCounts_10 (by decide) ?_
    rw [sp_cnt_1 z6]
    exact cn_no h1
