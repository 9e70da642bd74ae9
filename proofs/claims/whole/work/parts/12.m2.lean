/-! ===== the reference's tape ===== -/
def MT (w : mu_W) (m n : Nat) (tp : Nat → Nat) : Prop := tp_ok n tp ∧ mu_iv w m 2 = mI n ∧ ∀ j, j < n → mu_iv w (m + 1) j = mI (tp j)
theorem MT.si {w : mu_W} {m n : Nat} {tp : Nat → Nat} (h : MT w m n tp) {k : Nat} {x : Int32} (hk : k ≠ 2) : MT (mu_si w m k x) m n tp := ⟨h.1, by rw [mu_iv_oth _ _ (fun q => hk q.2.symm)]; exact h.2.1, fun j hj => by rw [mu_iv_oth _ _ (fun q => by omega)]; exact h.2.2 j hj⟩
theorem MT.so {w : mu_W} {m n : Nat} {tp : Nat → Nat} (h : MT w m n tp) {a k : Nat} {x : Int32} (ha : a ≠ m) (ha2 : a ≠ m + 1) : MT (mu_si w a k x) m n tp := ⟨h.1, by rw [mu_iv_oth _ _ (fun q => ha q.1.symm)]; exact h.2.1, fun j hj => by rw [mu_iv_oth _ _ (fun q => ha2 q.1.symm)]; exact h.2.2 j hj⟩
theorem mu_to {X : mu_X} {G : mu_G} {nL k n pc : Nat} {Qf : State → Prop} {w w' : mu_W} {lv lv' st : List Value} (h : mu_WA X G nL Qf w k n pc lv st) (hw : w' = w) (hl : lv' = lv) : mu_WA X G nL Qf w' k n pc lv' st := by rw [hw, hl]; exact h
theorem mu_si4 (w : mu_W) {a k b j : Nat} (x1 y1 x2 y2 : Int32) (h : ¬ (b = a ∧ j = k)) : mu_si (mu_si (mu_si (mu_si w a k x1) b j y1) a k x2) b j y2 = mu_si (mu_si w a k x2) b j y2 := by
  rw [mu_si_comm (mu_si w a k x1) y1 x2 h, mu_si_si, mu_si_si]
theorem c_X12_byteAt2 (G : mu_G) {w : mu_W} {m : Nat} (hm : mo_ok w m) {n : Nat} {tp : Nat → Nat} (ht : MT w m n tp) {i : Nat} (hi : i < 2147483648) : mu_Ct G M_X12_byteAt [.ref m, .int (mI i)] w (fun r w' => r = some (.int (mI (tb n tp i))) ∧ w' = w) := by
  refine (c_X12_byteAt G hm ht.2.1 ht.1.1 hi).mono ?_
  rintro r w' ⟨rfl, rfl⟩
  refine ⟨?_, rfl⟩
  unfold tb
  by_cases h : i < n
  · rw [if_pos h, if_pos h, ht.2.2 i h]
  · rw [if_neg h, if_neg h]

set_option maxHeartbeats 4000000 in
set_option maxRecDepth 100000 in
theorem c_X12_reads (G : mu_G) {w : mu_W} {m : Nat} (hm : mo_ok w m) {n : Nat} {tp : Nat → Nat} (ht : MT w m n tp) {p : Nat} (hp : mu_iv w m 11 = mI p) (hp2 : p ≤ 2000) {c : Int} (hc : 0 ≤ c) (hc2 : c < 256) : mu_Ct G M_X12_reads [.ref m, .int (mI c)] w (fun r w' => r = some (.int (if tb n tp p = c then mI 1 else mI 0)) ∧ w' = if tb n tp p = c then mu_si w m 11 (mI (p + 1)) else w) := by
  have hk0 := hm.1
  have hb := tb_bd ht.1 p
  refine mu_ofWA G M_X12_reads [.ref m, .int (mI c)] (by decide) rfl (Nat.le_of_ble_eq_true rfl) ?_
  intro X E
  have B : mu_B X G cX12_reads RX12 2 (mu_rm M_X12_reads) := E.1
  show mu_WA X G 2 _ _ 0 0 0 _ []
  refine mu_al_0 B dX12_reads_0 ?_
  refine mu_al_0 B dX12_reads_1 ?_
  refine mu_getI B dX12_reads_2 fX12_134 rfl (by assumption) ?_
  rw [hp]
  refine mu_eV1 B dX12_reads_5 mX12_137 ⟨⟨by decide, by decide⟩, by decide, by decide⟩ (Nat.le_of_ble_eq_true rfl) (by assumption) (c_X12_byteAt2 G hm ht (i := p) (by omega)) ?_
  refine mu_il_1 B dX12_reads_8 ?_
  refine mu_icmp_eq (tgt := 14) B dX12_reads_9 (by decide) (fun c9 => ?_) (fun c9 => ?_)
  · try rw [mI_eq ⟨by omega, by omega⟩ ⟨by omega, by omega⟩] at c9
    refine mu_al_0 B dX12_reads_14 ?_
    refine mu_dup B dX12_reads_15 rfl ?_
    refine mu_getI B dX12_reads_16 fX12_134 rfl (by assumption) ?_
    rw [hp]
    refine mu_iconst (v := mI 1) B dX12_reads_19 rfl ?_
    refine mu_iadd B dX12_reads_20 ?_
    try rw [mI_add]
    refine mu_putI B dX12_reads_21 fX12_134 fwX12_11 rfl (by assumption) ?_
    refine mu_iconst (v := mI 1) B dX12_reads_24 rfl ?_
    refine mu_zret E rfl (by decide) (by decide) dX12_reads_25 (by decide) ?_
    first | exact ⟨by rw [if_pos c9], by rw [if_pos c9]⟩ | exact ⟨by rw [if_neg c9], by rw [if_neg c9]⟩
  · try rw [mI_eq ⟨by omega, by omega⟩ ⟨by omega, by omega⟩] at c9
    refine mu_iconst (v := mI 0) B dX12_reads_12 rfl ?_
    refine mu_zret E rfl (by decide) (by decide) dX12_reads_13 (by decide) ?_
    first | exact ⟨by rw [if_pos c9], by rw [if_pos c9]⟩ | exact ⟨by rw [if_neg c9], by rw [if_neg c9]⟩

set_option maxHeartbeats 4000000 in
set_option maxRecDepth 100000 in
theorem c_X12_readDigits (G : mu_G) {w : mu_W} {m : Nat} (hm : mo_ok w m) {n : Nat} {tp : Nat → Nat} (ht : MT w m n tp) {p : Nat} (hp : mu_iv w m 11 = mI p) (hp2 : p ≤ 2000) : mu_Ct G M_X12_readDigits [.ref m] w (fun r w' => r = none ∧ w' = mu_si (mu_si w m 12 (mI (sp_dg (tb n tp) 9 p 0 0).2)) m 11 (mI (sp_dg (tb n tp) 9 p 0 0).1)) := by
  have hk0 := hm.1
  have hb := tb_bd ht.1
  have hn2 := ht.1.1
  obtain ⟨fin, hfin⟩ : ∃ q, sp_dg (tb n tp) 9 p 0 0 = q := ⟨_, rfl⟩
  rw [hfin]
  refine mu_ofWA G M_X12_readDigits [.ref m, mu_no] (by decide) rfl (Nat.le_of_ble_eq_true rfl) ?_
  intro X E
  have B : mu_B X G cX12_readDigits RX12 2 (mu_rm M_X12_readDigits) := E.1
  have L : ∀ s : Nat × Nat × Nat, (s.1 ≤ 2000 ∧ s.2.1 ≤ 9 ∧ s.2.2 < 512 ∧ ∃ f, 9 ≤ f + s.2.1 ∧ sp_dg (tb n tp) f s.1 s.2.1 s.2.2 = fin) → mu_WA X G 2 (mu_Q X G M_X12_readDigits (fun r w' => r = none ∧ w' = mu_si (mu_si w m 12 (mI fin.2)) m 11 (mI fin.1))) (mu_si (mu_si w m 12 (mI s.2.2)) m 11 (mI s.1)) 0 0 7 [.ref m, .int (mI ((s.2.1 : Int) - 1))] [] := by
    refine mu_wf (fun s => 9 - s.2.1) _ _ ?_
    rintro ⟨p1, le, t⟩ ⟨h1, h2, h3, f, h4, h5⟩ ih
    dsimp only at h1 h2 h3 h4 h5 ih ⊢
    have hm1 : mo_ok (mu_si (mu_si w m 12 (mI t)) m 11 (mI p1)) m := hm
    have ht1 : MT (mu_si (mu_si w m 12 (mI t)) m 11 (mI p1)) m n tp := (ht.si (by decide)).si (by decide)
    have e11 : mu_iv (mu_si (mu_si w m 12 (mI t)) m 11 (mI p1)) m 11 = mI p1 := mu_iv_same _ _ _ _
    have e12 : mu_iv (mu_si (mu_si w m 12 (mI t)) m 11 (mI p1)) m 12 = mI t := by rw [mu_iv_oth _ _ (by omega), mu_iv_same]
    have hb1 := hb p1
    have hend : ¬ (48 + (le : Int) ≤ tb n tp p1 ∧ tb n tp p1 ≤ 56) → mu_WA X G 2 (mu_Q X G M_X12_readDigits (fun r w' => r = none ∧ w' = mu_si (mu_si w m 12 (mI fin.2)) m 11 (mI fin.1))) (mu_si (mu_si w m 12 (mI t)) m 11 (mI p1)) 0 0 74 [.ref m, .int (mI ((le : Int) - 1))] [] := fun hc => by
      rw [sp_dg_stop _ _ _ _ _ hc] at h5
      subst h5
      exact mu_vret E rfl (by decide) (by decide) dX12_readDigits_74 ⟨rfl, rfl⟩
    refine mu_al_0 B dX12_readDigits_7 ?_
    refine mu_al_0 B dX12_readDigits_8 ?_
    refine mu_getI B dX12_readDigits_9 fX12_134 rfl (by assumption) ?_
    rw [e11]
    refine mu_eV1 B dX12_readDigits_12 mX12_137 ⟨⟨by decide, by decide⟩, by decide, by decide⟩ (Nat.le_of_ble_eq_true rfl) (by assumption) (c_X12_byteAt2 G hm1 ht1 (i := p1) (by omega)) ?_
    refine mu_bipush (v := mI 48) B dX12_readDigits_15 (by decide) ?_
    refine mu_il_1 B dX12_readDigits_17 ?_
    refine mu_iadd B dX12_readDigits_18 ?_
    try rw [mI_add]
    refine mu_iconst (v := mI 1) B dX12_readDigits_19 rfl ?_
    refine mu_iadd B dX12_readDigits_20 ?_
    try rw [mI_add]
    refine mu_icmp_lt (tgt := 74) B dX12_readDigits_21 (by decide) (fun c21 => ?_) (fun c21 => ?_)
    · try rw [mI_lt ⟨by omega, by omega⟩ ⟨by omega, by omega⟩] at c21
      exact hend (by omega)
    · try rw [mI_lt ⟨by omega, by omega⟩ ⟨by omega, by omega⟩] at c21
      refine mu_al_0 B dX12_readDigits_24 ?_
      refine mu_al_0 B dX12_readDigits_25 ?_
      refine mu_getI B dX12_readDigits_26 fX12_134 rfl (by assumption) ?_
      rw [e11]
      refine mu_eV1 B dX12_readDigits_29 mX12_137 ⟨⟨by decide, by decide⟩, by decide, by decide⟩ (Nat.le_of_ble_eq_true rfl) (by assumption) (c_X12_byteAt2 G hm1 ht1 (i := p1) (by omega)) ?_
      refine mu_bipush (v := mI 56) B dX12_readDigits_32 (by decide) ?_
      refine mu_icmp_gt (tgt := 74) B dX12_readDigits_34 (by decide) (fun c34 => ?_) (fun c34 => ?_)
      · try rw [mI_lt ⟨by omega, by omega⟩ ⟨by omega, by omega⟩] at c34
        exact hend (by omega)
      · try rw [mI_lt ⟨by omega, by omega⟩ ⟨by omega, by omega⟩] at c34
        refine mu_al_0 B dX12_readDigits_37 ?_
        refine mu_al_0 B dX12_readDigits_38 ?_
        refine mu_getI B dX12_readDigits_39 fX12_134 rfl (by assumption) ?_
        rw [e11]
        refine mu_eV1 B dX12_readDigits_42 mX12_137 ⟨⟨by decide, by decide⟩, by decide, by decide⟩ (Nat.le_of_ble_eq_true rfl) (by assumption) (c_X12_byteAt2 G hm1 ht1 (i := p1) (by omega)) ?_
        refine mu_bipush (v := mI 48) B dX12_readDigits_45 (by decide) ?_
        refine mu_isub B dX12_readDigits_47 ?_
        try rw [mI_sub]
        have hdd : tb n tp p1 - 48 = ((tb n tp p1 - 48).toNat : Int) := by omega
        rw [hdd]
        refine mu_is_1 B dX12_readDigits_48 (by decide) rfl ?_
        refine mu_al_0 B dX12_readDigits_49 ?_
        refine mu_dup B dX12_readDigits_50 rfl ?_
        refine mu_getI B dX12_readDigits_51 fX12_131 rfl (by assumption) ?_
        rw [e12]
        refine mu_iconst (v := mI 1) B dX12_readDigits_54 rfl ?_
        refine mu_il_1 B dX12_readDigits_55 ?_
        refine mu_ishl B dX12_readDigits_56 ?_
        rw [mI_shl _ _ (by omega)]
        rw [show (1 : Int) * 2 ^ (tb n tp p1 - 48).toNat = ((2 ^ (tb n tp p1 - 48).toNat : Nat) : Int) by simp]
        refine mu_ior B dX12_readDigits_57 ?_
        rw [mI_or (by omega) (Nat.lt_of_lt_of_le (Nat.pow_lt_pow_right (by decide) (show (tb n tp p1 - 48).toNat < 9 by omega)) (by decide))]
        refine mu_putI B dX12_readDigits_58 fX12_131 fwX12_12 rfl (by assumption) ?_
        refine mu_al_0 B dX12_readDigits_61 ?_
        refine mu_dup B dX12_readDigits_62 rfl ?_
        refine mu_getI B dX12_readDigits_63 fX12_134 rfl (by assumption) ?_
        rw [mu_iv_oth _ _ (by omega), e11]
        refine mu_iconst (v := mI 1) B dX12_readDigits_66 rfl ?_
        refine mu_iadd B dX12_readDigits_67 ?_
        try rw [mI_add]
        refine mu_putI B dX12_readDigits_68 fX12_134 fwX12_11 rfl (by assumption) ?_
        refine mu_goto (tgt := 7) B dX12_readDigits_71 (by decide) ?_
        generalize hd : (tb n tp p1 - 48).toNat = d at *
        have hd2 : tb n tp p1 = 48 + d := by omega
        rw [mu_si4 _ _ _ _ _ (by omega)]
        have e3 : t ||| 2 ^ d < 512 := Nat.or_lt_two_pow (n := 9) h3 (Nat.pow_lt_pow_right (by decide) (by omega))
        refine mu_to (ih (p1 + 1, d + 1, t ||| 2 ^ d) ⟨?_, by show d + 1 ≤ 9; omega, e3, ?_⟩ (by show 9 - (d + 1) < 9 - le; omega)) rfl (by rw [show (d : Int) = ((d + 1 : Nat) : Int) - 1 by omega])
        · have := tb_in (n := n) (tp := tp) (i := p1) (by omega)
          show p1 + 1 ≤ 2000
          omega
        · cases f with
          | zero => omega
          | succ f =>
            rw [sp_dg, if_pos ⟨by omega, by omega⟩, hd] at h5
            exact ⟨f, by show 9 ≤ f + (d + 1); omega, h5⟩
  refine mu_al_0 B dX12_readDigits_0 ?_
  refine mu_iconst (v := mI 0) B dX12_readDigits_1 rfl ?_
  refine mu_putI B dX12_readDigits_2 fX12_131 fwX12_12 rfl (by assumption) ?_
  refine mu_iconst (v := mI (-1)) B dX12_readDigits_5 rfl ?_
  refine mu_is_1 B dX12_readDigits_6 (by decide) rfl ?_
  have L0 := L (p, 0, 0) ⟨hp2, Nat.zero_le _, by show 0 < 512; decide, 9, Nat.le_refl _, hfin⟩
  have ew : mu_si (mu_si w m 12 (mI 0)) m 11 (mI p) = mu_si w m 12 (mI 0) := mu_si_self _ (by rw [mu_iv_oth _ _ (by omega)]; exact hp)
  rw [← ew]
  exact L0
