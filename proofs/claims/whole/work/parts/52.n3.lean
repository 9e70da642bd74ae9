set_option maxHeartbeats 4000000 in
set_option maxRecDepth 100000 in
theorem c_X5_faultOf (G : mu_G) {w : mu_W} {q t n : Nat} {tp : Nat → Nat} (hkq : mu_kd w q = some (5, 0)) (ht : CT w t n tp) : mu_Ct G M_X5_faultOf [.ref q, .ref t] w (fo_post w q t n tp) := by
  have hqt : q ≠ t := fun e => by rw [e] at hkq; have := hkq.symm.trans ht.1; simp at this
  have hqt2 : q ≠ t + 1 := fun e => by rw [e] at hkq; have := hkq.symm.trans ht.2.2.1; simp at this
  refine mu_ofWA G M_X5_faultOf [.ref q, .ref t, mu_no] (by decide) rfl (Nat.le_of_ble_eq_true rfl) ?_
  intro X E
  have B : mu_B X G cX5_faultOf RX5 3 (mu_rm M_X5_faultOf) := E.1
  have K48 : ∀ (s : mu_W) (g : Bool) (p : Nat), CRd w q t n tp s p → p ≤ 2000 → (g && decide (p = n)) = (sp_rule n tp).1 → (¬ (sp_rule n tp).1 = true → p = (sp_rule n tp).2.1) → ((sp_rule n tp).1 = true → mu_iv s q 0 = mI (rs_nb (sp_rule n tp).2.2) ∧ mu_iv s q 1 = mI (rs_bo (sp_rule n tp).2.2) ∧ mu_iv s q 2 = mI (rs_st (sp_rule n tp).2.2) ∧ mu_iv s q 3 = mI (rs_S (sp_rule n tp).2.2)) → mu_WA X G 3 (mu_Q X G M_X5_faultOf (fo_post w q t n tp)) s 0 0 48 [.ref q, .ref t, mu_no] [.int (if g = true then mI 1 else mI 0)] := by
    intro s g p hr hp hg hpl hv
    have hks := hr.1
    have hn9 := hr.2.1.2.2.2.1.1
    refine mu_is_2 B dX5_faultOf_48 (by decide) rfl ?_
    refine mu_il_2 B dX5_faultOf_49 ?_
    refine mu_if_eq (tgt := 68) B dX5_faultOf_50 (by decide) (fun c50 => ?_) (fun c50 => ?_)
    · have z50 := mu_bf c50
      refine mu_al_0 B dX5_faultOf_68 ?_
      refine mu_getI B dX5_faultOf_69 fX5_22 rfl (by assumption) ?_
      rw [hr.2.2.1]
      refine mu_iret E rfl (by decide) (by decide) dX5_faultOf_72 ?_
      first
        | have hy : (sp_rule n tp).1 = true := by rw [← hg, z50, show p = n by omega]; simp
          exact ⟨by rw [if_pos hy], hr.2.2.2.2, hv⟩
        | have hy : ¬ (sp_rule n tp).1 = true := by rw [← hg]; simp [z50]
          exact ⟨by rw [if_neg hy, ← hpl hy], hr.2.2.2.2, hv⟩
        | have hy : ¬ (sp_rule n tp).1 = true := by rw [← hg]; simp [show ¬ p = n by omega]
          exact ⟨by rw [if_neg hy, ← hpl hy], hr.2.2.2.2, hv⟩
    · have z50 := mu_bt c50
      refine mu_al_0 B dX5_faultOf_53 ?_
      refine mu_getI B dX5_faultOf_54 fX5_22 rfl (by assumption) ?_
      rw [hr.2.2.1]
      refine mu_al_1 B dX5_faultOf_57 ?_
      refine mu_eV0 B dX5_faultOf_58 mX5_38 ⟨⟨by decide, by decide⟩, by decide, by decide⟩ (Nat.le_of_ble_eq_true rfl) hr.2.1.1 (c_X10_size G hr.2.1) ?_
      refine mu_icmp_ne (tgt := 68) B dX5_faultOf_61 (by decide) (fun c61 => ?_) (fun c61 => ?_)
      · try rw [mI_eq ⟨by omega, by omega⟩ ⟨by omega, by omega⟩] at c61
        refine mu_al_0 B dX5_faultOf_68 ?_
        refine mu_getI B dX5_faultOf_69 fX5_22 rfl (by assumption) ?_
        rw [hr.2.2.1]
        refine mu_iret E rfl (by decide) (by decide) dX5_faultOf_72 ?_
        first
          | have hy : (sp_rule n tp).1 = true := by rw [← hg, z50, show p = n by omega]; simp
            exact ⟨by rw [if_pos hy], hr.2.2.2.2, hv⟩
          | have hy : ¬ (sp_rule n tp).1 = true := by rw [← hg]; simp [z50]
            exact ⟨by rw [if_neg hy, ← hpl hy], hr.2.2.2.2, hv⟩
          | have hy : ¬ (sp_rule n tp).1 = true := by rw [← hg]; simp [show ¬ p = n by omega]
            exact ⟨by rw [if_neg hy, ← hpl hy], hr.2.2.2.2, hv⟩
      · try rw [mI_eq ⟨by omega, by omega⟩ ⟨by omega, by omega⟩] at c61
        refine mu_iconst (v := mI (-1)) B dX5_faultOf_64 rfl ?_
        refine mu_goto (tgt := 72) B dX5_faultOf_65 (by decide) ?_
        refine mu_iret E rfl (by decide) (by decide) dX5_faultOf_72 ?_
        first
          | have hy : (sp_rule n tp).1 = true := by rw [← hg, z50, show p = n by omega]; simp
            exact ⟨by rw [if_pos hy], hr.2.2.2.2, hv⟩
          | have hy : ¬ (sp_rule n tp).1 = true := by rw [← hg]; simp [z50]
            exact ⟨by rw [if_neg hy, ← hpl hy], hr.2.2.2.2, hv⟩
          | have hy : ¬ (sp_rule n tp).1 = true := by rw [← hg]; simp [show ¬ p = n by omega]
            exact ⟨by rw [if_neg hy, ← hpl hy], hr.2.2.2.2, hv⟩
  show mu_WA X G 3 _ _ 0 0 0 _ []
  refine mu_al_0 B dX5_faultOf_0 ?_
  refine mu_iconst (v := mI 0) B dX5_faultOf_1 rfl ?_
  refine mu_putI B dX5_faultOf_2 fX5_7 fwX5_0 rfl (by assumption) ?_
  refine mu_al_0 B dX5_faultOf_5 ?_
  refine mu_iconst (v := mI 0) B dX5_faultOf_6 rfl ?_
  refine mu_putI B dX5_faultOf_7 fX5_13 fwX5_1 rfl (by assumption) ?_
  refine mu_al_0 B dX5_faultOf_10 ?_
  refine mu_iconst (v := mI 0) B dX5_faultOf_11 rfl ?_
  refine mu_putI B dX5_faultOf_12 fX5_16 fwX5_2 rfl (by assumption) ?_
  refine mu_al_0 B dX5_faultOf_15 ?_
  refine mu_iconst (v := mI 0) B dX5_faultOf_16 rfl ?_
  refine mu_putI B dX5_faultOf_17 fX5_19 fwX5_3 rfl (by assumption) ?_
  refine mu_al_0 B dX5_faultOf_20 ?_
  refine mu_iconst (v := mI 0) B dX5_faultOf_21 rfl ?_
  refine mu_putI B dX5_faultOf_22 fX5_22 fwX5_4 rfl (by assumption) ?_
  have hFq : mu_Fi (rq_S q) w (mu_si (mu_si (mu_si (mu_si (mu_si w q 0 (mI 0)) q 1 (mI 0)) q 2 (mI 0)) q 3 (mI 0)) q 4 (mI 0)) := (((((mu_Fi.refl _).si ⟨rfl, by decide⟩).si ⟨rfl, by decide⟩).si ⟨rfl, by decide⟩).si ⟨rfl, by decide⟩).si ⟨rfl, by decide⟩
  have h1 : CRd w q t n tp (mu_si (mu_si (mu_si (mu_si (mu_si w q 0 (mI 0)) q 1 (mI 0)) q 2 (mI 0)) q 3 (mI 0)) q 4 (mI 0)) 0 := ⟨hkq, ht.fi hFq (fun hh => hqt hh.1.symm) (fun j hh => hqt2 hh.1.symm), mu_iv_same _ _ _ _, by decide, hFq⟩
  have v0 : mu_iv (mu_si (mu_si (mu_si (mu_si (mu_si w q 0 (mI 0)) q 1 (mI 0)) q 2 (mI 0)) q 3 (mI 0)) q 4 (mI 0)) q 0 = mI 0 := by rw [mu_iv_oth _ _ (by omega), mu_iv_oth _ _ (by omega), mu_iv_oth _ _ (by omega), mu_iv_oth _ _ (by omega), mu_iv_same]
  have v1 : mu_iv (mu_si (mu_si (mu_si (mu_si (mu_si w q 0 (mI 0)) q 1 (mI 0)) q 2 (mI 0)) q 3 (mI 0)) q 4 (mI 0)) q 1 = mI 0 := by rw [mu_iv_oth _ _ (by omega), mu_iv_oth _ _ (by omega), mu_iv_oth _ _ (by omega), mu_iv_same]
  have v2 : mu_iv (mu_si (mu_si (mu_si (mu_si (mu_si w q 0 (mI 0)) q 1 (mI 0)) q 2 (mI 0)) q 3 (mI 0)) q 4 (mI 0)) q 2 = mI 0 := by rw [mu_iv_oth _ _ (by omega), mu_iv_oth _ _ (by omega), mu_iv_same]
  have v3 : mu_iv (mu_si (mu_si (mu_si (mu_si (mu_si w q 0 (mI 0)) q 1 (mI 0)) q 2 (mI 0)) q 3 (mI 0)) q 4 (mI 0)) q 3 = mI 0 := by rw [mu_iv_oth _ _ (by omega), mu_iv_same]
  generalize (mu_si (mu_si (mu_si (mu_si (mu_si w q 0 (mI 0)) q 1 (mI 0)) q 2 (mI 0)) q 3 (mI 0)) q 4 (mI 0)) = w1 at h1 v0 v1 v2 v3 ⊢
  have hk1 := h1.1
  have hb0 := tb_bd ht.2.2.2.1 0
  refine mu_al_1 B dX5_faultOf_25 ?_
  refine mu_iconst (v := mI 0) B dX5_faultOf_26 rfl ?_
  refine mu_eV1 B dX5_faultOf_27 mX5_25 ⟨⟨by decide, by decide⟩, by decide, by decide⟩ (Nat.le_of_ble_eq_true rfl) h1.2.1.1 (c_X10_byteAt G h1.2.1 (i := 0) (by decide)) ?_
  refine mu_bipush (v := mI 66) B dX5_faultOf_30 (by decide) ?_
  refine mu_icmp_ne (tgt := 43) B dX5_faultOf_32 (by decide) (fun c32 => ?_) (fun c32 => ?_)
  · try rw [mI_eq ⟨by omega, by omega⟩ ⟨by omega, by omega⟩] at c32
    refine mu_al_0 B dX5_faultOf_43 ?_
    refine mu_al_1 B dX5_faultOf_44 ?_
    refine mu_cV1 B dX5_faultOf_45 mX5_35 ⟨⟨by decide, by decide⟩, by decide, by decide⟩ (Nat.le_of_ble_eq_true rfl) (by assumption) (c_X5_takeBlocks G h1) (fun r45 w45 q45 => ?_)
    obtain ⟨rfl, h2, hv, hi3⟩ := q45
    show mu_WA X G 3 _ w45 0 0 48 _ [.int (if (sp_blk (tb n tp)).1 = true then mI 1 else mI 0)]
    first
      | refine mu_st (K48 w37 (sp_cnt (tb n tp)).1 (sp_cnt (tb n tp)).2.1 h2 h2.2.2.2.1 (by rw [sr_cnt (by omega)]) (fun _ => by rw [sr_cnt (by omega)]) (fun hh => ?_)) rfl
        rw [sr_cnt (by omega)] at hh ⊢
        have hg : (sp_cnt (tb n tp)).1 = true := by simp at hh; exact hh.1
        obtain ⟨e0, e1, e2⟩ := hv hg
        exact ⟨e0, e1, e2, hi3.trans v3⟩
      | by_cases h75 : tb n tp 0 = 75
        · refine mu_st (K48 w45 (sp_blk (tb n tp)).1 (sp_blk (tb n tp)).2.1 h2 h2.2.2.2.1 (by rw [sr_blk h75]) (fun _ => by rw [sr_blk h75]) (fun hh => ?_)) rfl
          rw [sr_blk h75] at hh ⊢
          have hg : (sp_blk (tb n tp)).1 = true := by simp at hh; exact hh.1
          exact ⟨(hi3 0 (by decide)).trans v0, (hi3 1 (by decide)).trans v1, (hi3 2 (by decide)).trans v2, hv hg⟩
        · have hno := sr_none h75 (by omega)
          rw [sp_blk_1 h75] at h2 hv ⊢
          exact mu_st (K48 w45 false 0 h2 (by decide) (by rw [hno.1]; rfl) (fun _ => hno.2.symm) (fun hh => by rw [hno.1] at hh; cases hh)) rfl
  · try rw [mI_eq ⟨by omega, by omega⟩ ⟨by omega, by omega⟩] at c32
    refine mu_al_0 B dX5_faultOf_35 ?_
    refine mu_al_1 B dX5_faultOf_36 ?_
    refine mu_cV1 B dX5_faultOf_37 mX5_31 ⟨⟨by decide, by decide⟩, by decide, by decide⟩ (Nat.le_of_ble_eq_true rfl) (by assumption) (c_X5_takeCounts G h1) (fun r37 w37 q37 => ?_)
    obtain ⟨rfl, h2, hv, hi3⟩ := q37
    show mu_WA X G 3 _ w37 0 0 40 _ [.int (if (sp_cnt (tb n tp)).1 = true then mI 1 else mI 0)]
    refine mu_goto (tgt := 48) B dX5_faultOf_40 (by decide) ?_
    first
      | refine mu_st (K48 w37 (sp_cnt (tb n tp)).1 (sp_cnt (tb n tp)).2.1 h2 h2.2.2.2.1 (by rw [sr_cnt (by omega)]) (fun _ => by rw [sr_cnt (by omega)]) (fun hh => ?_)) rfl
        rw [sr_cnt (by omega)] at hh ⊢
        have hg : (sp_cnt (tb n tp)).1 = true := by simp at hh; exact hh.1
        obtain ⟨e0, e1, e2⟩ := hv hg
        exact ⟨e0, e1, e2, hi3.trans v3⟩
      | by_cases h75 : tb n tp 0 = 75
        · refine mu_st (K48 w45 (sp_blk (tb n tp)).1 (sp_blk (tb n tp)).2.1 h2 h2.2.2.2.1 (by rw [sr_blk h75]) (fun _ => by rw [sr_blk h75]) (fun hh => ?_)) rfl
          rw [sr_blk h75] at hh ⊢
          have hg : (sp_blk (tb n tp)).1 = true := by simp at hh; exact hh.1
          exact ⟨(hi3 0 (by decide)).trans v0, (hi3 1 (by decide)).trans v1, (hi3 2 (by decide)).trans v2, hv hg⟩
        · have hno := sr_none h75 (by omega)
          rw [sp_blk_1 h75] at h2 hv ⊢
          exact mu_st (K48 w45 false 0 h2 (by decide) (by rw [hno.1]; rfl) (fun _ => hno.2.symm) (fun hh => by rw [hno.1] at hh; cases hh)) rfl

/-! ===== the class's rules ===== -/
def CRu (w : mu_W) (a : Nat) (r : mu_RS) : Prop := mu_kd w a = some (4, 0) ∧ mu_rv w a 0 = some (a + 1) ∧ mu_kd w (a + 1) = some (102, rs_len r) ∧ mu_rv w a 5 = some (a + 2) ∧ mu_kd w (a + 2) = some (100, rs_N r) ∧ mu_rv w a 6 = some (a + 3) ∧ mu_kd w (a + 3) = some (100, rs_N r) ∧ mu_rv w a 9 = some (a + 4) ∧ mu_kd w (a + 4) = some (100, rs_S r * rs_S r) ∧
  (rs_ok r ∧ mu_iv w a 1 = mI (rs_nb r) ∧ mu_iv w a 2 = mI (rs_bo r) ∧ mu_iv w a 3 = mI (rs_st r) ∧ mu_iv w a 4 = mI (rs_S r) ∧ (rs_nb r ≠ 0 → rs_S r = 0)) ∧
  (∀ j, j < rs_len r → mu_iv w (a + 1) j = mI (rs_tx r j)) ∧ (∀ k, k < rs_N r → mu_iv w (a + 2) k = mI (rs_be r k)) ∧
  ((sp_rev (rs_N r) (rs_be r) ∧ mu_iv w a 7 = mI (-1) ∧ ∀ b, b < rs_N r → mu_iv w (a + 3) b = mI (sp_inv (rs_be r) (rs_N r) b)) ∨ ∃ lo hi, sp_clash (rs_N r) (rs_be r) lo hi ∧ mu_iv w a 7 = mI (lo : Nat) ∧ mu_iv w a 8 = mI (hi : Nat)) ∧
  ∃ D, mu_iv w a 10 = mI (D : Nat) ∧ D ≤ rs_S r ∧ (rs_nb r = 0 → WTn r D) ∧ ∀ k v, k < D → v < rs_S r → ∃ x, WTv r k v x ∧ mu_iv w (a + 4) (k * rs_S r + v) = mI x
def ru_in (a : Nat) : Nat → Prop := fun q => a ≤ q ∧ q ≤ a + 4
theorem CRu.kp {w w' : mu_W} {a : Nat} {r : mu_RS} (h : CRu w a r) (hk : ∀ q, ru_in a q → mu_kd w' q = mu_kd w q ∧ (∀ j, mu_iv w' q j = mu_iv w q j) ∧ ∀ j, mu_rv w' q j = mu_rv w q j) : CRu w' a r := by
  have k0 := hk a ⟨by omega, by omega⟩
  have k1 := hk (a + 1) ⟨by omega, by omega⟩
  have k2 := hk (a + 2) ⟨by omega, by omega⟩
  have k3 := hk (a + 3) ⟨by omega, by omega⟩
  have k4 := hk (a + 4) ⟨by omega, by omega⟩
  unfold CRu
  simp only [k0.1, k0.2.1, k0.2.2, k1.1, k1.2.1, k2.1, k2.2.1, k3.1, k3.2.1, k4.1, k4.2.1]
  exact h

set_option maxHeartbeats 4000000 in
set_option maxRecDepth 100000 in
theorem c_X4_byteAt (G : mu_G) {w : mu_W} {a : Nat} {r0 : mu_RS} (hr : CRu w a r0) {z : Int} (hz : mi_ok z) : mu_Ct G M_X4_byteAt [.ref a, .int (mI z)] w (fun r w' => r = some (.int (if 0 ≤ z ∧ z < rs_len r0 then mI (rs_tx r0 z.toNat) else mI 0)) ∧ w' = w) := by
  obtain ⟨ka, r0_, ktx, r5, kbe, r6, kor, r9, kba, ⟨hok, v1, v2, v3, v4, hcs⟩, htx, hbe, hcl, D, v10, hD, hWn, hWv⟩ := id hr
  have hlen := hok.1
  have hnb := rs_nb_bd hok
  obtain ⟨hz1, hz2⟩ := hz
  refine mu_ofWA G M_X4_byteAt [.ref a, .int (mI z)] (by decide) rfl (Nat.le_of_ble_eq_true rfl) ?_
  intro X E
  have B : mu_B X G cX4_byteAt RX4 2 (mu_rm M_X4_byteAt) := E.1
  show mu_WA X G 2 _ _ 0 0 0 _ []
  refine mu_il_1 B dX4_byteAt_0 ?_
  refine mu_if_lt (tgt := 26) B dX4_byteAt_1 (by decide) (fun c1 => ?_) (fun c1 => ?_)
  · try rw [mI_lt0 ⟨by omega, by omega⟩] at c1
    refine mu_iconst (v := mI 0) B dX4_byteAt_26 rfl ?_
    refine mu_iret E rfl (by decide) (by decide) dX4_byteAt_27 ?_
    first | exact ⟨by rw [if_pos (by omega), mb_lo _ (by assumption)], rfl⟩ | exact ⟨by rw [if_neg (by omega)], rfl⟩
  · try rw [mI_lt0 ⟨by omega, by omega⟩] at c1
    refine mu_il_1 B dX4_byteAt_4 ?_
    refine mu_al_0 B dX4_byteAt_5 ?_
    refine mu_getR B dX4_byteAt_6 fX4_13 rfl (by assumption) (by assumption) ?_
    refine mu_len (ka := 2) B dX4_byteAt_9 (by assumption) (by decide) ?_
    refine mu_icmp_ge (tgt := 26) B dX4_byteAt_10 (by decide) (fun c10 => ?_) (fun c10 => ?_)
    · try rw [mI_le ⟨by omega, by omega⟩ ⟨by omega, by omega⟩] at c10
      refine mu_iconst (v := mI 0) B dX4_byteAt_26 rfl ?_
      refine mu_iret E rfl (by decide) (by decide) dX4_byteAt_27 ?_
      first | exact ⟨by rw [if_pos (by omega), mb_lo _ (by assumption)], rfl⟩ | exact ⟨by rw [if_neg (by omega)], rfl⟩
    · try rw [mI_le ⟨by omega, by omega⟩ ⟨by omega, by omega⟩] at c10
      refine mu_al_0 B dX4_byteAt_13 ?_
      refine mu_getR B dX4_byteAt_14 fX4_13 rfl (by assumption) (by assumption) ?_
      refine mu_il_1 B dX4_byteAt_17 ?_
      refine mu_bald B dX4_byteAt_18 (by assumption) (mI_in (by omega) (by omega) (by omega)) ?_
      rw [mI_clamp ⟨by omega, by omega⟩, htx _ (by omega)]
      have ht128 := hok.2.1 z.toNat (by omega)
      rw [← mb_lo _ ht128]
      refine mu_sipush (v := mI 255) B dX4_byteAt_19 (by decide) ?_
      refine mu_iand B dX4_byteAt_22 ?_
      rw [mb_and (by omega)]
      refine mu_goto (tgt := 27) B dX4_byteAt_23 (by decide) ?_
      refine mu_iret E rfl (by decide) (by decide) dX4_byteAt_27 ?_
      first | exact ⟨by rw [if_pos (by omega), mb_lo _ (by assumption)], rfl⟩ | exact ⟨by rw [if_neg (by omega)], rfl⟩

theorem rs_N_le {r : mu_RS} (h : rs_ok r) (hc : rs_nb r ≠ 0 → rs_S r = 0) : rs_N r ≤ 256 := by
  unfold rs_N
  by_cases q : rs_nb r = 0
  · have := rs_S_bd h q
    exact (s4_le ⟨this.1, this.2.1⟩).2
  · rw [hc q]; decide
theorem rs_S_le {r : mu_RS} (h : rs_ok r) (hc : rs_nb r ≠ 0 → rs_S r = 0) : rs_S r ≤ 4 ∧ (rs_nb r = 0 ↔ 0 < rs_S r) := by
  by_cases q : rs_nb r = 0
  · have := rs_S_bd h q
    exact ⟨this.2.1, ⟨fun _ => by omega, fun _ => q⟩⟩
  · have := hc q
    exact ⟨by omega, ⟨fun h => absurd h q, fun h => by omega⟩⟩

set_option maxHeartbeats 4000000 in
set_option maxRecDepth 100000 in
theorem c_X4_hasBlocks (G : mu_G) {w : mu_W} {a : Nat} {r0 : mu_RS} (hr : CRu w a r0) : mu_Ct G M_X4_hasBlocks [.ref a] w (fun r w' => r = some (.int (if rs_nb r0 = 0 then mI 1 else mI 0)) ∧ w' = w) := by
  obtain ⟨ka, r0_, ktx, r5, kbe, r6, kor, r9, kba, ⟨hok, v1, v2, v3, v4, hcs⟩, htx, hbe, hcl, D, v10, hD, hWn, hWv⟩ := id hr
  have hlen := hok.1
  have hnb := rs_nb_bd hok
  refine mu_ofWA G M_X4_hasBlocks [.ref a] (by decide) rfl (Nat.le_of_ble_eq_true rfl) ?_
  intro X E
  have B : mu_B X G cX4_hasBlocks RX4 1 (mu_rm M_X4_hasBlocks) := E.1
  show mu_WA X G 1 _ _ 0 0 0 _ []
  refine mu_al_0 B dX4_hasBlocks_0 ?_
  refine mu_getI B dX4_hasBlocks_1 fX4_37 rfl (by assumption) ?_
  rw [v4]
  have hSl := rs_S_le hok hcs
  refine mu_if_le (tgt := 11) B dX4_hasBlocks_4 (by decide) (fun c4 => ?_) (fun c4 => ?_)
  · try rw [mI_le0 ⟨by omega, by omega⟩] at c4
    refine mu_iconst (v := mI 0) B dX4_hasBlocks_11 rfl ?_
    refine mu_zret E rfl (by decide) (by decide) dX4_hasBlocks_12 (by decide) ?_
    first | exact ⟨by rw [if_pos (by omega)], rfl⟩ | exact ⟨by rw [if_neg (by omega)], rfl⟩
  · try rw [mI_le0 ⟨by omega, by omega⟩] at c4
    refine mu_iconst (v := mI 1) B dX4_hasBlocks_7 rfl ?_
    refine mu_goto (tgt := 12) B dX4_hasBlocks_8 (by decide) ?_
    refine mu_zret E rfl (by decide) (by decide) dX4_hasBlocks_12 (by decide) ?_
    first | exact ⟨by rw [if_pos (by omega)], rfl⟩ | exact ⟨by rw [if_neg (by omega)], rfl⟩

set_option maxHeartbeats 4000000 in
set_option maxRecDepth 100000 in
theorem c_X4_keepsVoid (G : mu_G) {w : mu_W} {a : Nat} {r0 : mu_RS} (hr : CRu w a r0) : mu_Ct G M_X4_keepsVoid [.ref a] w (fun r w' => r = some (.int (if rs_nb r0 ≠ 0 ∧ rs_bo r0 % 2 = 0 then mI 1 else mI 0)) ∧ w' = w) := by
  obtain ⟨ka, r0_, ktx, r5, kbe, r6, kor, r9, kba, ⟨hok, v1, v2, v3, v4, hcs⟩, htx, hbe, hcl, D, v10, hD, hWn, hWv⟩ := id hr
  have hlen := hok.1
  have hnb := rs_nb_bd hok
  refine mu_ofWA G M_X4_keepsVoid [.ref a] (by decide) rfl (Nat.le_of_ble_eq_true rfl) ?_
  intro X E
  have B : mu_B X G cX4_keepsVoid RX4 1 (mu_rm M_X4_keepsVoid) := E.1
  show mu_WA X G 1 _ _ 0 0 0 _ []
  refine mu_al_0 B dX4_keepsVoid_0 ?_
  refine mu_getI B dX4_keepsVoid_1 fX4_25 rfl (by assumption) ?_
  rw [v1]
  refine mu_if_le (tgt := 20) B dX4_keepsVoid_4 (by decide) (fun c4 => ?_) (fun c4 => ?_)
  · try rw [mI_le0 ⟨by omega, by omega⟩] at c4
    refine mu_iconst (v := mI 0) B dX4_keepsVoid_20 rfl ?_
    refine mu_zret E rfl (by decide) (by decide) dX4_keepsVoid_21 (by decide) ?_
    first | exact ⟨by rw [if_pos (by omega)], rfl⟩ | exact ⟨by rw [if_neg (by omega)], rfl⟩
  · try rw [mI_le0 ⟨by omega, by omega⟩] at c4
    refine mu_al_0 B dX4_keepsVoid_7 ?_
    refine mu_getI B dX4_keepsVoid_8 fX4_29 rfl (by assumption) ?_
    rw [v2]
    refine mu_iconst (v := mI 1) B dX4_keepsVoid_11 rfl ?_
    refine mu_iand B dX4_keepsVoid_12 ?_
    rw [mI_and _ (m := mI 1) 1 (by decide) (by decide)]
    rw [show (rs_bo r0 : Int) % 2 ^ 1 = ((rs_bo r0 % 2 : Nat) : Int) from rfl]
    refine mu_if_ne (tgt := 20) B dX4_keepsVoid_13 (by decide) (fun c13 => ?_) (fun c13 => ?_)
    · try rw [mI_eq0 ⟨by omega, by omega⟩] at c13
      refine mu_iconst (v := mI 0) B dX4_keepsVoid_20 rfl ?_
      refine mu_zret E rfl (by decide) (by decide) dX4_keepsVoid_21 (by decide) ?_
      first | exact ⟨by rw [if_pos (by omega)], rfl⟩ | exact ⟨by rw [if_neg (by omega)], rfl⟩
    · try rw [mI_eq0 ⟨by omega, by omega⟩] at c13
      refine mu_iconst (v := mI 1) B dX4_keepsVoid_16 rfl ?_
      refine mu_goto (tgt := 21) B dX4_keepsVoid_17 (by decide) ?_
      refine mu_zret E rfl (by decide) (by decide) dX4_keepsVoid_21 (by decide) ?_
      first | exact ⟨by rw [if_pos (by omega)], rfl⟩ | exact ⟨by rw [if_neg (by omega)], rfl⟩

set_option maxHeartbeats 4000000 in
set_option maxRecDepth 100000 in
theorem c_X4_isReversible (G : mu_G) {w : mu_W} {a : Nat} {r0 : mu_RS} (hr : CRu w a r0) : mu_Ct G M_X4_isReversible [.ref a] w (fun r w' => r = some (.int (rv_v r0)) ∧ w' = w) := by
  obtain ⟨ka, r0_, ktx, r5, kbe, r6, kor, r9, kba, ⟨hok, v1, v2, v3, v4, hcs⟩, htx, hbe, hcl, D, v10, hD, hWn, hWv⟩ := id hr
  have hlen := hok.1
  have hnb := rs_nb_bd hok
  rcases hcl with ⟨hrev, v7, -⟩ | ⟨lo, hi, hcla, v7, -⟩
  · refine mu_ofWA G M_X4_isReversible [.ref a] (by decide) rfl (Nat.le_of_ble_eq_true rfl) ?_
    intro X E
    have B : mu_B X G cX4_isReversible RX4 1 (mu_rm M_X4_isReversible) := E.1
    show mu_WA X G 1 _ _ 0 0 0 _ []
    refine mu_al_0 B dX4_isReversible_0 ?_
    refine mu_getI B dX4_isReversible_1 fX4_49 rfl (by assumption) ?_
    rw [v7]
    refine mu_if_ge (tgt := 11) B dX4_isReversible_4 (by decide) (fun c4 => ?_) (fun c4 => ?_)
    · exact absurd c4 (by decide)
    · refine mu_iconst (v := mI 1) B dX4_isReversible_7 rfl ?_
      refine mu_goto (tgt := 12) B dX4_isReversible_8 (by decide) ?_
      refine mu_zret E rfl (by decide) (by decide) dX4_isReversible_12 (by decide) ?_
      exact ⟨by rw [rv_1 hrev], rfl⟩
  · have hlo : lo < 256 := by have h1 := hcla.1; have h2 := hcla.2.1; have h3 := rs_N_le hok hcs; omega
    have hnr : ¬ sp_rev (rs_N r0) (rs_be r0) := fun hh => hh lo hi hcla.1 hcla.2.1 hcla.2.2.1
    refine mu_ofWA G M_X4_isReversible [.ref a] (by decide) rfl (Nat.le_of_ble_eq_true rfl) ?_
    intro X E
    have B : mu_B X G cX4_isReversible RX4 1 (mu_rm M_X4_isReversible) := E.1
    show mu_WA X G 1 _ _ 0 0 0 _ []
    refine mu_al_0 B dX4_isReversible_0 ?_
    refine mu_getI B dX4_isReversible_1 fX4_49 rfl (by assumption) ?_
    rw [v7]
    refine mu_if_ge (tgt := 11) B dX4_isReversible_4 (by decide) (fun c4 => ?_) (fun c4 => ?_)
    · try rw [mI_ge0 ⟨by omega, by omega⟩] at c4
      refine mu_iconst (v := mI 0) B dX4_isReversible_11 rfl ?_
      refine mu_zret E rfl (by decide) (by decide) dX4_isReversible_12 (by decide) ?_
      exact ⟨by rw [rv_0 hnr], rfl⟩
    · try rw [mI_ge0 ⟨by omega, by omega⟩] at c4
      exfalso
      omega

def wo_v (r0 : mu_RS) (z y : Int) (v : Int32) : Prop := ∃ x, v = mI x ∧ ((rs_nb r0 = 0 ∧ 0 ≤ z ∧ 0 ≤ y ∧ y < rs_S r0 → WTv r0 z.toNat y.toNat x) ∧ (¬ (rs_nb r0 = 0 ∧ 0 ≤ z ∧ 0 ≤ y ∧ y < rs_S r0) → x = 0))

set_option maxHeartbeats 4000000 in
set_option maxRecDepth 100000 in
theorem c_X4_weightOf (G : mu_G) {w : mu_W} {a : Nat} {r0 : mu_RS} (hr : CRu w a r0) {z y : Int} (hz : mi_ok z) (hy : mi_ok y) : mu_Ct G M_X4_weightOf [.ref a, .int (mI z), .int (mI y)] w (fun r w' => (∃ v, r = some (.int v) ∧ wo_v r0 z y v) ∧ w' = w) := by
  obtain ⟨ka, r0_, ktx, r5, kbe, r6, kor, r9, kba, ⟨hok, v1, v2, v3, v4, hcs⟩, htx, hbe, hcl, D, v10, hD, hWn, hWv⟩ := id hr
  have hlen := hok.1
  have hnb := rs_nb_bd hok
  obtain ⟨hz1, hz2⟩ := hz
  obtain ⟨hy1, hy2⟩ := hy
  have hSl := rs_S_le hok hcs
  refine mu_ofWA G M_X4_weightOf [.ref a, .int (mI z), .int (mI y), mu_no] (by decide) rfl (Nat.le_of_ble_eq_true rfl) ?_
  intro X E
  have B : mu_B X G cX4_weightOf RX4 4 (mu_rm M_X4_weightOf) := E.1
  show mu_WA X G 4 _ _ 0 0 0 _ []
  refine mu_il_1 B dX4_weightOf_0 ?_
  refine mu_if_lt (tgt := 24) B dX4_weightOf_1 (by decide) (fun c1 => ?_) (fun c1 => ?_)
  · try rw [mI_lt0 ⟨by omega, by omega⟩] at c1
    refine mu_iconst (v := mI 0) B dX4_weightOf_24 rfl ?_
    refine mu_iret E rfl (by decide) (by decide) dX4_weightOf_25 ?_
    refine ⟨⟨_, rfl, 0, rfl, fun hh => Or.inr ⟨?_, rfl⟩, fun _ => rfl⟩, rfl⟩
    have := hWn hh.1
    unfold WTn at this
    omega
  · try rw [mI_lt0 ⟨by omega, by omega⟩] at c1
    refine mu_il_1 B dX4_weightOf_4 ?_
    refine mu_al_0 B dX4_weightOf_5 ?_
    refine mu_getI B dX4_weightOf_6 fX4_64 rfl (by assumption) ?_
    rw [v10]
    refine mu_icmp_ge (tgt := 24) B dX4_weightOf_9 (by decide) (fun c9 => ?_) (fun c9 => ?_)
    · try rw [mI_le ⟨by omega, by omega⟩ ⟨by omega, by omega⟩] at c9
      refine mu_iconst (v := mI 0) B dX4_weightOf_24 rfl ?_
      refine mu_iret E rfl (by decide) (by decide) dX4_weightOf_25 ?_
      refine ⟨⟨_, rfl, 0, rfl, fun hh => Or.inr ⟨?_, rfl⟩, fun _ => rfl⟩, rfl⟩
      have := hWn hh.1
      unfold WTn at this
      omega
    · try rw [mI_le ⟨by omega, by omega⟩ ⟨by omega, by omega⟩] at c9
      refine mu_il_2 B dX4_weightOf_12 ?_
      refine mu_if_lt (tgt := 24) B dX4_weightOf_13 (by decide) (fun c13 => ?_) (fun c13 => ?_)
      · try rw [mI_lt0 ⟨by omega, by omega⟩] at c13
        refine mu_iconst (v := mI 0) B dX4_weightOf_24 rfl ?_
        refine mu_iret E rfl (by decide) (by decide) dX4_weightOf_25 ?_
        refine ⟨⟨_, rfl, 0, rfl, fun hh => Or.inr ⟨?_, rfl⟩, fun _ => rfl⟩, rfl⟩
        have := hWn hh.1
        unfold WTn at this
        omega
      · try rw [mI_lt0 ⟨by omega, by omega⟩] at c13
        refine mu_il_2 B dX4_weightOf_16 ?_
        refine mu_al_0 B dX4_weightOf_17 ?_
        refine mu_getI B dX4_weightOf_18 fX4_37 rfl (by assumption) ?_
        rw [v4]
        refine mu_icmp_lt (tgt := 26) B dX4_weightOf_21 (by decide) (fun c21 => ?_) (fun c21 => ?_)
        · try rw [mI_lt ⟨by omega, by omega⟩ ⟨by omega, by omega⟩] at c21
          refine mu_il_1 B dX4_weightOf_26 ?_
          refine mu_al_0 B dX4_weightOf_27 ?_
          refine mu_getI B dX4_weightOf_28 fX4_37 rfl (by assumption) ?_
          rw [v4]
          obtain ⟨k, hk⟩ : ∃ k : Nat, z = k := ⟨z.toNat, by omega⟩
          subst hk
          obtain ⟨v, hv⟩ : ∃ k : Nat, y = k := ⟨y.toNat, by omega⟩
          subst hv
          obtain ⟨x, hx1, hx2⟩ := hWv k v (by omega) (by omega)
          have hix := wh_ix (W := rs_S r0) (H := rs_S r0) (i := v) (j := k) (by omega) (by omega)
          rw [Nat.mul_comm (rs_S r0) k] at hix
          have hSS : rs_S r0 * rs_S r0 ≤ 16 := Nat.mul_le_mul hSl.1 hSl.1
          refine mu_imul B dX4_weightOf_31 ?_
          try rw [mI_mul]
          try rw [mI_mul]
          rw [← Int.natCast_mul]
          refine mu_il_2 B dX4_weightOf_32 ?_
          refine mu_iadd B dX4_weightOf_33 ?_
          try rw [mI_add]
          try rw [mI_add]
          rw [← Int.natCast_add]
          refine mu_is_3 B dX4_weightOf_34 (by decide) rfl ?_
          refine mu_il_3 B dX4_weightOf_35 ?_
          refine mu_al_0 B dX4_weightOf_36 ?_
          refine mu_getR B dX4_weightOf_37 fX4_55 rfl (by assumption) (by assumption) ?_
          refine mu_len (ka := 0) B dX4_weightOf_40 (by assumption) (by decide) ?_
          refine mu_icmp_ge (tgt := 53) B dX4_weightOf_41 (by decide) (fun c41 => ?_) (fun c41 => ?_)
          · try rw [mI_le ⟨by omega, by omega⟩ ⟨by omega, by omega⟩] at c41
            exfalso
            omega
          · try rw [mI_le ⟨by omega, by omega⟩ ⟨by omega, by omega⟩] at c41
            refine mu_al_0 B dX4_weightOf_44 ?_
            refine mu_getR B dX4_weightOf_45 fX4_55 rfl (by assumption) (by assumption) ?_
            refine mu_il_3 B dX4_weightOf_48 ?_
            refine mu_iald B dX4_weightOf_49 (by assumption) (mI_inN (by omega) (by omega)) ?_
            rw [mI_clampN (by omega), hx2]
            refine mu_goto (tgt := 54) B dX4_weightOf_50 (by decide) ?_
            refine mu_iret E rfl (by decide) (by decide) dX4_weightOf_54 ?_
            exact ⟨⟨_, rfl, x, rfl, fun _ => by rw [Int.toNat_natCast, Int.toNat_natCast]; exact hx1, fun hh => absurd ⟨by omega, by omega, by omega, by omega⟩ hh⟩, rfl⟩
        · try rw [mI_lt ⟨by omega, by omega⟩ ⟨by omega, by omega⟩] at c21
          refine mu_iconst (v := mI 0) B dX4_weightOf_24 rfl ?_
          refine mu_iret E rfl (by decide) (by decide) dX4_weightOf_25 ?_
          refine ⟨⟨_, rfl, 0, rfl, fun hh => Or.inr ⟨?_, rfl⟩, fun _ => rfl⟩, rfl⟩
          have := hWn hh.1
          unfold WTn at this
          omega
