def cq_post (w0 : mu_W) (q t n : Nat) (tp : Nat → Nat) (w : mu_W) (c : Bool × Nat × Nat × Nat × Nat) (r : Option Value) (w' : mu_W) : Prop := r = some (.int (if c.1 = true then mI 1 else mI 0)) ∧ CRd w0 q t n tp w' c.2.1 ∧ (c.1 = true → mu_iv w' q 0 = mI c.2.2.1 ∧ mu_iv w' q 1 = mI c.2.2.2.1 ∧ mu_iv w' q 2 = mI c.2.2.2.2) ∧ mu_iv w' q 3 = mu_iv w q 3
theorem cq_no {w0 : mu_W} {q t n : Nat} {tp : Nat → Nat} {w w' : mu_W} {p : Nat} (h : CRd w0 q t n tp w' p) (h3 : mu_iv w' q 3 = mu_iv w q 3) : cq_post w0 q t n tp w (false, p, 0, 0, 0) (some (.int (mI 0))) w' := ⟨rfl, h, fun hh => (by cases hh), h3⟩

set_option maxHeartbeats 4000000 in
set_option maxRecDepth 100000 in
theorem c_X5_takeCounts (G : mu_G) {w0 w : mu_W} {q t n : Nat} {tp : Nat → Nat} (h : CRd w0 q t n tp w 0) : mu_Ct G M_X5_takeCounts [.ref q, .ref t] w (cq_post w0 q t n tp w (sp_cnt (tb n tp))) := by
  have hk0 := h.1
  refine mu_ofWA G M_X5_takeCounts [.ref q, .ref t] (by decide) rfl (Nat.le_of_ble_eq_true rfl) ?_
  intro X E
  have B : mu_B X G cX5_takeCounts RX5 2 (mu_rm M_X5_takeCounts) := E.1
  show mu_WA X G 2 _ _ 0 0 0 _ []
  refine mu_al_0 B dX5_takeCounts_0 ?_
  refine mu_al_1 B dX5_takeCounts_1 ?_
  refine mu_bipush (v := mI 66) B dX5_takeCounts_2 (by decide) ?_
  refine mu_cV2 B dX5_takeCounts_4 mX5_42 ⟨⟨by decide, by decide⟩, by decide, by decide⟩ (Nat.le_of_ble_eq_true rfl) (by assumption) (c_X5_take G (w0 := w0) h (c := 66) (by decide)) (fun r4 w4 q4 => ?_)
  obtain ⟨rfl, h1, ih1⟩ := q4
  have hkh1 := h1.1
  refine mu_if_ne (tgt := 12) B dX5_takeCounts_7 (by decide) (fun c7 => ?_) (fun c7 => ?_)
  · have z7 := mu_bt c7
    rw [if_pos z7] at h1
    refine mu_al_0 B dX5_takeCounts_12 ?_
    refine mu_al_0 B dX5_takeCounts_13 ?_
    refine mu_al_1 B dX5_takeCounts_14 ?_
    refine mu_cV1 B dX5_takeCounts_15 mX5_46 ⟨⟨by decide, by decide⟩, by decide, by decide⟩ (Nat.le_of_ble_eq_true rfl) (by assumption) (c_X5_takeSet G (w0 := w0) h1) (fun r15 w15 q15 => ?_)
    obtain ⟨rfl, h2, ih2⟩ := q15
    have hkh2 := h2.1
    have hd9 := sp_dg_bd (n := n) (tp := tp) h.2.1.2.2.2.1 9 (0 + 1) 0 0 (by decide) (by decide)
    obtain ⟨d, hd⟩ : ∃ d, sp_dg (tb n tp) 9 1 0 0 = d := ⟨_, rfl⟩
    rw [show (0 + 1 : Nat) = 1 from rfl, hd] at h2 hd9
    rw [show (0 + 1 : Nat) = 1 from rfl, hd]
    show mu_WA X G 2 _ w15 0 0 18 _ [.int (mI (d.2 : Nat)), .ref q]
    refine mu_putI B dX5_takeCounts_18 fX5_13 fwX5_1 rfl (by assumption) ?_
    have h2b := h2.si (k := 1) (x := mI d.2) (by decide)
    have v1 : mu_iv (mu_si w15 q 1 (mI d.2)) q 1 = mI d.2 := mu_iv_same _ _ _ _
    have v3 : mu_iv (mu_si w15 q 1 (mI d.2)) q 3 = mu_iv w q 3 := (mu_iv_oth _ _ (by omega)).trans ((ih2 3 (by decide)).trans (ih1 3 (by decide)))
    generalize mu_si w15 q 1 (mI d.2) = w2 at h2b v1 v3 ⊢
    have hkb := h2b.1
    refine mu_al_0 B dX5_takeCounts_21 ?_
    refine mu_al_1 B dX5_takeCounts_22 ?_
    refine mu_bipush (v := mI 47) B dX5_takeCounts_23 (by decide) ?_
    refine mu_cV2 B dX5_takeCounts_25 mX5_42 ⟨⟨by decide, by decide⟩, by decide, by decide⟩ (Nat.le_of_ble_eq_true rfl) (by assumption) (c_X5_take G (w0 := w0) h2b (c := 47) (by decide)) (fun r25 w25 q25 => ?_)
    obtain ⟨rfl, h3, ih3⟩ := q25
    have hkh3 := h3.1
    refine mu_if_eq (tgt := 41) B dX5_takeCounts_28 (by decide) (fun c28 => ?_) (fun c28 => ?_)
    · have z28 := mu_bf c28
      rw [if_neg z28] at h3
      refine mu_iconst (v := mI 0) B dX5_takeCounts_41 rfl ?_
      refine mu_zret E rfl (by decide) (by decide) dX5_takeCounts_42 (by decide) ?_
      first
        | (rw [sp_cnt_2 hd z7 z28]; exact cq_no h3 ((ih3 3 (by decide)).trans v3))
        | (rw [sp_cnt_3 hd z7 z28 z38]; exact cq_no h4 ((ih4 3 (by decide)).trans ((ih3 3 (by decide)).trans v3)))
    · have z28 := mu_bt c28
      rw [if_pos z28] at h3
      refine mu_al_0 B dX5_takeCounts_31 ?_
      refine mu_al_1 B dX5_takeCounts_32 ?_
      refine mu_bipush (v := mI 83) B dX5_takeCounts_33 (by decide) ?_
      refine mu_cV2 B dX5_takeCounts_35 mX5_42 ⟨⟨by decide, by decide⟩, by decide, by decide⟩ (Nat.le_of_ble_eq_true rfl) (by assumption) (c_X5_take G (w0 := w0) h3 (c := 83) (by decide)) (fun r35 w35 q35 => ?_)
      obtain ⟨rfl, h4, ih4⟩ := q35
      have hkh4 := h4.1
      refine mu_if_ne (tgt := 43) B dX5_takeCounts_38 (by decide) (fun c38 => ?_) (fun c38 => ?_)
      · have z38 := mu_bt c38
        rw [if_pos z38] at h4
        refine mu_al_0 B dX5_takeCounts_43 ?_
        refine mu_al_0 B dX5_takeCounts_44 ?_
        refine mu_al_1 B dX5_takeCounts_45 ?_
        refine mu_cV1 B dX5_takeCounts_46 mX5_46 ⟨⟨by decide, by decide⟩, by decide, by decide⟩ (Nat.le_of_ble_eq_true rfl) (by assumption) (c_X5_takeSet G (w0 := w0) h4) (fun r46 w46 q46 => ?_)
        obtain ⟨rfl, h5, ih5⟩ := q46
        have hkh5 := h5.1
        have he9 := sp_dg_bd (n := n) (tp := tp) h.2.1.2.2.2.1 9 (d.1 + 1 + 1) 0 0 h4.2.2.2.1 (by decide)
        obtain ⟨e, he⟩ : ∃ e, sp_dg (tb n tp) 9 (d.1 + 2) 0 0 = e := ⟨_, rfl⟩
        rw [show d.1 + 1 + 1 = d.1 + 2 from rfl, he] at h5 he9
        rw [show d.1 + 1 + 1 = d.1 + 2 from rfl, he]
        show mu_WA X G 2 _ w46 0 0 49 _ [.int (mI (e.2 : Nat)), .ref q]
        refine mu_putI B dX5_takeCounts_49 fX5_16 fwX5_2 rfl (by assumption) ?_
        have h5b := h5.si (k := 2) (x := mI e.2) (by decide)
        have v2 : mu_iv (mu_si w46 q 2 (mI e.2)) q 2 = mI e.2 := mu_iv_same _ _ _ _
        have v1b : mu_iv (mu_si w46 q 2 (mI e.2)) q 1 = mI d.2 := (mu_iv_oth _ _ (by omega)).trans ((ih5 1 (by decide)).trans ((ih4 1 (by decide)).trans ((ih3 1 (by decide)).trans v1)))
        have v3b : mu_iv (mu_si w46 q 2 (mI e.2)) q 3 = mu_iv w q 3 := (mu_iv_oth _ _ (by omega)).trans ((ih5 3 (by decide)).trans ((ih4 3 (by decide)).trans ((ih3 3 (by decide)).trans v3)))
        generalize mu_si w46 q 2 (mI e.2) = w5 at h5b v2 v1b v3b ⊢
        have hkb5 := h5b.1
        refine mu_al_0 B dX5_takeCounts_52 ?_
        refine mu_al_1 B dX5_takeCounts_53 ?_
        refine mu_bipush (v := mI 47) B dX5_takeCounts_54 (by decide) ?_
        refine mu_cV2 B dX5_takeCounts_56 mX5_42 ⟨⟨by decide, by decide⟩, by decide, by decide⟩ (Nat.le_of_ble_eq_true rfl) (by assumption) (c_X5_take G (w0 := w0) h5b (c := 47) (by decide)) (fun r56 w56 q56 => ?_)
        obtain ⟨rfl, h6, ih6⟩ := q56
        have hkh6 := h6.1
        refine mu_if_ne (tgt := 64) B dX5_takeCounts_59 (by decide) (fun c59 => ?_) (fun c59 => ?_)
        · have z59 := mu_bt c59
          rw [if_pos z59] at h6
          have hbb := tb_bd h.2.1.2.2.2.1 (e.1 + 1)
          have hp6 := h6.2.2.2.1
          have hor : d.2 ||| e.2 < 512 := Nat.or_lt_two_pow (n := 9) hd9.2 he9.2
          refine mu_al_0 B dX5_takeCounts_64 ?_
          refine mu_al_1 B dX5_takeCounts_65 ?_
          refine mu_al_0 B dX5_takeCounts_66 ?_
          refine mu_getI B dX5_takeCounts_67 fX5_22 rfl (by assumption) ?_
          rw [h6.2.2.1]
          refine mu_eV1 B dX5_takeCounts_70 mX5_25 ⟨⟨by decide, by decide⟩, by decide, by decide⟩ (Nat.le_of_ble_eq_true rfl) h6.2.1.1 (c_X10_byteAt G h6.2.1 (i := e.1 + 1) (by omega)) ?_
          refine mu_eS1 B dX5_takeCounts_73 mX5_50 ⟨⟨by decide, by decide⟩, by decide, by decide⟩ (Nat.le_of_ble_eq_true rfl) (c_X5_neighboursOf G (z := tb n tp (e.1 + 1)) ⟨by omega, by omega⟩) ?_
          have hnb := sp_nb_le (tb n tp (e.1 + 1))
          generalize hnbe : sp_nb (tb n tp (e.1 + 1)) = nb at hnb ⊢
          refine mu_putI B dX5_takeCounts_76 fX5_7 fwX5_0 rfl (by assumption) ?_
          have h7 := h6.si (k := 0) (x := mI (nb : Nat)) (by decide)
          have y0 : mu_iv (mu_si w56 q 0 (mI (nb : Nat))) q 0 = mI (nb : Nat) := mu_iv_same _ _ _ _
          have y1 : mu_iv (mu_si w56 q 0 (mI (nb : Nat))) q 1 = mI d.2 := (mu_iv_oth _ _ (by omega)).trans ((ih6 1 (by decide)).trans v1b)
          have y2 : mu_iv (mu_si w56 q 0 (mI (nb : Nat))) q 2 = mI e.2 := (mu_iv_oth _ _ (by omega)).trans ((ih6 2 (by decide)).trans v2)
          have y3 : mu_iv (mu_si w56 q 0 (mI (nb : Nat))) q 3 = mu_iv w q 3 := (mu_iv_oth _ _ (by omega)).trans ((ih6 3 (by decide)).trans v3b)
          generalize mu_si w56 q 0 (mI (nb : Nat)) = w7 at h7 y0 y1 y2 y3 ⊢
          have hk7 := h7.1
          refine mu_al_0 B dX5_takeCounts_79 ?_
          refine mu_getI B dX5_takeCounts_80 fX5_7 rfl (by assumption) ?_
          rw [y0]
          refine mu_if_eq (tgt := 105) B dX5_takeCounts_83 (by decide) (fun c83 => ?_) (fun c83 => ?_)
          · try rw [mI_eq0 ⟨by omega, by omega⟩] at c83
            rw [sp_cnt_5 hd he z7 z28 z38 z59 (Or.inl (by omega))]
            refine mu_iconst (v := mI 0) B dX5_takeCounts_105 rfl ?_
            refine mu_zret E rfl (by decide) (by decide) dX5_takeCounts_106 (by decide) ?_
            exact cq_no h7 y3
          · try rw [mI_eq0 ⟨by omega, by omega⟩] at c83
            refine mu_al_0 B dX5_takeCounts_86 ?_
            refine mu_getI B dX5_takeCounts_87 fX5_13 rfl (by assumption) ?_
            rw [y1]
            refine mu_al_0 B dX5_takeCounts_90 ?_
            refine mu_getI B dX5_takeCounts_91 fX5_16 rfl (by assumption) ?_
            rw [y2]
            refine mu_ior B dX5_takeCounts_94 ?_
            rw [mI_or (by omega) (by omega)]
            refine mu_al_0 B dX5_takeCounts_95 ?_
            refine mu_getI B dX5_takeCounts_96 fX5_7 rfl (by assumption) ?_
            rw [y0]
            refine mu_iconst (v := mI 1) B dX5_takeCounts_99 rfl ?_
            refine mu_iadd B dX5_takeCounts_100 ?_
            try rw [mI_add]
            try rw [mI_add]
            rw [show (nb : Int) + 1 = ((nb + 1 : Nat) : Int) by omega]
            refine mu_ishr B dX5_takeCounts_101 ?_
            rw [mI_shr _ ⟨by omega, by omega⟩ _ (by omega)]
            rw [show ((d.2 ||| e.2 : Nat) : Int) / 2 ^ (nb + 1) = (((d.2 ||| e.2) / 2 ^ (nb + 1) : Nat) : Int) by simp]
            have hq := Nat.div_le_self (d.2 ||| e.2) (2 ^ (nb + 1))
            generalize hqq : (d.2 ||| e.2) / 2 ^ (nb + 1) = qq at hq ⊢
            refine mu_if_eq (tgt := 107) B dX5_takeCounts_102 (by decide) (fun c102 => ?_) (fun c102 => ?_)
            · try rw [mI_eq0 ⟨by omega, by omega⟩] at c102
              rw [sp_cnt_6 hd he z7 z28 z38 z59 (by rw [hnbe, hqq]; omega), hnbe]
              have hin := tb_in (n := n) (tp := tp) (i := e.1 + 1) (sp_nb_pos (by omega))
              have hn2 := h.2.1.2.2.2.1.1
              refine mu_al_0 B dX5_takeCounts_107 ?_
              refine mu_dup B dX5_takeCounts_108 rfl ?_
              refine mu_getI B dX5_takeCounts_109 fX5_22 rfl (by assumption) ?_
              rw [h7.2.2.1]
              refine mu_iconst (v := mI 1) B dX5_takeCounts_112 rfl ?_
              refine mu_iadd B dX5_takeCounts_113 ?_
              try rw [mI_add]
              refine mu_putI B dX5_takeCounts_114 fX5_22 fwX5_4 rfl (by assumption) ?_
              rw [show ((e.1 + 1 : Nat) : Int) + 1 = ((e.1 + 2 : Nat) : Int) by omega]
              refine mu_iconst (v := mI 1) B dX5_takeCounts_117 rfl ?_
              refine mu_zret E rfl (by decide) (by decide) dX5_takeCounts_118 (by decide) ?_
              exact ⟨rfl, h7.at (p' := e.1 + 2) (by omega), fun _ => ⟨(mu_iv_oth _ _ (by omega)).trans y0, (mu_iv_oth _ _ (by omega)).trans y1, (mu_iv_oth _ _ (by omega)).trans y2⟩, (mu_iv_oth _ _ (by omega)).trans y3⟩
            · try rw [mI_eq0 ⟨by omega, by omega⟩] at c102
              rw [sp_cnt_5 hd he z7 z28 z38 z59 (Or.inr (by rw [hnbe, hqq]; omega))]
              refine mu_iconst (v := mI 0) B dX5_takeCounts_105 rfl ?_
              refine mu_zret E rfl (by decide) (by decide) dX5_takeCounts_106 (by decide) ?_
              exact cq_no h7 y3
        · have z59 := mu_bf c59
          rw [if_neg z59] at h6
          refine mu_iconst (v := mI 0) B dX5_takeCounts_62 rfl ?_
          refine mu_zret E rfl (by decide) (by decide) dX5_takeCounts_63 (by decide) ?_
          rw [sp_cnt_4 hd he z7 z28 z38 z59]
          exact cq_no h6 ((ih6 3 (by decide)).trans v3b)
      · have z38 := mu_bf c38
        rw [if_neg z38] at h4
        refine mu_iconst (v := mI 0) B dX5_takeCounts_41 rfl ?_
        refine mu_zret E rfl (by decide) (by decide) dX5_takeCounts_42 (by decide) ?_
        first
          | (rw [sp_cnt_2 hd z7 z28]; exact cq_no h3 ((ih3 3 (by decide)).trans v3))
          | (rw [sp_cnt_3 hd z7 z28 z38]; exact cq_no h4 ((ih4 3 (by decide)).trans ((ih3 3 (by decide)).trans v3)))
  · have z7 := mu_bf c7
    rw [if_neg z7] at h1
    refine mu_iconst (v := mI 0) B dX5_takeCounts_10 rfl ?_
    refine mu_zret E rfl (by decide) (by decide) dX5_takeCounts_11 (by decide) ?_
    rw [sp_cnt_1 z7]
    exact cq_no h1 (ih1 3 (by decide))

def bq_post (w0 : mu_W) (q t n : Nat) (tp : Nat → Nat) (w : mu_W) (c : Bool × Nat × Nat) (r : Option Value) (w' : mu_W) : Prop := r = some (.int (if c.1 = true then mI 1 else mI 0)) ∧ CRd w0 q t n tp w' c.2.1 ∧ (c.1 = true → mu_iv w' q 3 = mI c.2.2) ∧ ∀ j, j < 3 → mu_iv w' q j = mu_iv w q j
theorem bq_no {w0 : mu_W} {q t n : Nat} {tp : Nat → Nat} {w w' : mu_W} {p : Nat} (h : CRd w0 q t n tp w' p) (h3 : ∀ j, j < 3 → mu_iv w' q j = mu_iv w q j) : bq_post w0 q t n tp w (false, p, 0) (some (.int (mI 0))) w' := ⟨rfl, h, fun hh => (by cases hh), h3⟩

set_option maxHeartbeats 4000000 in
set_option maxRecDepth 100000 in
theorem c_X5_takeBlocks (G : mu_G) {w0 w : mu_W} {q t n : Nat} {tp : Nat → Nat} (h : CRd w0 q t n tp w 0) : mu_Ct G M_X5_takeBlocks [.ref q, .ref t] w (bq_post w0 q t n tp w (sp_blk (tb n tp))) := by
  have hk0 := h.1
  refine mu_ofWA G M_X5_takeBlocks [.ref q, .ref t, mu_no, mu_no, mu_no, mu_no] (by decide) rfl (Nat.le_of_ble_eq_true rfl) ?_
  intro X E
  have B : mu_B X G cX5_takeBlocks RX5 6 (mu_rm M_X5_takeBlocks) := E.1
  show mu_WA X G 6 _ _ 0 0 0 _ []
  refine mu_al_0 B dX5_takeBlocks_0 ?_
  refine mu_al_1 B dX5_takeBlocks_1 ?_
  refine mu_bipush (v := mI 75) B dX5_takeBlocks_2 (by decide) ?_
  refine mu_cV2 B dX5_takeBlocks_4 mX5_42 ⟨⟨by decide, by decide⟩, by decide, by decide⟩ (Nat.le_of_ble_eq_true rfl) (by assumption) (c_X5_take G (w0 := w0) h (c := 75) (by decide)) (fun r4 w4 q4 => ?_)
  obtain ⟨rfl, h1, ih1⟩ := q4
  have hkh1 := h1.1
  refine mu_if_ne (tgt := 12) B dX5_takeBlocks_7 (by decide) (fun c7 => ?_) (fun c7 => ?_)
  · have z7 := mu_bt c7
    rw [if_pos z7] at h1
    have hbb := tb_bd h.2.1.2.2.2.1 1
    refine mu_al_1 B dX5_takeBlocks_12 ?_
    refine mu_al_0 B dX5_takeBlocks_13 ?_
    refine mu_getI B dX5_takeBlocks_14 fX5_22 rfl (by assumption) ?_
    rw [h1.2.2.1]
    refine mu_eV1 B dX5_takeBlocks_17 mX5_25 ⟨⟨by decide, by decide⟩, by decide, by decide⟩ (Nat.le_of_ble_eq_true rfl) h1.2.1.1 (c_X10_byteAt G h1.2.1 (i := 0 + 1) (by omega)) ?_
    rw [show (0 + 1 : Nat) = 1 from rfl]
    refine mu_bipush (v := mI 48) B dX5_takeBlocks_20 (by decide) ?_
    refine mu_isub B dX5_takeBlocks_22 ?_
    try rw [mI_sub]
    refine mu_is_2 B dX5_takeBlocks_23 (by decide) rfl ?_
    refine mu_il_2 B dX5_takeBlocks_24 ?_
    refine mu_iconst (v := mI 2) B dX5_takeBlocks_25 rfl ?_
    refine mu_icmp_lt (tgt := 34) B dX5_takeBlocks_26 (by decide) (fun c26 => ?_) (fun c26 => ?_)
    · try rw [mI_lt ⟨by omega, by omega⟩ ⟨by omega, by omega⟩] at c26
      refine mu_iconst (v := mI 0) B dX5_takeBlocks_34 rfl ?_
      refine mu_zret E rfl (by decide) (by decide) dX5_takeBlocks_35 (by decide) ?_
      rw [sp_blk_2 z7 (sp_S_no (by omega))]
      exact bq_no h1 (fun j hj => ih1 j (by omega))
    · try rw [mI_lt ⟨by omega, by omega⟩ ⟨by omega, by omega⟩] at c26
      refine mu_il_2 B dX5_takeBlocks_29 ?_
      refine mu_iconst (v := mI 4) B dX5_takeBlocks_30 rfl ?_
      refine mu_icmp_le (tgt := 36) B dX5_takeBlocks_31 (by decide) (fun c31 => ?_) (fun c31 => ?_)
      · try rw [mI_le ⟨by omega, by omega⟩ ⟨by omega, by omega⟩] at c31
        have hS := sp_S_of (b := tb n tp) ⟨by omega, by omega⟩
        generalize hSe : (tb n tp 1 - 48).toNat = S at hS
        rw [show tb n tp 1 - 48 = (S : Int) by omega]
        have hS0 : S ≠ 0 := by omega
        have hS4 := s4_cases (S := S) (by omega) (by omega)
        have hin := tb_in (n := n) (tp := tp) (i := 1) (by omega)
        have hn2 := h.2.1.2.2.2.1.1
        obtain ⟨f, hfull⟩ : ∃ f, sp_run (tb n tp) S (4 * (S * S * S * S)) 2 = f := ⟨_, rfl⟩
        have hfle := sp_run_le (tb n tp) S (4 * (S * S * S * S)) 2
        rw [hfull] at hfle
        have LB : ∀ u2 : Int32, ∀ k (s : mu_W), k ≤ (4 * (S * S * S * S)) → (CRd w0 q t n tp s (2 + k) ∧ mu_iv s q 3 = mI S ∧ (∀ j, j < 3 → mu_iv s q j = mu_iv w q j) ∧ sp_run (tb n tp) S ((4 * (S * S * S * S)) - k) (2 + k) = f) → mu_WA X G 6 (mu_Q X G M_X5_takeBlocks (bq_post w0 q t n tp w (sp_blk (tb n tp)))) s 0 0 76 [.ref q, .ref t, .int u2, .int (mI ((4 * (S * S * S * S)) : Nat)), .int (mI k), mu_no] [] := by
          intro u2
          refine mu_ind ((4 * (S * S * S * S))) (fun k (s : mu_W) => mu_WA X G 6 (mu_Q X G M_X5_takeBlocks (bq_post w0 q t n tp w (sp_blk (tb n tp)))) s 0 0 76 [.ref q, .ref t, .int u2, .int (mI ((4 * (S * S * S * S)) : Nat)), .int (mI k), mu_no] []) (fun k (s : mu_W) => CRd w0 q t n tp s (2 + k) ∧ mu_iv s q 3 = mI S ∧ (∀ j, j < 3 → mu_iv s q j = mu_iv w q j) ∧ sp_run (tb n tp) S ((4 * (S * S * S * S)) - k) (2 + k) = f) ?_
          rintro k s hk ⟨hr, h3s, hsm, hrun⟩ ih
          have hk5 := hr.1
          have hp2 := hr.2.2.2.1
          refine mu_il_4 B dX5_takeBlocks_76 ?_
          refine mu_il_3 B dX5_takeBlocks_78 ?_
          refine mu_icmp_ge (tgt := 127) B dX5_takeBlocks_79 (by decide) (fun c79 => ?_) (fun c79 => ?_)
          · try rw [mI_le ⟨by omega, by omega⟩ ⟨by omega, by omega⟩] at c79
            obtain rfl : (4 * (S * S * S * S)) = k := by omega
            refine mu_iconst (v := mI 1) B dX5_takeBlocks_127 rfl ?_
            refine mu_zret E rfl (by decide) (by decide) dX5_takeBlocks_128 (by decide) ?_
            rw [Nat.sub_self, sp_run] at hrun
            rw [sp_blk_4 z7 hS hS0 hfull (by omega)]
            exact ⟨rfl, hr, fun _ => h3s, hsm⟩
          · try rw [mI_le ⟨by omega, by omega⟩ ⟨by omega, by omega⟩] at c79
            have hkN : k < (4 * (S * S * S * S)) := by omega
            refine mu_al_1 B dX5_takeBlocks_82 ?_
            refine mu_al_0 B dX5_takeBlocks_83 ?_
            refine mu_getI B dX5_takeBlocks_84 fX5_22 rfl (by assumption) ?_
            rw [hr.2.2.1]
            refine mu_eV1 B dX5_takeBlocks_87 mX5_25 ⟨⟨by decide, by decide⟩, by decide, by decide⟩ (Nat.le_of_ble_eq_true rfl) hr.2.1.1 (c_X10_byteAt G hr.2.1 (i := 2 + k) (by omega)) ?_
            have hbb := tb_bd hr.2.1.2.2.2.1 (2 + k)
            refine mu_bipush (v := mI 48) B dX5_takeBlocks_90 (by decide) ?_
            refine mu_isub B dX5_takeBlocks_92 ?_
            try rw [mI_sub]
            refine mu_is_5 B dX5_takeBlocks_93 (by decide) rfl ?_
            refine mu_il_5 B dX5_takeBlocks_95 ?_
            refine mu_if_lt (tgt := 109) B dX5_takeBlocks_97 (by decide) (fun c97 => ?_) (fun c97 => ?_)
            · try rw [mI_lt0 ⟨by omega, by omega⟩] at c97
              refine mu_iconst (v := mI 0) B dX5_takeBlocks_109 rfl ?_
              refine mu_zret E rfl (by decide) (by decide) dX5_takeBlocks_110 (by decide) ?_
              have hf2 := sp_run_no hrun (by omega)
              rw [sp_blk_3 z7 hS hS0 hfull (by omega), hf2]
              exact bq_no hr hsm
            · try rw [mI_lt0 ⟨by omega, by omega⟩] at c97
              refine mu_il_5 B dX5_takeBlocks_100 ?_
              refine mu_al_0 B dX5_takeBlocks_102 ?_
              refine mu_getI B dX5_takeBlocks_103 fX5_19 rfl (by assumption) ?_
              rw [h3s]
              refine mu_icmp_lt (tgt := 111) B dX5_takeBlocks_106 (by decide) (fun c106 => ?_) (fun c106 => ?_)
              · try rw [mI_lt ⟨by omega, by omega⟩ ⟨by omega, by omega⟩] at c106
                refine mu_al_0 B dX5_takeBlocks_111 ?_
                refine mu_dup B dX5_takeBlocks_112 rfl ?_
                refine mu_getI B dX5_takeBlocks_113 fX5_22 rfl (by assumption) ?_
                rw [hr.2.2.1]
                refine mu_iconst (v := mI 1) B dX5_takeBlocks_116 rfl ?_
                refine mu_iadd B dX5_takeBlocks_117 ?_
                try rw [mI_add]
                refine mu_putI B dX5_takeBlocks_118 fX5_22 fwX5_4 rfl (by assumption) ?_
                rw [show ((2 + k : Nat) : Int) + 1 = ((2 + (k + 1) : Nat) : Int) by omega]
                refine mu_inc_4 (c := mI 1) B dX5_takeBlocks_121 rfl (by decide) rfl ?_
                try rw [mI_add]
                refine mu_goto (tgt := 76) B dX5_takeBlocks_124 (by decide) ?_
                refine mu_fg (ih _ (by omega) ⟨hr.at (p' := 2 + (k + 1)) (by have := tb_in (n := n) (tp := tp) (i := 2 + k) (by omega); have := hr.2.1.2.2.2.1.1; omega), (mu_iv_oth _ _ (by omega)).trans h3s, fun j hj => (mu_iv_oth _ _ (by omega)).trans (hsm j hj), ?_⟩) rfl (by rw [show ((k + 1 : Nat) : Int) = (k : Int) + 1 by omega]; exact ⟨Or.inl rfl, Or.inl rfl, Or.inl rfl, Or.inl rfl, Or.inl rfl, Or.inr rfl, trivial⟩)
                have := sp_run_go hrun (by omega) (by omega)
                rw [show (4 * (S * S * S * S)) - (k + 1) = (4 * (S * S * S * S)) - k - 1 by omega]
                exact this
              · try rw [mI_lt ⟨by omega, by omega⟩ ⟨by omega, by omega⟩] at c106
                refine mu_iconst (v := mI 0) B dX5_takeBlocks_109 rfl ?_
                refine mu_zret E rfl (by decide) (by decide) dX5_takeBlocks_110 (by decide) ?_
                have hf2 := sp_run_no hrun (by omega)
                rw [sp_blk_3 z7 hS hS0 hfull (by omega), hf2]
                exact bq_no hr hsm
        refine mu_al_0 B dX5_takeBlocks_36 ?_
        refine mu_il_2 B dX5_takeBlocks_37 ?_
        refine mu_putI B dX5_takeBlocks_38 fX5_19 fwX5_3 rfl (by assumption) ?_
        have h2 := h1.si (k := 3) (x := mI (S : Nat)) (by decide)
        have v3 : mu_iv (mu_si w4 q 3 (mI (S : Nat))) q 3 = mI S := mu_iv_same _ _ _ _
        have vs : ∀ j, j < 3 → mu_iv (mu_si w4 q 3 (mI (S : Nat))) q j = mu_iv w q j := fun j hj => (mu_iv_oth _ _ (by omega)).trans (ih1 j (by omega))
        generalize mu_si w4 q 3 (mI (S : Nat)) = w2 at h2 v3 vs ⊢
        have hk2 := h2.1
        refine mu_al_0 B dX5_takeBlocks_41 ?_
        refine mu_dup B dX5_takeBlocks_42 rfl ?_
        refine mu_getI B dX5_takeBlocks_43 fX5_22 rfl (by assumption) ?_
        rw [h2.2.2.1]
        refine mu_iconst (v := mI 1) B dX5_takeBlocks_46 rfl ?_
        refine mu_iadd B dX5_takeBlocks_47 ?_
        try rw [mI_add]
        refine mu_putI B dX5_takeBlocks_48 fX5_22 fwX5_4 rfl (by assumption) ?_
        rw [show ((0 + 1 : Nat) : Int) + 1 = ((2 + 0 : Nat) : Int) by omega]
        have h3 := h2.at (p' := 2 + 0) (by decide)
        have v3b : mu_iv (mu_si w2 q 4 (mI ((2 + 0 : Nat) : Int))) q 3 = mI S := (mu_iv_oth _ _ (by omega)).trans v3
        have vsb : ∀ j, j < 3 → mu_iv (mu_si w2 q 4 (mI ((2 + 0 : Nat) : Int))) q j = mu_iv w q j := fun j hj => (mu_iv_oth _ _ (by omega)).trans (vs j hj)
        generalize mu_si w2 q 4 (mI ((2 + 0 : Nat) : Int)) = w3 at h3 v3b vsb ⊢
        have hk3 := h3.1
        refine mu_iconst (v := mI 4) B dX5_takeBlocks_51 rfl ?_
        refine mu_al_0 B dX5_takeBlocks_52 ?_
        refine mu_getI B dX5_takeBlocks_53 fX5_19 rfl (by assumption) ?_
        rw [v3b]
        refine mu_imul B dX5_takeBlocks_56 ?_
        try rw [mI_mul]
        refine mu_al_0 B dX5_takeBlocks_57 ?_
        refine mu_getI B dX5_takeBlocks_58 fX5_19 rfl (by assumption) ?_
        rw [v3b]
        refine mu_imul B dX5_takeBlocks_61 ?_
        try rw [mI_mul]
        refine mu_al_0 B dX5_takeBlocks_62 ?_
        refine mu_getI B dX5_takeBlocks_63 fX5_19 rfl (by assumption) ?_
        rw [v3b]
        refine mu_imul B dX5_takeBlocks_66 ?_
        try rw [mI_mul]
        refine mu_al_0 B dX5_takeBlocks_67 ?_
        refine mu_getI B dX5_takeBlocks_68 fX5_19 rfl (by assumption) ?_
        rw [v3b]
        refine mu_imul B dX5_takeBlocks_71 ?_
        try rw [mI_mul]
        refine mu_is_3 B dX5_takeBlocks_72 (by decide) rfl ?_
        refine mu_iconst (v := mI 0) B dX5_takeBlocks_73 rfl ?_
        refine mu_is_4 B dX5_takeBlocks_74 (by decide) rfl ?_
        refine mu_fg (LB _ 0 w3 (Nat.zero_le _) ⟨h3, v3b, vsb, by rw [Nat.sub_zero]; exact hfull⟩) rfl (by rw [show (4 : Int) * (S : Int) * (S : Int) * (S : Int) * (S : Int) = (((4 * (S * S * S * S)) : Nat) : Int) by simp only [Int.natCast_mul]; show _ = (4 : Int) * ((S : Int) * (S : Int) * (S : Int) * (S : Int)); ac_rfl]; exact ⟨Or.inl rfl, Or.inl rfl, Or.inl rfl, Or.inl rfl, Or.inl rfl, Or.inr rfl, trivial⟩)
      · try rw [mI_le ⟨by omega, by omega⟩ ⟨by omega, by omega⟩] at c31
        refine mu_iconst (v := mI 0) B dX5_takeBlocks_34 rfl ?_
        refine mu_zret E rfl (by decide) (by decide) dX5_takeBlocks_35 (by decide) ?_
        rw [sp_blk_2 z7 (sp_S_no (by omega))]
        exact bq_no h1 (fun j hj => ih1 j (by omega))
  · have z7 := mu_bf c7
    rw [if_neg z7] at h1
    refine mu_iconst (v := mI 0) B dX5_takeBlocks_10 rfl ?_
    refine mu_zret E rfl (by decide) (by decide) dX5_takeBlocks_11 (by decide) ?_
    rw [sp_blk_1 z7]
    exact bq_no h1 (fun j hj => ih1 j (by omega))

def fo_post (w0 : mu_W) (q t n : Nat) (tp : Nat → Nat) (r : Option Value) (w' : mu_W) : Prop := r = some (.int (mI (if (sp_rule n tp).1 = true then -1 else ((sp_rule n tp).2.1 : Int)))) ∧ mu_Fi (rq_S q) w0 w' ∧ ((sp_rule n tp).1 = true → mu_iv w' q 0 = mI (rs_nb (sp_rule n tp).2.2) ∧ mu_iv w' q 1 = mI (rs_bo (sp_rule n tp).2.2) ∧ mu_iv w' q 2 = mI (rs_st (sp_rule n tp).2.2) ∧ mu_iv w' q 3 = mI (rs_S (sp_rule n tp).2.2))
theorem sr_cnt {n : Nat} {tp : Nat → Nat} (h : ¬ tb n tp 0 = 75) : sp_rule n tp = ((sp_cnt (tb n tp)).1 && decide ((sp_cnt (tb n tp)).2.1 = n), (sp_cnt (tb n tp)).2.1, (n, tp, (sp_cnt (tb n tp)).2.2.1, (sp_cnt (tb n tp)).2.2.2.1, (sp_cnt (tb n tp)).2.2.2.2, 0, fun _ => 0)) := by unfold sp_rule; rw [if_neg h]
theorem sr_blk {n : Nat} {tp : Nat → Nat} (h : tb n tp 0 = 75) : sp_rule n tp = ((sp_blk (tb n tp)).1 && decide ((sp_blk (tb n tp)).2.1 = n), (sp_blk (tb n tp)).2.1, (n, tp, 0, 0, 0, (sp_blk (tb n tp)).2.2, sp_be (tb n tp) (sp_blk (tb n tp)).2.2)) := by unfold sp_rule; rw [if_pos h]
theorem sr_none {n : Nat} {tp : Nat → Nat} (h : ¬ tb n tp 0 = 75) (h2 : ¬ tb n tp 0 = 66) : (sp_rule n tp).1 = false ∧ (sp_rule n tp).2.1 = 0 := by rw [sr_cnt h, sp_cnt_1 h2]; exact ⟨rfl, rfl⟩
