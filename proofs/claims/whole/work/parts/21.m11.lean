/-! ===== the reference: moved patterns ===== -/
theorem LKP.uniq {c : Nat → Nat → Nat} {L R U D L2 R2 U2 D2 : Int} {M M2 : Nat} (h : LKP c 256 0 L R U D M) (h2 : LKP c 256 0 L2 R2 U2 D2 M2) : M = M2 ∧ L = L2 ∧ R = R2 ∧ U = U2 ∧ D = D2 := by
  have hM : M = M2 := h.1.trans h2.1.symm
  subst hM
  refine ⟨rfl, ?_⟩
  by_cases h0 : M = 0
  · have a := h.2.2.1 h0
    have b := h2.2.2.1 h0
    omega
  · obtain ⟨a1, ⟨j1, b1, b2⟩, ⟨j2, b3, b4⟩, ⟨i1, b5, b6⟩, ⟨i2, b7, b8⟩⟩ := h.2.2.2 h0
    obtain ⟨c1, ⟨k1, d1, d2⟩, ⟨k2, d3, d4⟩, ⟨l1, d5, d6⟩, ⟨l2, d7, d8⟩⟩ := h2.2.2.2 h0
    have e1 := h2.2.1 _ _ (by omega) (Or.inl b1) b2
    have e2 := h2.2.1 _ _ (by omega) (Or.inl b3) b4
    have e3 := h2.2.1 _ _ b5 (Or.inl (by omega)) b6
    have e4 := h2.2.1 _ _ b7 (Or.inl (by omega)) b8
    have f1 := h.2.1 _ _ (by omega) (Or.inl d1) d2
    have f2 := h.2.1 _ _ (by omega) (Or.inl d3) d4
    have f3 := h.2.1 _ _ d5 (Or.inl (by omega)) d6
    have f4 := h.2.1 _ _ d7 (Or.inl (by omega)) d8
    omega
/-- the alive cells of c are those of d, moved by (dx, dy) -/
def sp_mv (c d : Nat → Nat → Nat) (dx dy : Int) : Prop := ∃ (L R U D L' R' U' D' : Int) (M : Nat), LKP c 256 0 L R U D M ∧ LKP d 256 0 L' R' U' D' M ∧
  ((M = 0 ∧ dx = 0 ∧ dy = 0) ∨ (M ≠ 0 ∧ R' - L' = R - L ∧ D' - U' = D - U ∧ (∀ i j : Nat, (i : Int) ≤ R - L → (j : Int) ≤ D - U → c (L.toNat + i) (U.toNat + j) = d (L'.toNat + i) (U'.toNat + j)) ∧ dx = L - L' ∧ dy = U - U'))
def sp_mvd (c d : Nat → Nat → Nat) : Prop := ∃ dx dy, sp_mv c d dx dy
def mv_S (m : Nat) : Nat → Nat → Prop := fun q j => q = m ∧ ((19 ≤ j ∧ j ≤ 23) ∨ j = 36 ∨ j = 37)
def mv_post (w : mu_W) (m : Nat) (c d : Nat → Nat → Nat) (r : Option Value) (w' : mu_W) : Prop := mu_Fi (mv_S m) w w' ∧ ((∃ dx dy, sp_mv c d dx dy ∧ r = some (.int (mI 1)) ∧ mu_iv w' m 36 = mI dx ∧ mu_iv w' m 37 = mI dy) ∨ (¬ sp_mvd c d ∧ r = some (.int (mI 0)) ∧ mu_iv w' m 36 = mu_iv w m 36 ∧ mu_iv w' m 37 = mu_iv w m 37))
theorem mv_no {c d : Nat → Nat → Nat} {L R U D L' R' U' D' : Int} {M M' : Nat} (h : LKP c 256 0 L R U D M) (h' : LKP d 256 0 L' R' U' D' M') (hn : M' ≠ M ∨ (M ≠ 0 ∧ (R' - L' ≠ R - L ∨ D' - U' ≠ D - U ∨ ∃ i j : Nat, (i : Int) ≤ R - L ∧ (j : Int) ≤ D - U ∧ c (L.toNat + i) (U.toNat + j) ≠ d (L'.toNat + i) (U'.toNat + j)))) : ¬ sp_mvd c d := by
  rintro ⟨dx, dy, a1, a2, a3, a4, b1, b2, b3, b4, N, hc, hd, hh⟩
  obtain ⟨e0, e1, e2, e3, e4⟩ := h.uniq hc
  obtain ⟨f0, f1, f2, f3, f4⟩ := h'.uniq hd
  subst e1; subst e2; subst e3; subst e4; subst f1; subst f2; subst f3; subst f4
  rcases hn with hn | ⟨hn0, hn⟩
  · omega
  · rcases hh with ⟨g0, -⟩ | ⟨-, g1, g2, g3, -⟩
    · omega
    · rcases hn with hn | hn | ⟨i, j, hi, hj, hne⟩
      · exact hn g1
      · exact hn g2
      · exact hne (g3 i j hi hj)

set_option maxHeartbeats 4000000 in
set_option maxRecDepth 100000 in
theorem c_X12_isMoved (G : mu_G) {w : mu_W} {m : Nat} (hm : mo_ok w m) {f : Nat} (hf : f < 8) {c d : Nat → Nat → Nat} (hBc : Bd w (m + 13) 65536 0 256 256 c) (hBd : Bd w (m + 9) 524288 (65536 * f) 256 256 d) : mu_Ct G M_X12_isMoved [.ref m, .int (mI ((65536 * f : Nat) : Int))] w (fun r w' => mv_post w m c d r w') := by
  have hk0 := hm.1
  obtain ⟨r18a, k18a⟩ := mo_18 hm
  refine mu_ofWA G M_X12_isMoved [.ref m, .int (mI ((65536 * f : Nat) : Int)), mu_no, mu_no, mu_no, mu_no, mu_no, mu_no, mu_no] (by decide) rfl (Nat.le_of_ble_eq_true rfl) ?_
  intro X E
  have B : mu_B X G cX12_isMoved RX12 9 (mu_rm M_X12_isMoved) := E.1
  show mu_WA X G 9 _ _ 0 0 0 _ []
  refine mu_al_0 B dX12_isMoved_0 ?_
  refine mu_al_0 B dX12_isMoved_1 ?_
  refine mu_getR B dX12_isMoved_2 fX12_49 rfl (by assumption) (by assumption) ?_
  refine mu_iconst (v := mI 0) B dX12_isMoved_5 rfl ?_
  refine mu_cV2 B dX12_isMoved_6 mX12_204 ⟨⟨by decide, by decide⟩, by decide, by decide⟩ (Nat.le_of_ble_eq_true rfl) (by assumption) (c_X12_look G hm (fr := 0) hBc) (fun r6 w6 q6 => ?_)
  obtain ⟨rfl, L, R, U, D, M, hlk, ⟨h19, h20, h21, h22, h23⟩, hF1⟩ := q6
  have hm1 := hm.fi hF1
  have hk1 := hm1.1
  obtain ⟨r14a, k14a⟩ := mo_14 hm1
  have hbd := hlk.bd
  have hMb : M ≤ 65536 := by rw [hlk.1]; have := cntR_le hBc.2.2.2.2 256; have := cntX_le hBc.2.2.2.2 256 0; omega
  have hBd1 := hBd.fi hF1 (fun j hj => by unfold lk_S at hj; omega)
  refine mu_al_0 B dX12_isMoved_9 ?_
  refine mu_getI B dX12_isMoved_10 fX12_189 rfl (by assumption) ?_
  first | rw [k19] | rw [h19]
  refine mu_is_2 B dX12_isMoved_13 (by decide) rfl ?_
  refine mu_al_0 B dX12_isMoved_14 ?_
  refine mu_getI B dX12_isMoved_15 fX12_195 rfl (by assumption) ?_
  first | rw [k21] | rw [h21]
  refine mu_is_3 B dX12_isMoved_18 (by decide) rfl ?_
  refine mu_al_0 B dX12_isMoved_19 ?_
  refine mu_getI B dX12_isMoved_20 fX12_192 rfl (by assumption) ?_
  first | rw [k20] | rw [h20]
  refine mu_al_0 B dX12_isMoved_23 ?_
  refine mu_getI B dX12_isMoved_24 fX12_189 rfl (by assumption) ?_
  first | rw [k19] | rw [h19]
  refine mu_isub B dX12_isMoved_27 ?_
  try rw [mI_sub]
  refine mu_is_4 B dX12_isMoved_28 (by decide) rfl ?_
  refine mu_al_0 B dX12_isMoved_30 ?_
  refine mu_getI B dX12_isMoved_31 fX12_198 rfl (by assumption) ?_
  first | rw [k22] | rw [h22]
  refine mu_al_0 B dX12_isMoved_34 ?_
  refine mu_getI B dX12_isMoved_35 fX12_195 rfl (by assumption) ?_
  first | rw [k21] | rw [h21]
  refine mu_isub B dX12_isMoved_38 ?_
  try rw [mI_sub]
  refine mu_is_5 B dX12_isMoved_39 (by decide) rfl ?_
  refine mu_al_0 B dX12_isMoved_41 ?_
  refine mu_getI B dX12_isMoved_42 fX12_201 rfl (by assumption) ?_
  first | rw [k23] | rw [h23]
  refine mu_is_6 B dX12_isMoved_45 (by decide) rfl ?_
  refine mu_al_0 B dX12_isMoved_47 ?_
  refine mu_al_0 B dX12_isMoved_48 ?_
  refine mu_getR B dX12_isMoved_49 fX12_36 rfl (by assumption) (by assumption) ?_
  refine mu_il_1 B dX12_isMoved_52 ?_
  refine mu_cV2 B dX12_isMoved_53 mX12_204 ⟨⟨by decide, by decide⟩, by decide, by decide⟩ (Nat.le_of_ble_eq_true rfl) (by assumption) (c_X12_look G hm1 hBd1) (fun r53 w53 q53 => ?_)
  obtain ⟨rfl, L', R', U', D', M', hlk2, ⟨k19, k20, k21, k22, k23⟩, hF1b⟩ := q53
  have hF2 : mu_Fi (mv_S m) w w53 := (hF1.trans hF1b).mono (fun q j h => ⟨h.1, Or.inl h.2⟩)
  have e36 : mu_iv w53 m 36 = mu_iv w m 36 := ((hF1.trans hF1b).2.2.2 m 36 (by unfold lk_S; omega)).1
  have e37 : mu_iv w53 m 37 = mu_iv w m 37 := ((hF1.trans hF1b).2.2.2 m 37 (by unfold lk_S; omega)).1
  have hBc2 := hBc.fi (hF1.trans hF1b) (fun j hj => by unfold lk_S at hj; omega)
  have hBd2 := hBd1.fi hF1b (fun j hj => by unfold lk_S at hj; omega)
  have hm2 := hm1.fi hF1b
  clear h19 h20 h21 h22 h23
  generalize w53 = w2 at *
  have hk2 := hm2.1
  have hbd2 := hlk2.bd
  have hMb2 : M' ≤ 65536 := by rw [hlk2.1]; have := cntR_le hBd.2.2.2.2 256; have := cntX_le hBd.2.2.2.2 256 0; omega
  refine mu_al_0 B dX12_isMoved_56 ?_
  refine mu_getI B dX12_isMoved_57 fX12_201 rfl (by assumption) ?_
  first | rw [k23] | rw [h23]
  refine mu_il_6 B dX12_isMoved_60 ?_
  refine mu_icmp_eq (tgt := 67) B dX12_isMoved_62 (by decide) (fun c62 => ?_) (fun c62 => ?_)
  · try rw [mI_eq ⟨by omega, by omega⟩ ⟨by omega, by omega⟩] at c62
    have hMM : M' = M := by omega
    refine mu_il_6 B dX12_isMoved_67 ?_
    refine mu_if_ne (tgt := 84) B dX12_isMoved_69 (by decide) (fun c69 => ?_) (fun c69 => ?_)
    · try rw [mI_eq0 ⟨by omega, by omega⟩] at c69
      have hM0 : M ≠ 0 := by omega
      have hbx := (hlk.2.2.2 hM0).1
      have hbx2 := (hlk2.2.2.2 (by omega)).1
      obtain ⟨r18, k18⟩ := mo_18 hm2
      obtain ⟨r14, k14⟩ := mo_14 hm2
      refine mu_al_0 B dX12_isMoved_84 ?_
      refine mu_getI B dX12_isMoved_85 fX12_192 rfl (by assumption) ?_
      first | rw [k20] | rw [h20]
      refine mu_al_0 B dX12_isMoved_88 ?_
      refine mu_getI B dX12_isMoved_89 fX12_189 rfl (by assumption) ?_
      first | rw [k19] | rw [h19]
      refine mu_isub B dX12_isMoved_92 ?_
      try rw [mI_sub]
      refine mu_il_4 B dX12_isMoved_93 ?_
      refine mu_icmp_ne (tgt := 112) B dX12_isMoved_95 (by decide) (fun c95 => ?_) (fun c95 => ?_)
      · try rw [mI_eq ⟨by omega, by omega⟩ ⟨by omega, by omega⟩] at c95
        refine mu_iconst (v := mI 0) B dX12_isMoved_112 rfl ?_
        refine mu_zret E rfl (by decide) (by decide) dX12_isMoved_113 (by decide) ?_
        first | exact ⟨hF2, Or.inr ⟨mv_no hlk hlk2 (Or.inr ⟨hM0, Or.inl (by omega)⟩), rfl, e36, e37⟩⟩ | exact ⟨hF2, Or.inr ⟨mv_no hlk hlk2 (Or.inr ⟨hM0, Or.inr (Or.inl (by omega))⟩), rfl, e36, e37⟩⟩
      · try rw [mI_eq ⟨by omega, by omega⟩ ⟨by omega, by omega⟩] at c95
        refine mu_al_0 B dX12_isMoved_98 ?_
        refine mu_getI B dX12_isMoved_99 fX12_198 rfl (by assumption) ?_
        first | rw [k22] | rw [h22]
        refine mu_al_0 B dX12_isMoved_102 ?_
        refine mu_getI B dX12_isMoved_103 fX12_195 rfl (by assumption) ?_
        first | rw [k21] | rw [h21]
        refine mu_isub B dX12_isMoved_106 ?_
        try rw [mI_sub]
        refine mu_il_5 B dX12_isMoved_107 ?_
        refine mu_icmp_eq (tgt := 114) B dX12_isMoved_109 (by decide) (fun c109 => ?_) (fun c109 => ?_)
        · try rw [mI_eq ⟨by omega, by omega⟩ ⟨by omega, by omega⟩] at c109
          have hw : R' - L' = R - L := by omega
          have hh : D' - U' = D - U := by omega
          obtain ⟨wd, hwd⟩ : ∃ q : Nat, R - L = q := ⟨(R - L).toNat, by omega⟩
          obtain ⟨ht, hht⟩ : ∃ q : Nat, D - U = q := ⟨(D - U).toNat, by omega⟩
          have LY : ∀ y (s : Value), y ≤ ht + 1 → (∀ i j : Nat, (i : Int) ≤ R - L → j < y → c (L.toNat + i) (U.toNat + j) = d (L'.toNat + i) (U'.toNat + j)) → mu_WA X G 9 (mu_Q X G M_X12_isMoved (mv_post w m c d)) w2 0 0 117 [.ref m, .int (mI ((65536 * f : Nat) : Int)), .int (mI L), .int (mI U), .int (mI (R - L)), .int (mI (D - U)), .int (mI (M : Int)), .int (mI y), s] [] := by
            refine mu_ind (ht + 1) (fun y s => mu_WA X G 9 (mu_Q X G M_X12_isMoved (mv_post w m c d)) w2 0 0 117 [.ref m, .int (mI ((65536 * f : Nat) : Int)), .int (mI L), .int (mI U), .int (mI (R - L)), .int (mI (D - U)), .int (mI (M : Int)), .int (mI y), s] []) (fun y _ => ∀ i j : Nat, (i : Int) ≤ R - L → j < y → c (L.toNat + i) (U.toNat + j) = d (L'.toNat + i) (U'.toNat + j)) ?_
            intro y s hy hall ihy
            refine mu_il_7 B dX12_isMoved_117 ?_
            refine mu_il_5 B dX12_isMoved_119 ?_
            refine mu_icmp_gt (tgt := 195) B dX12_isMoved_121 (by decide) (fun c121 => ?_) (fun c121 => ?_)
            · try rw [mI_lt ⟨by omega, by omega⟩ ⟨by omega, by omega⟩] at c121
              obtain rfl : y = ht + 1 := by omega
              refine mu_al_0 B dX12_isMoved_195 ?_
              refine mu_il_2 B dX12_isMoved_196 ?_
              refine mu_al_0 B dX12_isMoved_197 ?_
              refine mu_getI B dX12_isMoved_198 fX12_189 rfl (by assumption) ?_
              rw [k19]
              refine mu_isub B dX12_isMoved_201 ?_
              try rw [mI_sub]
              refine mu_putI B dX12_isMoved_202 fX12_267 fwX12_36 rfl (by assumption) ?_
              refine mu_al_0 B dX12_isMoved_205 ?_
              refine mu_il_3 B dX12_isMoved_206 ?_
              refine mu_al_0 B dX12_isMoved_207 ?_
              refine mu_getI B dX12_isMoved_208 fX12_195 rfl (by assumption) ?_
              rw [mu_iv_oth _ _ (by omega), k21]
              refine mu_isub B dX12_isMoved_211 ?_
              try rw [mI_sub]
              refine mu_putI B dX12_isMoved_212 fX12_270 fwX12_37 rfl (by assumption) ?_
              refine mu_iconst (v := mI 1) B dX12_isMoved_215 rfl ?_
              refine mu_zret E rfl (by decide) (by decide) dX12_isMoved_216 (by decide) ?_
              exact ⟨(hF2.si ⟨rfl, Or.inr (Or.inl rfl)⟩).si ⟨rfl, Or.inr (Or.inr rfl)⟩, Or.inl ⟨L - L', U - U', ⟨L, R, U, D, L', R', U', D', M, hlk, by rw [← hMM]; exact hlk2, Or.inr ⟨hM0, hw, hh, fun i j h1 h2 => hall i j h1 (by omega), rfl, rfl⟩⟩, rfl, by rw [mu_iv_oth _ _ (by omega), mu_iv_same], by rw [mu_iv_same]⟩⟩
            · try rw [mI_lt ⟨by omega, by omega⟩ ⟨by omega, by omega⟩] at c121
              refine mu_iconst (v := mI 0) B dX12_isMoved_124 rfl ?_
              refine mu_is_8 B dX12_isMoved_125 (by decide) rfl ?_
              have LX : ∀ x (s : Unit), x ≤ wd + 1 → (∀ i j : Nat, (i : Int) ≤ R - L → (j < y ∨ (j = y ∧ i < x)) → c (L.toNat + i) (U.toNat + j) = d (L'.toNat + i) (U'.toNat + j)) → mu_WA X G 9 (mu_Q X G M_X12_isMoved (mv_post w m c d)) w2 0 0 127 [.ref m, .int (mI ((65536 * f : Nat) : Int)), .int (mI L), .int (mI U), .int (mI (R - L)), .int (mI (D - U)), .int (mI (M : Int)), .int (mI y), .int (mI x)] [] := by
                refine mu_ind (wd + 1) (fun x (_ : Unit) => mu_WA X G 9 (mu_Q X G M_X12_isMoved (mv_post w m c d)) w2 0 0 127 [.ref m, .int (mI ((65536 * f : Nat) : Int)), .int (mI L), .int (mI U), .int (mI (R - L)), .int (mI (D - U)), .int (mI (M : Int)), .int (mI y), .int (mI x)] []) (fun x _ => ∀ i j : Nat, (i : Int) ≤ R - L → (j < y ∨ (j = y ∧ i < x)) → c (L.toNat + i) (U.toNat + j) = d (L'.toNat + i) (U'.toNat + j)) ?_
                intro x s hx hall ih
                refine mu_il_8 B dX12_isMoved_127 ?_
                refine mu_il_4 B dX12_isMoved_129 ?_
                refine mu_icmp_gt (tgt := 189) B dX12_isMoved_131 (by decide) (fun c131 => ?_) (fun c131 => ?_)
                · try rw [mI_lt ⟨by omega, by omega⟩ ⟨by omega, by omega⟩] at c131
                  obtain rfl : x = wd + 1 := by omega
                  refine mu_inc_7 (c := mI 1) B dX12_isMoved_189 rfl (by decide) rfl ?_
                  try rw [mI_add]
                  refine mu_goto (tgt := 117) B dX12_isMoved_192 (by decide) ?_
                  exact mu_to (ihy (.int (mI ((wd + 1 : Nat) : Int))) (by omega) (fun i j h1 h2 => hall i j h1 (by omega))) rfl (by rw [show ((y + 1 : Nat) : Int) = (y : Int) + 1 by omega])
                · try rw [mI_lt ⟨by omega, by omega⟩ ⟨by omega, by omega⟩] at c131
                  refine mu_al_0 B dX12_isMoved_134 ?_
                  refine mu_getR B dX12_isMoved_135 fX12_49 rfl (by assumption) (by assumption) ?_
                  refine mu_sipush (v := mI 256) B dX12_isMoved_138 (by decide) ?_
                  refine mu_il_3 B dX12_isMoved_141 ?_
                  refine mu_il_7 B dX12_isMoved_142 ?_
                  refine mu_iadd B dX12_isMoved_144 ?_
                  try rw [mI_add]
                  refine mu_imul B dX12_isMoved_145 ?_
                  try rw [mI_mul]
                  refine mu_il_2 B dX12_isMoved_146 ?_
                  refine mu_iadd B dX12_isMoved_147 ?_
                  try rw [mI_add]
                  refine mu_il_8 B dX12_isMoved_148 ?_
                  refine mu_iadd B dX12_isMoved_150 ?_
                  try rw [mI_add]
                  rw [show (256 : Int) * (U + (y : Int)) + L + (x : Int) = ((256 * (U.toNat + y) + (L.toNat + x) : Nat) : Int) by omega]
                  refine mu_bald B dX12_isMoved_151 (by assumption) (mI_inN (by omega) (by decide)) ?_
                  rw [mI_clampN (by omega), show mu_iv w2 (m + 13) (256 * (U.toNat + y) + (L.toNat + x)) = mI (c (L.toNat + x) (U.toNat + y)) from by have := hBc2.2.2.2.1 (L.toNat + x) (U.toNat + y) (by omega) (by omega); rw [← this]; congr 1; omega]
                  refine mu_al_0 B dX12_isMoved_152 ?_
                  refine mu_getR B dX12_isMoved_153 fX12_36 rfl (by assumption) (by assumption) ?_
                  refine mu_il_1 B dX12_isMoved_156 ?_
                  refine mu_sipush (v := mI 256) B dX12_isMoved_157 (by decide) ?_
                  refine mu_al_0 B dX12_isMoved_160 ?_
                  refine mu_getI B dX12_isMoved_161 fX12_195 rfl (by assumption) ?_
                  rw [k21]
                  refine mu_il_7 B dX12_isMoved_164 ?_
                  refine mu_iadd B dX12_isMoved_166 ?_
                  try rw [mI_add]
                  refine mu_imul B dX12_isMoved_167 ?_
                  try rw [mI_mul]
                  refine mu_iadd B dX12_isMoved_168 ?_
                  try rw [mI_add]
                  refine mu_al_0 B dX12_isMoved_169 ?_
                  refine mu_getI B dX12_isMoved_170 fX12_189 rfl (by assumption) ?_
                  rw [k19]
                  refine mu_iadd B dX12_isMoved_173 ?_
                  try rw [mI_add]
                  refine mu_il_8 B dX12_isMoved_174 ?_
                  refine mu_iadd B dX12_isMoved_176 ?_
                  try rw [mI_add]
                  rw [show ((65536 * f : Nat) : Int) + 256 * (U' + (y : Int)) + L' + (x : Int) = ((65536 * f + 256 * (U'.toNat + y) + (L'.toNat + x) : Nat) : Int) by omega]
                  refine mu_bald B dX12_isMoved_177 (by assumption) (mI_inN (by omega) (by decide)) ?_
                  rw [mI_clampN (by omega), hBd2.2.2.2.1 (L'.toNat + x) (U'.toNat + y) (by omega) (by omega)]
                  have q1 := hBc.2.2.2.2 (L.toNat + x) (U.toNat + y)
                  have q2 := hBd.2.2.2.2 (L'.toNat + x) (U'.toNat + y)
                  refine mu_icmp_eq (tgt := 183) B dX12_isMoved_178 (by decide) (fun c178 => ?_) (fun c178 => ?_)
                  · try rw [mI_eq ⟨by omega, by omega⟩ ⟨by omega, by omega⟩] at c178
                    refine mu_inc_8 (c := mI 1) B dX12_isMoved_183 rfl (by decide) rfl ?_
                    try rw [mI_add]
                    refine mu_goto (tgt := 127) B dX12_isMoved_186 (by decide) ?_
                    refine mu_to (ih () (by omega) (fun i j h1 h2 => ?_)) rfl (by rw [show ((x + 1 : Nat) : Int) = (x : Int) + 1 by omega])
                    by_cases e9 : j = y ∧ i = x
                    · rw [e9.1, e9.2]; omega
                    · exact hall i j h1 (by omega)
                  · try rw [mI_eq ⟨by omega, by omega⟩ ⟨by omega, by omega⟩] at c178
                    refine mu_iconst (v := mI 0) B dX12_isMoved_181 rfl ?_
                    refine mu_zret E rfl (by decide) (by decide) dX12_isMoved_182 (by decide) ?_
                    exact ⟨hF2, Or.inr ⟨mv_no hlk hlk2 (Or.inr ⟨hM0, Or.inr (Or.inr ⟨x, y, by omega, by omega, by omega⟩)⟩), rfl, e36, e37⟩⟩
              exact LX 0 () (by omega) (fun i j h1 h2 => hall i j h1 (by omega))
          refine mu_iconst (v := mI 0) B dX12_isMoved_114 rfl ?_
          refine mu_is_7 B dX12_isMoved_115 (by decide) rfl ?_
          exact LY 0 _ (by omega) (fun i j h1 h2 => absurd h2 (Nat.not_lt_zero j))
        · try rw [mI_eq ⟨by omega, by omega⟩ ⟨by omega, by omega⟩] at c109
          refine mu_iconst (v := mI 0) B dX12_isMoved_112 rfl ?_
          refine mu_zret E rfl (by decide) (by decide) dX12_isMoved_113 (by decide) ?_
          first | exact ⟨hF2, Or.inr ⟨mv_no hlk hlk2 (Or.inr ⟨hM0, Or.inl (by omega)⟩), rfl, e36, e37⟩⟩ | exact ⟨hF2, Or.inr ⟨mv_no hlk hlk2 (Or.inr ⟨hM0, Or.inr (Or.inl (by omega))⟩), rfl, e36, e37⟩⟩
    · try rw [mI_eq0 ⟨by omega, by omega⟩] at c69
      refine mu_al_0 B dX12_isMoved_72 ?_
      refine mu_iconst (v := mI 0) B dX12_isMoved_73 rfl ?_
      refine mu_putI B dX12_isMoved_74 fX12_267 fwX12_36 rfl (by assumption) ?_
      refine mu_al_0 B dX12_isMoved_77 ?_
      refine mu_iconst (v := mI 0) B dX12_isMoved_78 rfl ?_
      refine mu_putI B dX12_isMoved_79 fX12_270 fwX12_37 rfl (by assumption) ?_
      refine mu_iconst (v := mI 1) B dX12_isMoved_82 rfl ?_
      refine mu_zret E rfl (by decide) (by decide) dX12_isMoved_83 (by decide) ?_
      have hM0 : M = 0 := by omega
      exact ⟨(hF2.si ⟨rfl, Or.inr (Or.inl rfl)⟩).si ⟨rfl, Or.inr (Or.inr rfl)⟩, Or.inl ⟨0, 0, ⟨L, R, U, D, L', R', U', D', M, hlk, by rw [← hMM]; exact hlk2, Or.inl ⟨hM0, rfl, rfl⟩⟩, rfl, by rw [mu_iv_oth _ _ (by omega), mu_iv_same], by rw [mu_iv_same]⟩⟩
  · try rw [mI_eq ⟨by omega, by omega⟩ ⟨by omega, by omega⟩] at c62
    refine mu_iconst (v := mI 0) B dX12_isMoved_65 rfl ?_
    refine mu_zret E rfl (by decide) (by decide) dX12_isMoved_66 (by decide) ?_
    exact ⟨hF2, Or.inr ⟨mv_no hlk hlk2 (Or.inl (by omega)), rfl, e36, e37⟩⟩
