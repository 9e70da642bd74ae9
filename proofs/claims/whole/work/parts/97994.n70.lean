/-! ===== the class: period ===== -/
def peS (o : Nat) : Nat → Nat → Prop := fun e j => (e = o + 19 ∧ (j = 2 ∨ (5 ≤ j ∧ j ≤ 9))) ∨ e = o + 20 ∨ e = o + 21 ∨ (o + 15 ≤ e ∧ e ≤ o + 18)
def pfS (o : Nat) : Nat → Nat → Prop := fun e j => peS o e j ∨ (e = o ∧ (j = 16 ∨ j = 17))
def per_post (w : mu_W) (o : Nat) (ru : mu_RS) (c : Nat → Nat → Nat) (n : Nat) (r : Option Value) (w' : mu_W) : Prop := (¬ sp_done c n → r = some (.int (mI (-2))) ∧ w' = w) ∧ (sp_done c n → mu_Fr (pfS o) w w' ∧ CSt w' (o + 15) ∧ CFo w' (o + 19) ∧
  ((∃ p : Nat, 1 ≤ p ∧ p ≤ n ∧ (∀ q, 1 ≤ q → q < p → ¬ sp_mvd (sp_its (rs_nb ru) (rs_bo ru) (rs_st ru) q c) c) ∧ ∃ dx dy, sp_mv (sp_its (rs_nb ru) (rs_bo ru) (rs_st ru) p c) c dx dy ∧ r = some (.int (mI p)) ∧ mu_iv w' o 16 = mI dx ∧ mu_iv w' o 17 = mI dy) ∨
    ((∀ q, 1 ≤ q → q ≤ n → ¬ sp_mvd (sp_its (rs_nb ru) (rs_bo ru) (rs_st ru) q c) c) ∧ r = some (.int (mI 0)) ∧ mu_iv w' o 16 = mu_iv w o 16 ∧ mu_iv w' o 17 = mu_iv w o 17)))

set_option maxHeartbeats 4000000 in
set_option maxRecDepth 100000 in
theorem c_X11_period_n (G : mu_G) {w : mu_W} {o : Nat} (hm : CMo w o) {ra : Nat → Nat} {nf : Nat} {fs : Nat → mu_FS} {hf : Nat} {fa : Nat → Nat} (hF : CFs w o ra nf fs hf fa) {z : Int} (hz : mi_ok z) (hn : ¬ (0 ≤ z ∧ z < nf)) {y : Int32} : mu_Ct G M_X11_period [.ref o, .int (mI z), .int y] w (fun r w' => r = some (.int (mI (-1))) ∧ w' = w) := by
  obtain ⟨ko, hox, ⟨r0, r1, r2, r3, r4, r6, r8, r10, r11, r12, r13, r14⟩, ⟨k1, k3, k4, kB, k12, k13, k14⟩, kS, kF, kQ, k26, kH⟩ := id hm
  obtain ⟨hn1, hn8, hnf, hfs, hfn, hfi, hf1⟩ := id hF
  refine mu_ofWA G M_X11_period [.ref o, .int (mI z), .int y, mu_no, mu_no] (by decide) rfl (Nat.le_of_ble_eq_true rfl) ?_
  intro X E
  have B : mu_B X G cX11_period RX11 5 (mu_rm M_X11_period) := E.1
  show mu_WA X G 5 _ _ 0 0 0 _ []
  refine mu_al_0 B dX11_period_0 ?_
  refine mu_il_1 B dX11_period_1 ?_
  refine mu_eV1 B dX11_period_2 mX11_139 ⟨⟨by decide, by decide⟩, by decide, by decide⟩ (Nat.le_of_ble_eq_true rfl) (by exact ko) (c_X11_fieldAt_n G hm hF hz hn) ?_
  refine mu_ns_3 B dX11_period_5 (by decide) rfl ?_
  refine mu_nl_3 B dX11_period_6 ?_
  refine mu_ifnullN (tgt := 21) B dX11_period_7 (by decide) ?_
  refine mu_iconst (v := mI (-1)) B dX11_period_21 rfl ?_
  refine mu_iret E rfl (by decide) (by decide) dX11_period_22 ?_
  exact ⟨rfl, rfl⟩

set_option maxHeartbeats 4000000 in
set_option maxRecDepth 100000 in
theorem c_X11_period_b (G : mu_G) {w : mu_W} {o : Nat} (hm : CMo w o) {ra : Nat → Nat} {nf : Nat} {fs : Nat → mu_FS} {hf : Nat} {fa : Nat → Nat} (hF : CFs w o ra nf fs hf fa) {i : Nat} (hi : i < nf) {y : Int} (hy : mi_ok y) (hbad : ¬ (1 ≤ y ∧ y ≤ 60)) : mu_Ct G M_X11_period [.ref o, .int (mI (i : Nat)), .int (mI y)] w (fun r w' => r = some (.int (mI (-1))) ∧ w' = w) := by
  obtain ⟨ko, hox, ⟨r0, r1, r2, r3, r4, r6, r8, r10, r11, r12, r13, r14⟩, ⟨k1, k3, k4, kB, k12, k13, k14⟩, kS, kF, kQ, k26, kH⟩ := id hm
  obtain ⟨hn1, hn8, hnf, hfs, hfn, hfi, hf1⟩ := id hF
  obtain ⟨hy1, hy2⟩ := hy
  refine mu_ofWA G M_X11_period [.ref o, .int (mI (i : Nat)), .int (mI y), mu_no, mu_no] (by decide) rfl (Nat.le_of_ble_eq_true rfl) ?_
  intro X E
  have B : mu_B X G cX11_period RX11 5 (mu_rm M_X11_period) := E.1
  show mu_WA X G 5 _ _ 0 0 0 _ []
  refine mu_al_0 B dX11_period_0 ?_
  refine mu_il_1 B dX11_period_1 ?_
  refine mu_eV1 B dX11_period_2 mX11_139 ⟨⟨by decide, by decide⟩, by decide, by decide⟩ (Nat.le_of_ble_eq_true rfl) (by exact ko) (c_X11_fieldAt_y G hm hF hi) ?_
  refine mu_as_3 B dX11_period_5 (by decide) rfl ?_
  refine mu_al_3 B dX11_period_6 ?_
  refine mu_ifnull B dX11_period_7 ?_
  refine mu_il_2 B dX11_period_10 ?_
  refine mu_iconst (v := mI 1) B dX11_period_11 rfl ?_
  refine mu_icmp_lt (tgt := 21) B dX11_period_12 (by decide) (fun c12 => ?_) (fun c12 => ?_)
  · try rw [mI_lt ⟨by omega, by omega⟩ ⟨by omega, by omega⟩] at c12
    refine mu_iconst (v := mI (-1)) B dX11_period_21 rfl ?_
    refine mu_iret E rfl (by decide) (by decide) dX11_period_22 ?_
    exact ⟨rfl, rfl⟩
  · try rw [mI_lt ⟨by omega, by omega⟩ ⟨by omega, by omega⟩] at c12
    refine mu_il_2 B dX11_period_15 ?_
    refine mu_bipush (v := mI 60) B dX11_period_16 (by decide) ?_
    refine mu_icmp_le (tgt := 23) B dX11_period_18 (by decide) (fun c18 => ?_) (fun c18 => ?_)
    · try rw [mI_le ⟨by omega, by omega⟩ ⟨by omega, by omega⟩] at c18
      exfalso
      omega
    · try rw [mI_le ⟨by omega, by omega⟩ ⟨by omega, by omega⟩] at c18
      refine mu_iconst (v := mI (-1)) B dX11_period_21 rfl ?_
      refine mu_iret E rfl (by decide) (by decide) dX11_period_22 ?_
      exact ⟨rfl, rfl⟩

set_option maxHeartbeats 4000000 in
set_option maxRecDepth 100000 in
theorem c_X11_period_y (G : mu_G) {w : mu_W} {o : Nat} (hm : CMo w o) {ra : Nat → Nat} {nf : Nat} {fs : Nat → mu_FS} {hf : Nat} {fa : Nat → Nat} (hF : CFs w o ra nf fs hf fa) {i : Nat} (hi : i < nf) {rs : Nat → mu_RS} (hq : RUq w (ra (fs_r (fs i))) (rs (fs_r (fs i)))) (hro : o + 35 ≤ ra (fs_r (fs i))) {n : Nat} (hn1' : 1 ≤ n) (hn60 : n ≤ 60) : mu_Ct G M_X11_period [.ref o, .int (mI (i : Nat)), .int (mI (n : Nat))] w (per_post w o (rs (fs_r (fs i))) (fs_c (fs i)) n) := by
  obtain ⟨ko, hox, ⟨r0, r1, r2, r3, r4, r6, r8, r10, r11, r12, r13, r14⟩, ⟨k1, k3, k4, kB, k12, k13, k14⟩, kS, kF, kQ, k26, kH⟩ := id hm
  obtain ⟨hn1, hn8, hnf, hfs, hfn, hfi, hf1⟩ := id hF
  obtain ⟨hb, ⟨L, R, U, D, M, hx, hcm⟩, hrr, hfr, hfg⟩ := id (hf1 i hi)
  have hfo := (hfs i (by omega)).2.2.2
  have hbd := hx.bd hb.1
  obtain ⟨bd1, bd2, bd3, bd4, bd5, bd6, bd7, bd8, bd9⟩ := id hbd
  have hao9 := (hfs i (by omega)).2.1
  refine mu_ofWA G M_X11_period [.ref o, .int (mI (i : Nat)), .int (mI (n : Nat)), mu_no, mu_no] (by decide) rfl (Nat.le_of_ble_eq_true rfl) ?_
  intro X E
  have B : mu_B X G cX11_period RX11 5 (mu_rm M_X11_period) := E.1
  show mu_WA X G 5 _ _ 0 0 0 _ []
  refine mu_al_0 B dX11_period_0 ?_
  refine mu_il_1 B dX11_period_1 ?_
  refine mu_eV1 B dX11_period_2 mX11_139 ⟨⟨by decide, by decide⟩, by decide, by decide⟩ (Nat.le_of_ble_eq_true rfl) (by exact ko) (c_X11_fieldAt_y G hm hF hi) ?_
  refine mu_as_3 B dX11_period_5 (by decide) rfl ?_
  refine mu_al_3 B dX11_period_6 ?_
  refine mu_ifnull B dX11_period_7 ?_
  refine mu_il_2 B dX11_period_10 ?_
  refine mu_iconst (v := mI 1) B dX11_period_11 rfl ?_
  refine mu_icmp_lt (tgt := 21) B dX11_period_12 (by decide) (fun c12 => ?_) (fun c12 => ?_)
  · try rw [mI_lt ⟨by omega, by omega⟩ ⟨by omega, by omega⟩] at c12
    exfalso
    omega
  · try rw [mI_lt ⟨by omega, by omega⟩ ⟨by omega, by omega⟩] at c12
    refine mu_il_2 B dX11_period_15 ?_
    refine mu_bipush (v := mI 60) B dX11_period_16 (by decide) ?_
    refine mu_icmp_le (tgt := 23) B dX11_period_18 (by decide) (fun c18 => ?_) (fun c18 => ?_)
    · try rw [mI_le ⟨by omega, by omega⟩ ⟨by omega, by omega⟩] at c18
      refine mu_al_3 B dX11_period_23 ?_
      refine mu_il_2 B dX11_period_24 ?_
      refine mu_eV1 B dX11_period_25 mX11_174 ⟨⟨by decide, by decide⟩, by decide, by decide⟩ (Nat.le_of_ble_eq_true rfl) (by exact hfo.1) (c_X1_hasRoomFor G hfo hcm hbd (n := n) (by omega)) ?_
      refine mu_if_ne (tgt := 34) B dX11_period_28 (by decide) (fun c28 => ?_) (fun c28 => ?_)
      · have z28 := mu_bt c28
        rw [hx.done] at z28
        refine mu_al_0 B dX11_period_34 ?_
        refine mu_getR B dX11_period_35 fX11_63 rfl (by exact ko) (by exact r11) ?_
        refine mu_al_3 B dX11_period_38 ?_
        refine mu_cV1 B dX11_period_39 mX11_213 ⟨⟨by decide, by decide⟩, by decide, by decide⟩ (Nat.le_of_ble_eq_true rfl) (by exact kF.1) (c_X1_copyFrom G kF hfo hb hcm hx hrr (by omega)) (fun r39 w39 q39 => ?_)
        obtain ⟨rfl, hF0, hbT, hcT, hrT⟩ := q39
        refine mu_iconst (v := mI 1) B dX11_period_42 rfl ?_
        refine mu_is_4 B dX11_period_43 (by decide) rfl ?_
        have hdn := z28
        have hao := (hfs i (by omega)).2.1
        have LP : ∀ k (s : mu_W), k ≤ n → (mu_Fr (peS o) w s ∧ CSt s (o + 15) ∧ CFo s (o + 19) ∧ CFb s (o + 19) (sp_its (rs_nb (rs (fs_r (fs i)))) (rs_bo (rs (fs_r (fs i)))) (rs_st (rs (fs_r (fs i)))) k (fs_c (fs i))) ∧ (∃ L R U D M, CMx (sp_its (rs_nb (rs (fs_r (fs i)))) (rs_bo (rs (fs_r (fs i)))) (rs_st (rs (fs_r (fs i)))) k (fs_c (fs i))) L R U D M ∧ CFm s (o + 19) L R U D M) ∧ mu_rv s (o + 19) 2 = some (ra (fs_r (fs i))) ∧ ∀ q, 1 ≤ q → q ≤ k → ¬ sp_mvd (sp_its (rs_nb (rs (fs_r (fs i)))) (rs_bo (rs (fs_r (fs i)))) (rs_st (rs (fs_r (fs i)))) q (fs_c (fs i))) (fs_c (fs i))) → mu_WA X G 5 (mu_Q X G M_X11_period (per_post w o (rs (fs_r (fs i))) (fs_c (fs i)) n)) s 0 0 45 [.ref o, .int (mI (i : Nat)), .int (mI (n : Nat)), .ref (fa i), .int (mI ((k : Int) + 1))] [] := by
          refine mu_ind (n) (fun k (s : mu_W) => mu_WA X G 5 (mu_Q X G M_X11_period (per_post w o (rs (fs_r (fs i))) (fs_c (fs i)) n)) s 0 0 45 [.ref o, .int (mI (i : Nat)), .int (mI (n : Nat)), .ref (fa i), .int (mI ((k : Int) + 1))] []) (fun k (s : mu_W) => mu_Fr (peS o) w s ∧ CSt s (o + 15) ∧ CFo s (o + 19) ∧ CFb s (o + 19) (sp_its (rs_nb (rs (fs_r (fs i)))) (rs_bo (rs (fs_r (fs i)))) (rs_st (rs (fs_r (fs i)))) k (fs_c (fs i))) ∧ (∃ L R U D M, CMx (sp_its (rs_nb (rs (fs_r (fs i)))) (rs_bo (rs (fs_r (fs i)))) (rs_st (rs (fs_r (fs i)))) k (fs_c (fs i))) L R U D M ∧ CFm s (o + 19) L R U D M) ∧ mu_rv s (o + 19) 2 = some (ra (fs_r (fs i))) ∧ ∀ q, 1 ≤ q → q ≤ k → ¬ sp_mvd (sp_its (rs_nb (rs (fs_r (fs i)))) (rs_bo (rs (fs_r (fs i)))) (rs_st (rs (fs_r (fs i)))) q (fs_c (fs i))) (fs_c (fs i))) ?_
          intro k s hk ⟨hFs, hSt, hft, hbt, ⟨Lt, Rt, Ut, Dt, Mt, hxt, hct⟩, hr2, hno⟩ ih
          refine mu_il_4 B dX11_period_45 ?_
          refine mu_il_2 B dX11_period_47 ?_
          refine mu_icmp_gt (tgt := 114) B dX11_period_48 (by decide) (fun c48 => ?_) (fun c48 => ?_)
          · try rw [mI_lt ⟨by omega, by omega⟩ ⟨by omega, by omega⟩] at c48
            try rw [mI_lt ⟨by omega, by omega⟩ ⟨by omega, by omega⟩] at c48
            obtain rfl : n = k := by omega
            refine mu_iconst (v := mI 0) B dX11_period_114 rfl ?_
            refine mu_iret E rfl (by decide) (by decide) dX11_period_115 ?_
            exact ⟨fun h => absurd hdn h, fun _ => ⟨hFs.mono (fun e j hh => Or.inl hh), hSt, hft, Or.inr ⟨fun q q1 q2 => hno q q1 q2, rfl, hFs.iv (fun hh => by rcases hh with hh | hh | hh | hh <;> omega) rfl, hFs.iv (fun hh => by rcases hh with hh | hh | hh | hh <;> omega) rfl⟩⟩⟩
          · try rw [mI_lt ⟨by omega, by omega⟩ ⟨by omega, by omega⟩] at c48
            refine mu_al_0 B dX11_period_51 ?_
            refine mu_getR B dX11_period_52 fX11_58 rfl (hFs.kd ko) (hFs.rv (fun hh => by rcases hh with hh | hh | hh | hh <;> omega) r10) ?_
            refine mu_al_0 B dX11_period_55 ?_
            refine mu_getR B dX11_period_56 fX11_63 rfl (hFs.kd ko) (hFs.rv (fun hh => by rcases hh with hh | hh | hh | hh <;> omega) r11) ?_
            refine mu_cV1 B dX11_period_59 mX11_178 ⟨⟨by decide, by decide⟩, by decide, by decide⟩ (Nat.le_of_ble_eq_true rfl) (by exact hSt.kd) (c_X9_step G hft hbt hct hxt hSt (Or.inr (by omega)) hr2 (hq.1.fr hFs (fun j hh => by rcases hh with hh | hh | hh | hh <;> omega)) hq.2.1 hq.2.2.1 hq.2.2.2.1 hq.2.2.2.2) (fun r59 w59 q59 => ?_)
            obtain ⟨rfl, hF1, hS1, hb1, L1, R1, U1, D1, M1, hx1, hcm1⟩ := q59
            have hF2 : mu_Fr (peS o) s w59 := hF1.mono (fun e j hh => by
              rcases hh with hh | hh | hh | hh
              · exact Or.inl ⟨hh.1, Or.inr hh.2⟩
              · exact Or.inr (Or.inl hh)
              · exact Or.inr (Or.inr (Or.inl hh))
              · exact Or.inr (Or.inr (Or.inr ⟨by omega, by omega⟩)))
            have hF3 := hFs.trans hF2
            have hft2 := hft.fr hF2 (fun hh => by rcases hh with hh | hh | hh | hh <;> omega) (fun hh => by rcases hh with hh | hh | hh | hh <;> omega)
            have hfo2 := hfo.fr hF3 (fun hh => by rcases hh with hh | hh | hh | hh <;> omega) (fun hh => by rcases hh with hh | hh | hh | hh <;> omega)
            have hbo2 := hb.fr hF3 (fun j hh => by rcases hh with hh | hh | hh | hh <;> omega)
            have hco2 := hcm.fr hF3 (fun j j1 j2 hh => by rcases hh with hh | hh | hh | hh <;> omega)
            refine mu_al_0 B dX11_period_62 ?_
            refine mu_getR B dX11_period_63 fX11_63 rfl (hF3.kd ko) (hF3.rv (fun hh => by rcases hh with hh | hh | hh | hh <;> omega) r11) ?_
            refine mu_al_3 B dX11_period_66 ?_
            refine mu_cV1 B dX11_period_67 mX11_216 ⟨⟨by decide, by decide⟩, by decide, by decide⟩ (Nat.le_of_ble_eq_true rfl) (by exact hft2.1) (c_X1_isMovedFrom G hft2 hb1 hcm1 hx1 hfo2 hbo2 hco2 hx) (fun r67 w67 q67 => ?_)
            obtain ⟨hq67, hw67⟩ := q67
            subst hw67
            obtain ⟨v, rfl, hv⟩ : ∃ v, r67 = some (.int v) ∧ ((v = mI 1 ∧ sp_mv (sp_its (rs_nb (rs (fs_r (fs i)))) (rs_bo (rs (fs_r (fs i)))) (rs_st (rs (fs_r (fs i)))) (k + 1) (fs_c (fs i))) (fs_c (fs i)) (L1 - L) (U1 - U)) ∨ (v = mI 0 ∧ ¬ sp_mvd (sp_its (rs_nb (rs (fs_r (fs i)))) (rs_bo (rs (fs_r (fs i)))) (rs_st (rs (fs_r (fs i)))) (k + 1) (fs_c (fs i))) (fs_c (fs i)))) := by
              rcases hq67 with h | h
              · exact ⟨_, h.1, Or.inl ⟨rfl, h.2⟩⟩
              · exact ⟨_, h.1, Or.inr ⟨rfl, h.2⟩⟩
            show mu_WA X G 5 _ _ _ _ 70 _ [.int v]
            refine mu_if_eq (tgt := 108) B dX11_period_70 (by decide) (fun c70 => ?_) (fun c70 => ?_)
            · have hnt : ¬ sp_mvd (sp_its (rs_nb (rs (fs_r (fs i)))) (rs_bo (rs (fs_r (fs i)))) (rs_st (rs (fs_r (fs i)))) (k + 1) (fs_c (fs i))) (fs_c (fs i)) := by
                rcases hv with h | h
                · rw [h.1] at c70; exact absurd c70 (by decide)
                · exact h.2
              refine mu_inc_4 (c := mI 1) B dX11_period_108 rfl (by decide) rfl ?_
              try rw [mI_add]
              refine mu_goto (tgt := 45) B dX11_period_111 (by decide) ?_
              refine mu_to (ih _ (by omega) ⟨hF3, hS1, hft2, hb1, ⟨L1, R1, U1, D1, M1, hx1, hcm1⟩, hF1.rv (fun hh => by rcases hh with hh | hh | hh | hh <;> omega) hr2, fun q q1 q2 => ?_⟩) rfl (by rw [show ((k + 1 : Nat) : Int) + 1 = (k : Int) + 1 + 1 by omega])
              by_cases e9 : q = k + 1
              · rw [e9]; exact hnt
              · exact hno q q1 (by omega)
            · have hyt : sp_mv (sp_its (rs_nb (rs (fs_r (fs i)))) (rs_bo (rs (fs_r (fs i)))) (rs_st (rs (fs_r (fs i)))) (k + 1) (fs_c (fs i))) (fs_c (fs i)) (L1 - L) (U1 - U) := by
                rcases hv with h | h
                · exact h.2
                · rw [h.1] at c70; exact absurd rfl c70
              refine mu_al_0 B dX11_period_73 ?_
              refine mu_al_0 B dX11_period_74 ?_
              refine mu_getR B dX11_period_75 fX11_63 rfl (hF3.kd ko) (hF3.rv (fun hh => by rcases hh with hh | hh | hh | hh <;> omega) r11) ?_
              refine mu_getIN B dX11_period_78 fX11_188 rfl (by exact hft2.1) ?_
              rw [hcm1.2.1]
              refine mu_al_3 B dX11_period_81 ?_
              refine mu_getIN B dX11_period_82 fX11_188 rfl (by exact hfo2.1) ?_
              rw [hco2.2.1]
              refine mu_isub B dX11_period_85 ?_
              try rw [mI_sub]
              refine mu_putI B dX11_period_86 fX11_220 fwX11_16 rfl (hF3.kd ko) ?_
              refine mu_al_0 B dX11_period_89 ?_
              refine mu_al_0 B dX11_period_90 ?_
              refine mu_getR B dX11_period_91 fX11_63 rfl (hF3.kd ko) (hF3.rv (fun hh => by rcases hh with hh | hh | hh | hh <;> omega) r11) ?_
              refine mu_getIN B dX11_period_94 fX11_194 rfl (by exact hft2.1) ?_
              rw [mu_iv_oth _ _ (by omega), hcm1.2.2.1]
              refine mu_al_3 B dX11_period_97 ?_
              refine mu_getIN B dX11_period_98 fX11_194 rfl (by exact hfo2.1) ?_
              rw [mu_iv_oth _ _ (by omega), hco2.2.2.1]
              refine mu_isub B dX11_period_101 ?_
              try rw [mI_sub]
              refine mu_putI B dX11_period_102 fX11_223 fwX11_17 rfl (hF3.kd ko) ?_
              refine mu_il_4 B dX11_period_105 ?_
              refine mu_iret E rfl (by decide) (by decide) dX11_period_107 ?_
              have hG : mu_Fi (fun e j => e = o ∧ (j = 16 ∨ j = 17)) w67 (mu_si (mu_si w67 o 16 (mI (L1 - L))) o 17 (mI (U1 - U))) := ((mu_Fi.refl _).si ⟨rfl, Or.inl rfl⟩).si ⟨rfl, Or.inr rfl⟩
              refine ⟨fun h => absurd hdn h, fun _ => ⟨(hF3.mono (fun e j hh => Or.inl hh)).trans (hG.fr.mono (fun e j hh => Or.inr hh)), hS1.sm (fun q l1 l2 => hG.smc (fun j hh => by have := hh.1; omega)), hft2.fi hG, Or.inl ⟨k + 1, by omega, by omega, fun q q1 q2 => hno q q1 (by omega), L1 - L, U1 - U, hyt, ?_, by rw [mu_iv_oth _ _ (by omega), mu_iv_same], mu_iv_same _ _ _ _⟩⟩⟩
              rw [show ((k + 1 : Nat) : Int) = (k : Int) + 1 by omega]
        refine mu_to (LP 0 w39 (Nat.zero_le _) ⟨hF0.mono (fun e j hh => ?_), kS.sm (fun q l1 l2 => hF0.smc (fun j hh => by rcases hh with hh | hh <;> omega)), kF.fr hF0 (fun hh => by rcases hh with hh | hh <;> omega) (fun hh => by rcases hh with hh | hh <;> omega), hbT, ⟨L, R, U, D, M, hx, hcT⟩, hrT, fun q q1 q2 => by omega⟩) rfl (by rw [show ((0 : Nat) : Int) + 1 = 1 by omega])
        rcases hh with hh | hh
        · exact Or.inl hh
        · exact Or.inr (Or.inl hh)
      · have z28 := mu_bf c28
        rw [hx.done] at z28
        refine mu_bipush (v := mI (-2)) B dX11_period_31 (by decide) ?_
        refine mu_iret E rfl (by decide) (by decide) dX11_period_33 ?_
        exact ⟨fun _ => ⟨rfl, rfl⟩, fun h => absurd h z28⟩
    · try rw [mI_le ⟨by omega, by omega⟩ ⟨by omega, by omega⟩] at c18
      exfalso
      omega
