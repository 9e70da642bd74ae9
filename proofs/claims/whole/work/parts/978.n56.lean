/-! ===== the class's balance: an equation more ===== -/
def dmS (a : Nat) : Nat → Nat → Prop := fun q _ => a + 2 ≤ q ∧ q ≤ a + 6
theorem lr_dm {a q fr s : Nat} {w w' : mu_W} (h : mu_Fi (lr_S q fr s) w w') (hq : a + 2 ≤ q ∧ q ≤ a + 6) : mu_Fi (dmS a) w w' := h.mono (fun x j hh => by rw [hh.1]; exact hq)
theorem EQI.b62 {r : mu_RS} {K : Nat} {row : Nat → Nat → Int} (h : EQI r K row) {p c : Nat} (hp : p < 4) (hc : c < 4) : (row p c).natAbs ≤ 8388608 := Nat.le_trans (h.2.2.2.1 p c hp hc) (bB_all p hp).2
theorem mu_Fi.lc {S : Nat → Nat → Prop} {w w' : mu_W} (h : mu_Fi S w w') {a a0 n : Nat} (hS : ∀ j, S a j) : mu_Fi S w (mu_lc w' a a0 n) := ⟨h.1, h.2.1, h.2.2.1, fun b j hn => by
  have := h.2.2.2 b j hn
  refine ⟨this.1, ?_⟩
  rw [mu_lg_lc, if_neg (fun q : b = a ∧ j < n => hn (by rw [q.1]; exact hS j))]
  exact this.2⟩

set_option maxHeartbeats 4000000 in
set_option maxRecDepth 100000 in
theorem c_X0_demand (G : mu_G) {w : mu_W} {a : Nat} (ho : CBo w a) {ru : mu_RS} (hS : 2 ≤ rs_S ru ∧ rs_S ru ≤ 4) {k : Nat} {row : Nat → Nat → Int} (hQ : EQI ru k row) (hq : EQw w a row) (hr : LR w (a + 6) 0 4 (be_e ru k)) : mu_Ct G M_X0_demand [.ref a, .int (mI ((rs_S ru : Nat) : Int))] w (fun r9 w' => r9 = none ∧ mu_Fi (dmS a) w w' ∧ ∃ row', EQI ru (k + 1) row' ∧ EQw w' a row') := by
  obtain ⟨ka, r0, k1, hrw, r1, k6⟩ := id ho
  refine mu_ofWA G M_X0_demand [.ref a, .int (mI ((rs_S ru : Nat) : Int)), mu_no] (by decide) rfl (Nat.le_of_ble_eq_true rfl) ?_
  intro X E
  have B : mu_B X G cX0_demand RX0 3 (mu_rm M_X0_demand) := E.1
  have LD : ∀ d (s : mu_W), d ≤ rs_S ru → (mu_Fi (dmS a) w s ∧ ∃ e, EI row (be_e ru k) (rs_S ru - d) e ∧ LR s (a + 6) 0 4 e ∧ EQw s a row) → mu_WA X G 3 (mu_Q X G M_X0_demand (fun r9 w' => r9 = none ∧ mu_Fi (dmS a) w w' ∧ ∃ row', EQI ru (k + 1) row' ∧ EQw w' a row')) s 0 0 4 [.ref a, .int (mI ((rs_S ru : Nat) : Int)), .int (mI ((rs_S ru : Int) - 1 - (d : Int)))] [] := by
    refine mu_ind (rs_S ru) (fun d (s : mu_W) => mu_WA X G 3 (mu_Q X G M_X0_demand (fun r9 w' => r9 = none ∧ mu_Fi (dmS a) w w' ∧ ∃ row', EQI ru (k + 1) row' ∧ EQw w' a row')) s 0 0 4 [.ref a, .int (mI ((rs_S ru : Nat) : Int)), .int (mI ((rs_S ru : Int) - 1 - (d : Int)))] []) (fun d (s : mu_W) => mu_Fi (dmS a) w s ∧ ∃ e, EI row (be_e ru k) (rs_S ru - d) e ∧ LR s (a + 6) 0 4 e ∧ EQw s a row) ?_
    intro d s hd ⟨hFs, e, hE, hes, hqs⟩ ih
    refine mu_il_2 B dX0_demand_4 ?_
    refine mu_if_lt (tgt := 74) B dX0_demand_5 (by decide) (fun c5 => ?_) (fun c5 => ?_)
    · try rw [mI_lt0 ⟨by omega, by omega⟩] at c5
      try rw [mI_lt0 ⟨by omega, by omega⟩] at c5
      obtain rfl : rs_S ru = d := by omega
      rw [Nat.sub_self] at hE
      refine mu_vret E rfl (by decide) (by decide) dX0_demand_74 ?_
      exact ⟨rfl, hFs, row, hQ.skip hS hE, hqs⟩
    · try rw [mI_lt0 ⟨by omega, by omega⟩] at c5
      obtain ⟨p, hpd⟩ : ∃ p : Nat, rs_S ru - d = p + 1 := ⟨rs_S ru - d - 1, by omega⟩
      have hp4 : p < 4 := by omega
      rw [hpd] at hE
      rw [show (rs_S ru : Int) - 1 - (d : Int) = ((p : Nat) : Int) by omega]
      have heb : (e p).natAbs ≤ 8388608 := Nat.le_trans (hE.2.2.1 p hp4) (by rw [Nat.add_sub_cancel]; exact (bB_all p hp4).2)
      refine mu_al_0 B dX0_demand_8 ?_
      refine mu_getR B dX0_demand_9 fX0_14 rfl (hFs.kd ka) (hFs.rv r1) ?_
      refine mu_il_2 B dX0_demand_12 ?_
      refine mu_lald B dX0_demand_13 (hFs.kd k6) (mI_inN (by omega) (by decide)) ?_
      rw [mI_clampN (by omega), hes.at hp4]
      refine mu_lconst (v := mL 0) B dX0_demand_14 rfl ?_
      refine mu_lcmp B dX0_demand_15 ?_
      refine mu_if_ne (tgt := 22) B dX0_demand_16 (by decide) (fun c16 => ?_) (fun c16 => ?_)
      · rw [lg_cmp_eq, mL_eq ⟨by omega, by omega⟩ ⟨by omega, by omega⟩] at c16
        refine mu_al_0 B dX0_demand_22 ?_
        refine mu_il_2 B dX0_demand_23 ?_
        refine mu_eV1 B dX0_demand_24 mX0_35 ⟨⟨by decide, by decide⟩, by decide, by decide⟩ (Nat.le_of_ble_eq_true rfl) (hFs.kd ka) (c_X0_isHeld G (ho.fi hFs) hqs hp4 (by have := hQ.b62 hp4 hp4; omega)) ?_
        refine mu_if_ne (tgt := 47) B dX0_demand_27 (by decide) (fun c27 => ?_) (fun c27 => ?_)
        · have hheld : row p p ≠ 0 := fun q9 => by rw [if_pos q9] at c27; exact c27 rfl
          have hp1 : 1 ≤ p := by
            by_cases q9 : p = 0
            · exfalso; subst q9; exact c16 hE.zero
            · omega
          refine mu_al_0 B dX0_demand_47 ?_
          refine mu_getR B dX0_demand_48 fX0_14 rfl (hFs.kd ka) (hFs.rv r1) ?_
          refine mu_al_0 B dX0_demand_51 ?_
          refine mu_getR B dX0_demand_52 fX0_11 rfl (hFs.kd ka) (hFs.rv r0) ?_
          refine mu_il_2 B dX0_demand_55 ?_
          refine mu_aald B dX0_demand_56 (hFs.kd k1) (by simp) (mI_inN (by omega) (by decide)) (by rw [mI_clampN (by omega)]; exact hFs.rv (hrw p hp4).1) ?_
          refine mu_il_2 B dX0_demand_57 ?_
          refine mu_cS3 B dX0_demand_58 mX0_49 ⟨⟨by decide, by decide⟩, by decide, by decide⟩ (Nat.le_of_ble_eq_true rfl) (c_X0_cancel G (hFs.kd k6) (hFs.kd (hrw p hp4).2) (by omega) hes (hqs p hp4) hp4) (fun r58 w58 q58 => ?_)
          obtain ⟨rfl, hF0, hL0⟩ := q58
          refine mu_al_0 B dX0_demand_61 ?_
          refine mu_getR B dX0_demand_62 fX0_14 rfl (hF0.kd (hFs.kd ka)) (hF0.rv (hFs.rv r1)) ?_
          refine mu_cS1 B dX0_demand_65 mX0_53 ⟨⟨by decide, by decide⟩, by decide, by decide⟩ (Nat.le_of_ble_eq_true rfl) (c_X0_shorten G (hF0.kd (hFs.kd k6)) hL0 (cnf_bd hp4 (A := bB p) (B := bB p) (fun c hc => by have := hE.2.2.1 c hc; rw [Nat.add_sub_cancel] at this; exact this) (fun c hc => hQ.2.2.2.1 p c hp4 hc) (by have := (bB_st p hp4 hp1).1; have := (bB_all (p - 1) (by omega)).2; omega))) (fun r65 w65 q65 => ?_)
          obtain ⟨rfl, hF2, hL2⟩ := q65
          have hF1 := hF0.trans hF2
          have hL1 := hL2
          rw [cnf_wo c16] at hL1
          refine mu_inc_2 (c := mI (-1)) B dX0_demand_68 rfl (by decide) rfl ?_
          try rw [mI_add]
          refine mu_goto (tgt := 4) B dX0_demand_71 (by decide) ?_
          first
            | (refine mu_to (ih _ (by omega) ⟨hFs.trans (lr_dm hF1 ⟨by omega, by omega⟩), wo 4 e (row p) p, ?_, hL1, hqs.fi hF1 (fun q j hq hh => by have := hh.1; omega)⟩) rfl (by rw [show (rs_S ru : Int) - 1 - ((d + 1 : Nat) : Int) = ((p : Nat) : Int) + -1 by omega])
               rw [show rs_S ru - (d + 1) = p by omega]
               exact hE.cancel hQ hp4 hp1 hheld)
            | (refine mu_to (ih _ (by omega) ⟨hFs, e, ?_, hes, hqs⟩) rfl (by rw [show (rs_S ru : Int) - 1 - ((d + 1 : Nat) : Int) = ((p : Nat) : Int) + -1 by omega])
               rw [show rs_S ru - (d + 1) = p by omega]
               exact hE.skip hp4 (by omega))
        · have hheld : row p p = 0 := Classical.byContradiction (fun q9 => by rw [if_neg q9] at c27; exact absurd c27 (by decide))
          refine mu_al_0 B dX0_demand_30 ?_
          refine mu_getR B dX0_demand_31 fX0_14 rfl (hFs.kd ka) (hFs.rv r1) ?_
          refine mu_iconst (v := mI 0) B dX0_demand_34 rfl ?_
          refine mu_al_0 B dX0_demand_35 ?_
          refine mu_getR B dX0_demand_36 fX0_11 rfl (hFs.kd ka) (hFs.rv r0) ?_
          refine mu_il_2 B dX0_demand_39 ?_
          refine mu_aald B dX0_demand_40 (hFs.kd k1) (by simp) (mI_inN (by omega) (by decide)) (by rw [mI_clampN (by omega)]; exact hFs.rv (hrw p hp4).1) ?_
          refine mu_iconst (v := mI 0) B dX0_demand_41 rfl ?_
          refine mu_iconst (v := mI 4) B dX0_demand_42 rfl ?_
          refine mu_acL (n := 4) B dX0_demand_43 mlX0_43 ⟨by decide, by decide⟩ (Nat.le_of_ble_eq_true rfl) (hFs.kd k6) (hFs.kd (hrw p hp4).2) (by decide) (by decide) (by decide) ?_
          refine mu_vret E rfl (by decide) (by decide) dX0_demand_46 ?_
          refine ⟨rfl, hFs.lc (fun j => ⟨by omega, by omega⟩), (fun q => if q = p then e else row q), hQ.add hS hE (by omega) hheld c16 (fun q hq => if_neg hq) (if_pos rfl), fun q hq c hc => ?_⟩
          show mu_lg (mu_lc s (a + 2 + p) (a + 6) 4) (a + 2 + q) (0 + c) = mL ((if q = p then e else row q) c)
          rw [mu_lg_lc, Nat.zero_add]
          by_cases e9 : q = p
          · rw [if_pos ⟨by omega, hc⟩, if_pos e9]; exact hes.at hc
          · rw [if_neg (by omega), if_neg e9]; exact (hqs q hq).at hc
      · rw [lg_cmp_eq, mL_eq ⟨by omega, by omega⟩ ⟨by omega, by omega⟩] at c16
        refine mu_goto (tgt := 68) B dX0_demand_19 (by decide) ?_
        refine mu_inc_2 (c := mI (-1)) B dX0_demand_68 rfl (by decide) rfl ?_
        try rw [mI_add]
        refine mu_goto (tgt := 4) B dX0_demand_71 (by decide) ?_
        first
          | (refine mu_to (ih _ (by omega) ⟨hFs.trans (lr_dm hF1 ⟨by omega, by omega⟩), wo 4 e (row p) p, ?_, hL1, hqs.fi hF1 (fun q j hq hh => by have := hh.1; omega)⟩) rfl (by rw [show (rs_S ru : Int) - 1 - ((d + 1 : Nat) : Int) = ((p : Nat) : Int) + -1 by omega])
             rw [show rs_S ru - (d + 1) = p by omega]
             exact hE.cancel hQ hp4 hp1 hheld)
          | (refine mu_to (ih _ (by omega) ⟨hFs, e, ?_, hes, hqs⟩) rfl (by rw [show (rs_S ru : Int) - 1 - ((d + 1 : Nat) : Int) = ((p : Nat) : Int) + -1 by omega])
             rw [show rs_S ru - (d + 1) = p by omega]
             exact hE.skip hp4 (by omega))
  show mu_WA X G 3 _ _ 0 0 0 _ []
  refine mu_il_1 B dX0_demand_0 ?_
  refine mu_iconst (v := mI 1) B dX0_demand_1 rfl ?_
  refine mu_isub B dX0_demand_2 ?_
  try rw [mI_sub]
  refine mu_is_2 B dX0_demand_3 (by decide) rfl ?_
  exact mu_to (LD 0 w (Nat.zero_le _) ⟨mu_Fi.refl _, be_e ru k, EI.start hS row k, hr, hq⟩) rfl (by rw [show (rs_S ru : Int) - 1 - ((0 : Nat) : Int) = (rs_S ru : Int) - 1 by omega])
