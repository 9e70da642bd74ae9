/-! ===== the reference: period ===== -/
def pr_S (m : Nat) : Nat → Nat → Prop := fun q j => (q = m ∧ ((19 ≤ j ∧ j ≤ 23) ∨ j = 36 ∨ j = 37)) ∨ q = m + 12 ∨ q = m + 13
def sp_itf (rs : Nat → mu_RS) (f : mu_FS) (n : Nat) : Nat → Nat → Nat := sp_its (rs_nb (rs (fs_r f))) (rs_bo (rs (fs_r f))) (rs_st (rs (fs_r f))) n (fs_c f)
def pr_post (w : mu_W) (m : Nat) (rs : Nat → mu_RS) (f : mu_FS) (n : Nat) (r : Option Value) (w' : mu_W) : Prop := mu_Fi (pr_S m) w w' ∧ (¬ sp_done (fs_c f) n → r = some (.int (mI (-2))) ∧ mu_iv w' m 36 = mu_iv w m 36 ∧ mu_iv w' m 37 = mu_iv w m 37) ∧
  (sp_done (fs_c f) n → (∃ p : Nat, 1 ≤ p ∧ p ≤ n ∧ (∀ q, 1 ≤ q → q < p → ¬ sp_mvd (sp_itf rs f q) (fs_c f)) ∧ ∃ dx dy, sp_mv (sp_itf rs f p) (fs_c f) dx dy ∧ r = some (.int (mI p)) ∧ mu_iv w' m 36 = mI dx ∧ mu_iv w' m 37 = mI dy) ∨
    ((∀ q, 1 ≤ q → q ≤ n → ¬ sp_mvd (sp_itf rs f q) (fs_c f)) ∧ r = some (.int (mI 0)) ∧ mu_iv w' m 36 = mu_iv w m 36 ∧ mu_iv w' m 37 = mu_iv w m 37))
def pr_all (w : mu_W) (m : Nat) (rs : Nat → mu_RS) (nf : Nat) (fs : Nat → mu_FS) (z k : Int) (r : Option Value) (w' : mu_W) : Prop := if (0 ≤ z ∧ z < nf) ∧ 1 ≤ k ∧ k ≤ 60 then pr_post w m rs (fs z.toNat) k.toNat r w' else r = some (.int (mI (-1))) ∧ w' = w
theorem m01 {v : Nat} (h : v ≤ 1) : (mI (v : Int)).toInt8.toInt32 = mI v := by
  rcases (show v = 0 ∨ v = 1 by omega) with rfl | rfl <;> decide

set_option maxHeartbeats 4000000 in
set_option maxRecDepth 100000 in
theorem c_X12_period (G : mu_G) {w : mu_W} {m : Nat} (hm : mo_ok w m) {nr : Nat} {rs : Nat → mu_RS} (hru : MRu w m nr rs) {nf : Nat} {fs : Nat → mu_FS} (hfi : MFi w m nr rs nf fs) {z k : Int} (hz : mi_ok z) (hk : mi_ok k) : mu_Ct G M_X12_period [.ref m, .int (mI z), .int (mI k)] w (fun r w' => pr_all w m rs nf fs z k r w') := by
  have hk0 := hm.1
  have hnf := hfi.1
  have hnr := hru.1
  obtain ⟨hz1, hz2⟩ := id hz
  obtain ⟨hk1, hk2⟩ := hk
  refine mu_ofWA G M_X12_period [.ref m, .int (mI z), .int (mI k), mu_no, mu_no] (by decide) rfl (Nat.le_of_ble_eq_true rfl) ?_
  intro X E
  have B : mu_B X G cX12_period RX12 5 (mu_rm M_X12_period) := E.1
  have LP : ∀ (f n : Nat), f < nf → 1 ≤ n → n ≤ 60 → sp_done (fs_c (fs f)) n → ∀ p (s : mu_W), p ≤ n → (mu_Fi (pr_S m) w s ∧ Bd s (m + 13) 65536 0 256 256 (sp_itf rs (fs f) p) ∧ (mu_iv s m 36 = mu_iv w m 36 ∧ mu_iv s m 37 = mu_iv w m 37) ∧ ∀ q, 1 ≤ q → q ≤ p → ¬ sp_mvd (sp_itf rs (fs f) q) (fs_c (fs f))) → mu_WA X G 5 (mu_Q X G M_X12_period (pr_all w m rs nf fs (f : Int) (n : Int))) s 0 0 81 [.ref m, .int (mI f), .int (mI n), .int (mI ((65536 * f : Nat) : Int)), .int (mI ((p + 1 : Nat) : Int))] [] := by
    intro f n hf hn1 hn2 hdn
    have hBf := hfi.bd hm hf
    obtain ⟨g1, g2, g3, g4⟩ := hfi.2.2 f hf
    have hr8 := g1.1
    refine mu_ind n (fun p s => mu_WA X G 5 (mu_Q X G M_X12_period (pr_all w m rs nf fs (f : Int) (n : Int))) s 0 0 81 [.ref m, .int (mI f), .int (mI n), .int (mI ((65536 * f : Nat) : Int)), .int (mI ((p + 1 : Nat) : Int))] []) (fun p s => mu_Fi (pr_S m) w s ∧ Bd s (m + 13) 65536 0 256 256 (sp_itf rs (fs f) p) ∧ (mu_iv s m 36 = mu_iv w m 36 ∧ mu_iv s m 37 = mu_iv w m 37) ∧ ∀ q, 1 ≤ q → q ≤ p → ¬ sp_mvd (sp_itf rs (fs f) q) (fs_c (fs f))) ?_
    rintro p w1 hp ⟨hF, hBc, ⟨hs36, hs37⟩, hnone⟩ ih
    have hm1 := hm.fi hF
    have hk1 := hm1.1
    obtain ⟨r15, k15⟩ := mo_15 hm1
    obtain ⟨r18, k18⟩ := mo_18 hm1
    have hro : mu_iv w1 (m + 10) f = mI (fs_r (fs f)) := hF.iv (by unfold pr_S; omega) g2
    have hru1 : MRu w1 m nr rs := hru.eqs (hF.2.2.2 m 3 (by unfold pr_S; omega)).1 (fun q r h5 h6 h7 => (hF.2.2.2 q r (by unfold pr_S; omega)).1) (fun j hj => (hF.2.2.2 _ j (by unfold pr_S; omega)).1) (fun j hj => (hF.2.2.2 _ j (by unfold pr_S; omega)).1)
    refine mu_il_4 B dX12_period_81 ?_
    refine mu_il_2 B dX12_period_83 ?_
    refine mu_icmp_gt (tgt := 122) B dX12_period_84 (by decide) (fun c84 => ?_) (fun c84 => ?_)
    · try rw [mI_lt ⟨by omega, by omega⟩ ⟨by omega, by omega⟩] at c84
      refine mu_iconst (v := mI 0) B dX12_period_122 rfl ?_
      refine mu_iret E rfl (by decide) (by decide) dX12_period_123 ?_
      unfold pr_all
      rw [if_pos ⟨⟨by omega, by omega⟩, by omega, by omega⟩]
      exact ⟨hF, fun hh => absurd hdn hh, fun _ => Or.inr ⟨fun q h1 h2 => hnone q h1 (by have h3 : q ≤ n := h2; omega), rfl, hs36, hs37⟩⟩
    · try rw [mI_lt ⟨by omega, by omega⟩ ⟨by omega, by omega⟩] at c84
      refine mu_al_0 B dX12_period_87 ?_
      refine mu_al_0 B dX12_period_88 ?_
      refine mu_getR B dX12_period_89 fX12_39 rfl (by assumption) (by assumption) ?_
      refine mu_il_1 B dX12_period_92 ?_
      refine mu_iald B dX12_period_93 (by assumption) (mI_inN (by omega) (by decide)) ?_
      rw [mI_clampN (by omega), hro]
      refine mu_al_0 B dX12_period_94 ?_
      refine mu_getR B dX12_period_95 fX12_49 rfl (by assumption) (by assumption) ?_
      refine mu_iconst (v := mI 0) B dX12_period_98 rfl ?_
      refine mu_cV3 B dX12_period_99 mX12_215 ⟨⟨by decide, by decide⟩, by decide, by decide⟩ (Nat.le_of_ble_eq_true rfl) (by assumption) (c_X12_step G hm1 hru1 g1.1 g1.2.1 g1.2.2.1 (fr := 0) hBc (by omega) (by omega)) (fun r99 w99 q99 => ?_)
      obtain ⟨rfl, hBc2, hF2⟩ := q99
      have hF3 : mu_Fi (pr_S m) w w99 := hF.trans (hF2.mono (fun q j h => by unfold st_S at h; unfold pr_S; omega))
      have hm3 := hm.fi hF3
      have hk3 := hm3.1
      have hBd3 := hBf.fi hF3 (fun j hj => by unfold pr_S at hj; omega)
      have s36 : mu_iv w99 m 36 = mu_iv w m 36 := (hF2.2.2.2 m 36 (by unfold st_S; omega)).1.trans hs36
      have s37 : mu_iv w99 m 37 = mu_iv w m 37 := (hF2.2.2.2 m 37 (by unfold st_S; omega)).1.trans hs37
      refine mu_al_0 B dX12_period_102 ?_
      refine mu_il_3 B dX12_period_103 ?_
      refine mu_cV1 B dX12_period_104 mX12_264 ⟨⟨by decide, by decide⟩, by decide, by decide⟩ (Nat.le_of_ble_eq_true rfl) (by assumption) (c_X12_isMoved G hm3 (by omega) hBc2 hBd3) (fun r104 w104 q104 => ?_)
      obtain ⟨hF4, q104⟩ := q104
      have hF5 : mu_Fi (pr_S m) w w104 := hF3.trans (hF4.mono (fun q j h => by unfold mv_S at h; unfold pr_S; omega))
      obtain ⟨v9, rfl, hv9⟩ : ∃ v, r104 = some (.int v) ∧ ((v = mI 1 ∧ ∃ dx dy, sp_mv (sp_itf rs (fs f) (p + 1)) (fs_c (fs f)) dx dy ∧ mu_iv w104 m 36 = mI dx ∧ mu_iv w104 m 37 = mI dy) ∨ (v = mI 0 ∧ ¬ sp_mvd (sp_itf rs (fs f) (p + 1)) (fs_c (fs f)) ∧ mu_iv w104 m 36 = mu_iv w99 m 36 ∧ mu_iv w104 m 37 = mu_iv w99 m 37)) := by
        rcases q104 with ⟨dx, dy, t1, t2, t3, t4⟩ | ⟨t1, t2, t3, t4⟩
        · exact ⟨_, t2, Or.inl ⟨rfl, dx, dy, t1, t3, t4⟩⟩
        · exact ⟨_, t2, Or.inr ⟨rfl, t1, t3, t4⟩⟩
      show mu_WA X G 5 _ w104 _ _ _ _ [.int v9]
      refine mu_if_ne (tgt := 113) B dX12_period_107 (by decide) (fun c107 => ?_) (fun c107 => ?_)
      · have hyes : ∃ dx dy, sp_mv (sp_itf rs (fs f) (p + 1)) (fs_c (fs f)) dx dy ∧ mu_iv w104 m 36 = mI dx ∧ mu_iv w104 m 37 = mI dy := by
          rcases hv9 with ⟨-, t⟩ | ⟨t, -⟩
          · exact t
          · exact absurd t c107
        refine mu_il_4 B dX12_period_113 ?_
        refine mu_iret E rfl (by decide) (by decide) dX12_period_115 ?_
        obtain ⟨dx, dy, t1, t2, t3⟩ := hyes
        unfold pr_all
        rw [if_pos ⟨⟨by omega, by omega⟩, by omega, by omega⟩]
        exact ⟨hF5, fun hh => absurd hdn hh, fun _ => Or.inl ⟨p + 1, by omega, by show p + 1 ≤ n; omega, fun q h1 h2 => hnone q h1 (by omega), dx, dy, t1, rfl, t2, t3⟩⟩
      · have hno : ¬ sp_mvd (sp_itf rs (fs f) (p + 1)) (fs_c (fs f)) ∧ mu_iv w104 m 36 = mu_iv w99 m 36 ∧ mu_iv w104 m 37 = mu_iv w99 m 37 := by
          rcases hv9 with ⟨t, -⟩ | ⟨-, t⟩
          · rw [t] at c107; exact absurd c107 (by decide)
          · exact t
        refine mu_goto (tgt := 116) B dX12_period_110 (by decide) ?_
        refine mu_inc_4 (c := mI 1) B dX12_period_116 rfl (by decide) rfl ?_
        try rw [mI_add]
        refine mu_goto (tgt := 81) B dX12_period_119 (by decide) ?_
        refine mu_to (ih w104 (by omega) ⟨hF5, hBc2.fi hF4 (fun j hj => by unfold mv_S at hj; omega), ⟨hno.2.1.trans s36, hno.2.2.trans s37⟩, fun q h1 h2 => ?_⟩) rfl (by rw [show ((p + 1 + 1 : Nat) : Int) = ((p + 1 : Nat) : Int) + 1 by omega])
        by_cases e9 : q = p + 1
        · rw [e9]; exact hno.1
        · exact hnone q h1 (by omega)
  have LC : ∀ (f n : Nat), f < nf → 1 ≤ n → n ≤ 60 → sp_done (fs_c (fs f)) n → ∀ q (s : mu_W), q ≤ 65536 → (mu_Fi (pr_S m) w s ∧ (mu_iv s m 36 = mu_iv w m 36 ∧ mu_iv s m 37 = mu_iv w m 37) ∧ ∀ j, j < q → mu_iv s (m + 13) j = mu_iv w (m + 9) (65536 * f + j)) → mu_WA X G 5 (mu_Q X G M_X12_period (pr_all w m rs nf fs (f : Int) (n : Int))) s 0 0 49 [.ref m, .int (mI f), .int (mI n), .int (mI ((65536 * f : Nat) : Int)), .int (mI q)] [] := by
    intro f n hf hn1 hn2 hdn
    obtain ⟨g1, g2, g3, g4⟩ := hfi.2.2 f hf
    refine mu_ind 65536 (fun q s => mu_WA X G 5 (mu_Q X G M_X12_period (pr_all w m rs nf fs (f : Int) (n : Int))) s 0 0 49 [.ref m, .int (mI f), .int (mI n), .int (mI ((65536 * f : Nat) : Int)), .int (mI q)] []) (fun q s => mu_Fi (pr_S m) w s ∧ (mu_iv s m 36 = mu_iv w m 36 ∧ mu_iv s m 37 = mu_iv w m 37) ∧ ∀ j, j < q → mu_iv s (m + 13) j = mu_iv w (m + 9) (65536 * f + j)) ?_
    rintro q w1 hq ⟨hF, ⟨hs36, hs37⟩, hcp⟩ ih
    have hm1 := hm.fi hF
    have hk1 := hm1.1
    obtain ⟨r14, k14⟩ := mo_14 hm1
    obtain ⟨r18, k18⟩ := mo_18 hm1
    refine mu_il_4 B dX12_period_49 ?_
    refine mu_ldc B kX12_45 dX12_period_51 ?_
    refine mu_icmp_ge (tgt := 78) B dX12_period_53 (by decide) (fun c53 => ?_) (fun c53 => ?_)
    · try rw [mI_le ⟨by omega, by omega⟩ ⟨by omega, by omega⟩] at c53
      obtain rfl : q = 65536 := by omega
      refine mu_iconst (v := mI 1) B dX12_period_78 rfl ?_
      refine mu_is_4 B dX12_period_79 (by decide) rfl ?_
      refine LP f n hf hn1 hn2 hdn 0 w1 (Nat.zero_le _) ⟨hF, ⟨k18, by decide, by decide, fun i j hi hj => ?_, g1.2.2.2⟩, ⟨hs36, hs37⟩, fun q h1 h2 => absurd h1 (by omega)⟩
      rw [hcp _ (by omega), show 65536 * f + (0 + 256 * j + i) = 65536 * f + 256 * j + i by omega]
      exact g4 i j hi hj
    · try rw [mI_le ⟨by omega, by omega⟩ ⟨by omega, by omega⟩] at c53
      refine mu_al_0 B dX12_period_56 ?_
      refine mu_getR B dX12_period_57 fX12_49 rfl (by assumption) (by assumption) ?_
      refine mu_il_4 B dX12_period_60 ?_
      refine mu_al_0 B dX12_period_62 ?_
      refine mu_getR B dX12_period_63 fX12_36 rfl (by assumption) (by assumption) ?_
      refine mu_il_3 B dX12_period_66 ?_
      refine mu_il_4 B dX12_period_67 ?_
      refine mu_iadd B dX12_period_69 ?_
      try rw [mI_add]
      rw [show ((65536 * f : Nat) : Int) + (q : Int) = ((65536 * f + q : Nat) : Int) by omega]
      refine mu_bald B dX12_period_70 (by assumption) (mI_inN (by omega) (by decide)) ?_
      rw [mI_clampN (by omega)]
      rw [show mu_iv w1 (m + 9) (65536 * f + q) = mu_iv w (m + 9) (65536 * f + q) from (hF.2.2.2 _ _ (by unfold pr_S; omega)).1]
      refine mu_bast B dX12_period_71 (by assumption) (mI_inN (by omega) (by decide)) ?_
      rw [mI_clampN (by omega)]
      rw [show (mu_iv w (m + 9) (65536 * f + q)).toInt8.toInt32 = mu_iv w (m + 9) (65536 * f + q) from by have h9 := g4 (q % 256) (q / 256) (by omega) (by omega); rw [show 65536 * f + 256 * (q / 256) + q % 256 = 65536 * f + q by omega] at h9; rw [h9]; exact m01 (g1.2.2.2 _ _)]
      refine mu_inc_4 (c := mI 1) B dX12_period_72 rfl (by decide) rfl ?_
      try rw [mI_add]
      refine mu_goto (tgt := 49) B dX12_period_75 (by decide) ?_
      refine mu_to (ih (mu_si w1 (m + 13) q (mu_iv w (m + 9) (65536 * f + q))) (by omega) ⟨hF.si (Or.inr (Or.inr rfl)), ⟨by rw [mu_iv_oth _ _ (by omega)]; exact hs36, by rw [mu_iv_oth _ _ (by omega)]; exact hs37⟩, fun j hj => ?_⟩) rfl (by rw [show ((q + 1 : Nat) : Int) = (q : Int) + 1 by omega])
      by_cases e9 : j = q
      · rw [e9, mu_iv_same]
      · rw [mu_iv_oth _ _ (by omega)]; exact hcp j (by omega)
  show mu_WA X G 5 _ _ 0 0 0 _ []
  refine mu_al_0 B dX12_period_0 ?_
  refine mu_il_1 B dX12_period_1 ?_
  refine mu_eV1 B dX12_period_2 mX12_178 ⟨⟨by decide, by decide⟩, by decide, by decide⟩ (Nat.le_of_ble_eq_true rfl) (by assumption) (c_X12_isField G hm (n := nf) hfi.2.1 hfi.1 hz) ?_
  refine mu_if_eq (tgt := 19) B dX12_period_5 (by decide) (fun c5 => ?_) (fun c5 => ?_)
  · have z5 := mu_bf c5
    refine mu_iconst (v := mI (-1)) B dX12_period_19 rfl ?_
    refine mu_iret E rfl (by decide) (by decide) dX12_period_20 ?_
    unfold pr_all
    first | (rw [if_neg (fun hh => z5 hh.1)]; exact ⟨rfl, rfl⟩) | (rw [if_neg (fun hh => by have := hh.2; omega)]; exact ⟨rfl, rfl⟩)
  · have z5 := mu_bt c5
    refine mu_il_2 B dX12_period_8 ?_
    refine mu_iconst (v := mI 1) B dX12_period_9 rfl ?_
    refine mu_icmp_lt (tgt := 19) B dX12_period_10 (by decide) (fun c10 => ?_) (fun c10 => ?_)
    · try rw [mI_lt ⟨by omega, by omega⟩ ⟨by omega, by omega⟩] at c10
      refine mu_iconst (v := mI (-1)) B dX12_period_19 rfl ?_
      refine mu_iret E rfl (by decide) (by decide) dX12_period_20 ?_
      unfold pr_all
      first | (rw [if_neg (fun hh => z5 hh.1)]; exact ⟨rfl, rfl⟩) | (rw [if_neg (fun hh => by have := hh.2; omega)]; exact ⟨rfl, rfl⟩)
    · try rw [mI_lt ⟨by omega, by omega⟩ ⟨by omega, by omega⟩] at c10
      refine mu_il_2 B dX12_period_13 ?_
      refine mu_bipush (v := mI 60) B dX12_period_14 (by decide) ?_
      refine mu_icmp_le (tgt := 21) B dX12_period_16 (by decide) (fun c16 => ?_) (fun c16 => ?_)
      · try rw [mI_le ⟨by omega, by omega⟩ ⟨by omega, by omega⟩] at c16
        obtain ⟨f, hf⟩ : ∃ f : Nat, z = f := ⟨z.toNat, by omega⟩
        subst hf
        obtain ⟨n, hn⟩ : ∃ n : Nat, k = n := ⟨k.toNat, by omega⟩
        subst hn
        have hBf := hfi.bd hm (f := f) (by omega)
        obtain ⟨r14, k14⟩ := mo_14 hm
        refine mu_ldc B kX12_45 dX12_period_21 ?_
        refine mu_il_1 B dX12_period_23 ?_
        refine mu_imul B dX12_period_24 ?_
        try rw [mI_mul]
        rw [show (65536 : Int) * (f : Int) = ((65536 * f : Nat) : Int) by omega]
        refine mu_is_3 B dX12_period_25 (by decide) rfl ?_
        refine mu_al_0 B dX12_period_26 ?_
        refine mu_al_0 B dX12_period_27 ?_
        refine mu_getR B dX12_period_28 fX12_36 rfl (by assumption) (by assumption) ?_
        refine mu_il_3 B dX12_period_31 ?_
        refine mu_cV2 B dX12_period_32 mX12_204 ⟨⟨by decide, by decide⟩, by decide, by decide⟩ (Nat.le_of_ble_eq_true rfl) (by assumption) (c_X12_look G hm hBf) (fun r32 w32 q32 => ?_)
        obtain ⟨rfl, L, R, U, D, M, hlk, ⟨h19, h20, h21, h22, h23⟩, hF9⟩ := q32
        have hk9 := (hm.fi hF9).1
        have hbd := hlk.bd
        have hMb : M ≤ 65536 := by rw [hlk.1]; have := cntR_le hBf.2.2.2.2 256; have := cntX_le hBf.2.2.2.2 256 0; omega
        have hdone := hlk.done (n := n)
        have e36 : mu_iv w32 m 36 = mu_iv w m 36 := (hF9.2.2.2 m 36 (by unfold lk_S; omega)).1
        have e37 : mu_iv w32 m 37 = mu_iv w m 37 := (hF9.2.2.2 m 37 (by unfold lk_S; omega)).1
        refine mu_al_0 B dX12_period_35 ?_
        refine mu_il_2 B dX12_period_36 ?_
        refine mu_eV1 B dX12_period_37 mX12_212 ⟨⟨by decide, by decide⟩, by decide, by decide⟩ (Nat.le_of_ble_eq_true rfl) (by assumption) (c_X12_areDone G (hm.fi hF9) h19 h20 h21 h22 h23 (by omega) (k := (n : Int)) (by omega)) ?_
        refine mu_if_ne (tgt := 46) B dX12_period_40 (by decide) (fun c40 => ?_) (fun c40 => ?_)
        · have z40 := mu_bt c40
          have hdn := hdone.mp z40
          refine mu_iconst (v := mI 0) B dX12_period_46 rfl ?_
          refine mu_is_4 B dX12_period_47 (by decide) rfl ?_
          exact LC f n (by omega) (by omega) (by omega) hdn 0 w32 (by decide) ⟨hF9.mono (fun q j h => Or.inl ⟨h.1, Or.inl h.2⟩), ⟨e36, e37⟩, fun j hj => absurd hj (Nat.not_lt_zero j)⟩
        · have z40 := mu_bf c40
          have hdn : ¬ sp_done (fs_c (fs f)) n := fun q => z40 (hdone.mpr q)
          refine mu_bipush (v := mI (-2)) B dX12_period_43 (by decide) ?_
          refine mu_iret E rfl (by decide) (by decide) dX12_period_45 ?_
          unfold pr_all
          rw [if_pos ⟨⟨by omega, by omega⟩, by omega, by omega⟩]
          exact ⟨hF9.mono (fun q j h => Or.inl ⟨h.1, Or.inl h.2⟩), fun _ => ⟨rfl, e36, e37⟩, fun hh => absurd hh hdn⟩
      · try rw [mI_le ⟨by omega, by omega⟩ ⟨by omega, by omega⟩] at c16
        refine mu_iconst (v := mI (-1)) B dX12_period_19 rfl ?_
        refine mu_iret E rfl (by decide) (by decide) dX12_period_20 ?_
        unfold pr_all
        first | (rw [if_neg (fun hh => z5 hh.1)]; exact ⟨rfl, rfl⟩) | (rw [if_neg (fun hh => by have := hh.2; omega)]; exact ⟨rfl, rfl⟩)
