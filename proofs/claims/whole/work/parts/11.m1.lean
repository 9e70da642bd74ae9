set_option maxHeartbeats 4000000 in
set_option maxRecDepth 100000 in
theorem c_X12_byteAt (G : mu_G) {w : mu_W} {m : Nat} (hm : mo_ok w m) {n i : Nat} (hn : mu_iv w m 2 = mI n) (hn2 : n ≤ 2000) (hi : i < 2147483648) : mu_Ct G M_X12_byteAt [.ref m, .int (mI i)] w (fun r w' => r = some (.int (if i < n then mu_iv w (m + 1) i else mI (-1))) ∧ w' = w) := by
  have hk0 := hm.1
  obtain ⟨h1, h2⟩ := mo_1 hm
  refine mu_ofWA G M_X12_byteAt [.ref m, .int (mI i)] (by decide) rfl (Nat.le_of_ble_eq_true rfl) ?_
  intro X E
  have B : mu_B X G cX12_byteAt RX12 2 (mu_rm M_X12_byteAt) := E.1
  show mu_WA X G 2 _ _ 0 0 0 _ []
  refine mu_il_1 B dX12_byteAt_0 ?_
  refine mu_al_0 B dX12_byteAt_1 ?_
  refine mu_getI B dX12_byteAt_2 fX12_128 rfl (by assumption) ?_
  rw [hn]
  refine mu_icmp_ge (tgt := 17) B dX12_byteAt_5 (by decide) (fun c5 => ?_) (fun c5 => ?_)
  · rw [mI_le ⟨by omega, by omega⟩ ⟨by omega, by omega⟩] at c5
    refine mu_iconst (v := mI (-1)) B dX12_byteAt_17 rfl ?_
    refine mu_iret E rfl (by decide) (by decide) dX12_byteAt_18 ?_
    first | exact ⟨by rw [if_pos (by omega)], rfl⟩ | exact ⟨by rw [if_neg (by omega)], rfl⟩
  · rw [mI_le ⟨by omega, by omega⟩ ⟨by omega, by omega⟩] at c5
    refine mu_al_0 B dX12_byteAt_8 ?_
    refine mu_getR B dX12_byteAt_9 fX12_7 rfl (by assumption) (by assumption) ?_
    refine mu_il_1 B dX12_byteAt_12 ?_
    refine mu_iald B dX12_byteAt_13 (by assumption) (mI_inN (by omega) (by omega)) ?_
    rw [mI_clampN (by omega)]
    refine mu_goto (tgt := 18) B dX12_byteAt_14 (by decide) ?_
    refine mu_iret E rfl (by decide) (by decide) dX12_byteAt_18 ?_
    first | exact ⟨by rw [if_pos (by omega)], rfl⟩ | exact ⟨by rw [if_neg (by omega)], rfl⟩
