/-! ===== the reference's constructor ===== -/
def NI (w0 : mu_W) (m i : Nat) (w : mu_W) : Prop := mu_nx w = m + 1 + i ∧ (∀ a, a < m + 1 → mu_kd w a = mu_kd w0 a ∧ (∀ j, mu_iv w a j = mu_iv w0 a j) ∧ ∀ j, mu_lg w a j = mu_lg w0 a j) ∧ (∀ a, a < m → ∀ j, mu_rv w a j = mu_rv w0 a j) ∧ (∀ a j, m + 1 ≤ a → a < m + 1 + i → mu_iv w a j = 0 ∧ mu_lg w a j = 0) ∧ ∀ t, t < i → mu_rv w m (mo_A.getD t (0, 0, 0, 0)).1 = some (m + (mo_A.getD t (0, 0, 0, 0)).2.1) ∧ mu_kd w (m + (mo_A.getD t (0, 0, 0, 0)).2.1) = some ((mo_A.getD t (0, 0, 0, 0)).2.2.1, (mo_A.getD t (0, 0, 0, 0)).2.2.2)
theorem mo_A_off : ∀ t, t < 36 → (mo_A.getD t (0, 0, 0, 0)).2.1 = t + 1 := by decide +kernel
theorem mo_A_inj : ∀ t, t < 36 → ∀ u, u < 36 → (mo_A.getD t (0, 0, 0, 0)).1 = (mo_A.getD u (0, 0, 0, 0)).1 → t = u := by decide +kernel
theorem NI.step {w0 : mu_W} {m i : Nat} {w : mu_W} (h : NI w0 m i w) (hi : i < 36) : NI w0 m (i + 1) (mu_sr (mu_al w (mo_A.getD i (0, 0, 0, 0)).2.2.1 (mo_A.getD i (0, 0, 0, 0)).2.2.2) m (mo_A.getD i (0, 0, 0, 0)).1 (some (mu_nx w))) := by
  obtain ⟨h1, h2, h3, h4, h5⟩ := h
  refine ⟨by rw [mu_nx_sr, mu_nx_al, h1]; omega, fun a ha => ⟨?_, fun j => ?_, fun j => ?_⟩, fun a ha j => ?_, fun a j ha hb => ?_, fun t ht => ?_⟩
  · rw [mu_kd_sr, mu_kd_al, if_neg (by omega)]; exact (h2 a ha).1
  · rw [mu_iv_sr, mu_iv_al, if_neg (by omega)]; exact (h2 a ha).2.1 j
  · rw [mu_lg_sr, mu_lg_al, if_neg (by omega)]; exact (h2 a ha).2.2 j
  · rw [mu_rv_sr, if_neg (by omega), mu_rv_al, if_neg (by omega)]; exact h3 a ha j
  · rw [mu_iv_sr, mu_iv_al, mu_lg_sr, mu_lg_al]
    by_cases e : a = mu_nx w
    · rw [if_pos e, if_pos e]; exact ⟨rfl, rfl⟩
    · rw [if_neg e, if_neg e]; exact h4 a j ha (by omega)
  · rw [mu_rv_sr, mu_kd_sr, mu_kd_al]
    by_cases e : t = i
    · subst e
      have := mo_A_off t (by omega)
      rw [if_pos ⟨rfl, rfl⟩, if_pos (by omega)]
      exact ⟨by rw [h1, this]; congr 1; omega, rfl⟩
    · have o := mo_A_off t (by omega)
      obtain ⟨g1, g2⟩ := h5 t (by omega)
      rw [if_neg (fun q => e (mo_A_inj t (by omega) i hi q.2)), mu_rv_al, if_neg (by omega), if_neg (by omega)]
      exact ⟨g1, g2⟩
theorem mo_A_all : ∀ q ∈ mo_A, ∃ t, t < 36 ∧ mo_A.getD t (0, 0, 0, 0) = q := by decide +kernel
theorem NI.ok {w0 : mu_W} {m : Nat} {w : mu_W} (h : NI w0 m 36 w) (hk : mu_kd w0 m = some (12, 0)) : mo_ok w m := ⟨((h.2.1 m (by omega)).1).trans hk, fun q hq => by
  obtain ⟨t, ht, e⟩ := mo_A_all q hq
  have := h.2.2.2.2 t ht
  rw [e] at this
  exact this⟩

set_option maxHeartbeats 4000000 in
set_option maxRecDepth 100000 in
theorem c_X12_init (G : mu_G) {w : mu_W} {m : Nat} (hk : mu_kd w m = some (12, 0)) (hnx : mu_nx w = m + 1) : mu_Ct G M_X12_init [.ref m] w (fun r w' => r = none ∧ NI w m 36 w') := by
  have h0 : NI w m 0 w := ⟨hnx, fun a _ => ⟨rfl, fun _ => rfl, fun _ => rfl⟩, fun _ _ _ => rfl, fun a j h1 h2 => by omega, fun t ht => absurd ht (Nat.not_lt_zero t)⟩
  refine mu_ofWA G M_X12_init [.ref m] (by decide) rfl (Nat.le_of_ble_eq_true rfl) ?_
  intro X E
  have B : mu_B X G cX12_init RX12 1 (mu_rm M_X12_init) := E.1
  show mu_WA X G 1 _ _ 0 0 0 _ []
  refine mu_al_0 B dX12_init_0 ?_
  refine mu_obj B dX12_init_1 obX12 obi obc ⟨by decide, by decide⟩ (Nat.le_of_ble_eq_true rfl) ?_
  refine mu_al_0 B dX12_init_4 ?_
  refine mu_sipush (v := mI 2000) B dX12_init_5 (by decide) ?_
  refine mu_newm (ka := 0) B dX12_init_8 rfl (by decide) aw_int 2000 rfl (by decide) (by decide) (by decide) (by decide) ?_
  refine mu_putRF B E.2.2.2 dX12_init_10 fX12_7 ffX12_1 rfl rfl (show mu_kd (mu_al w 100 2000) m = some (12, 0) from by rw [mu_kd_al, if_neg (by have := h0.1; omega)]; exact (h0.2.1 m (by omega)).1.trans hk) ?_
  have h1 := h0.step (by decide)
  replace h1 : NI w m 1 (mu_sr (mu_al w 100 2000) m 1 (some (mu_nx w))) := h1
  generalize mu_sr (mu_al w 100 2000) m 1 (some (mu_nx w)) = w_1 at h1 ⊢
  refine mu_al_0 B dX12_init_13 ?_
  refine mu_sipush (v := mI 32000) B dX12_init_14 (by decide) ?_
  refine mu_newm (ka := 2) B dX12_init_17 rfl (by decide) aw_byte 32000 rfl (by decide) (by decide) (by decide) (by decide) ?_
  refine mu_putRF B E.2.2.2 dX12_init_19 fX12_13 ffX12_4 rfl rfl (show mu_kd (mu_al w_1 102 32000) m = some (12, 0) from by rw [mu_kd_al, if_neg (by have := h1.1; omega)]; exact (h1.2.1 m (by omega)).1.trans hk) ?_
  have h2 := h1.step (by decide)
  replace h2 : NI w m 2 (mu_sr (mu_al w_1 102 32000) m 4 (some (mu_nx w_1))) := h2
  generalize mu_sr (mu_al w_1 102 32000) m 4 (some (mu_nx w_1)) = w_2 at h2 ⊢
  refine mu_al_0 B dX12_init_22 ?_
  refine mu_bipush (v := mI 16) B dX12_init_23 (by decide) ?_
  refine mu_newm (ka := 0) B dX12_init_25 rfl (by decide) aw_int 16 rfl (by decide) (by decide) (by decide) (by decide) ?_
  refine mu_putRF B E.2.2.2 dX12_init_27 fX12_17 ffX12_5 rfl rfl (show mu_kd (mu_al w_2 100 16) m = some (12, 0) from by rw [mu_kd_al, if_neg (by have := h2.1; omega)]; exact (h2.2.1 m (by omega)).1.trans hk) ?_
  have h3 := h2.step (by decide)
  replace h3 : NI w m 3 (mu_sr (mu_al w_2 100 16) m 5 (some (mu_nx w_2))) := h3
  generalize mu_sr (mu_al w_2 100 16) m 5 (some (mu_nx w_2)) = w_3 at h3 ⊢
  refine mu_al_0 B dX12_init_30 ?_
  refine mu_bipush (v := mI 16) B dX12_init_31 (by decide) ?_
  refine mu_newm (ka := 0) B dX12_init_33 rfl (by decide) aw_int 16 rfl (by decide) (by decide) (by decide) (by decide) ?_
  refine mu_putRF B E.2.2.2 dX12_init_35 fX12_20 ffX12_6 rfl rfl (show mu_kd (mu_al w_3 100 16) m = some (12, 0) from by rw [mu_kd_al, if_neg (by have := h3.1; omega)]; exact (h3.2.1 m (by omega)).1.trans hk) ?_
  have h4 := h3.step (by decide)
  replace h4 : NI w m 4 (mu_sr (mu_al w_3 100 16) m 6 (some (mu_nx w_3))) := h4
  generalize mu_sr (mu_al w_3 100 16) m 6 (some (mu_nx w_3)) = w_4 at h4 ⊢
  refine mu_al_0 B dX12_init_38 ?_
  refine mu_bipush (v := mI 16) B dX12_init_39 (by decide) ?_
  refine mu_newm (ka := 0) B dX12_init_41 rfl (by decide) aw_int 16 rfl (by decide) (by decide) (by decide) (by decide) ?_
  refine mu_putRF B E.2.2.2 dX12_init_43 fX12_23 ffX12_7 rfl rfl (show mu_kd (mu_al w_4 100 16) m = some (12, 0) from by rw [mu_kd_al, if_neg (by have := h4.1; omega)]; exact (h4.2.1 m (by omega)).1.trans hk) ?_
  have h5 := h4.step (by decide)
  replace h5 : NI w m 5 (mu_sr (mu_al w_4 100 16) m 7 (some (mu_nx w_4))) := h5
  generalize mu_sr (mu_al w_4 100 16) m 7 (some (mu_nx w_4)) = w_5 at h5 ⊢
  refine mu_al_0 B dX12_init_46 ?_
  refine mu_bipush (v := mI 16) B dX12_init_47 (by decide) ?_
  refine mu_newm (ka := 0) B dX12_init_49 rfl (by decide) aw_int 16 rfl (by decide) (by decide) (by decide) (by decide) ?_
  refine mu_putRF B E.2.2.2 dX12_init_51 fX12_26 ffX12_8 rfl rfl (show mu_kd (mu_al w_5 100 16) m = some (12, 0) from by rw [mu_kd_al, if_neg (by have := h5.1; omega)]; exact (h5.2.1 m (by omega)).1.trans hk) ?_
  have h6 := h5.step (by decide)
  replace h6 : NI w m 6 (mu_sr (mu_al w_5 100 16) m 8 (some (mu_nx w_5))) := h6
  generalize mu_sr (mu_al w_5 100 16) m 8 (some (mu_nx w_5)) = w_6 at h6 ⊢
  refine mu_al_0 B dX12_init_54 ?_
  refine mu_bipush (v := mI 16) B dX12_init_55 (by decide) ?_
  refine mu_newm (ka := 0) B dX12_init_57 rfl (by decide) aw_int 16 rfl (by decide) (by decide) (by decide) (by decide) ?_
  refine mu_putRF B E.2.2.2 dX12_init_59 fX12_29 ffX12_9 rfl rfl (show mu_kd (mu_al w_6 100 16) m = some (12, 0) from by rw [mu_kd_al, if_neg (by have := h6.1; omega)]; exact (h6.2.1 m (by omega)).1.trans hk) ?_
  have h7 := h6.step (by decide)
  replace h7 : NI w m 7 (mu_sr (mu_al w_6 100 16) m 9 (some (mu_nx w_6))) := h7
  generalize mu_sr (mu_al w_6 100 16) m 9 (some (mu_nx w_6)) = w_7 at h7 ⊢
  refine mu_al_0 B dX12_init_62 ?_
  refine mu_sipush (v := mI 4096) B dX12_init_63 (by decide) ?_
  refine mu_newm (ka := 0) B dX12_init_66 rfl (by decide) aw_int 4096 rfl (by decide) (by decide) (by decide) (by decide) ?_
  refine mu_putRF B E.2.2.2 dX12_init_68 fX12_32 ffX12_10 rfl rfl (show mu_kd (mu_al w_7 100 4096) m = some (12, 0) from by rw [mu_kd_al, if_neg (by have := h7.1; omega)]; exact (h7.2.1 m (by omega)).1.trans hk) ?_
  have h8 := h7.step (by decide)
  replace h8 : NI w m 8 (mu_sr (mu_al w_7 100 4096) m 10 (some (mu_nx w_7))) := h8
  generalize mu_sr (mu_al w_7 100 4096) m 10 (some (mu_nx w_7)) = w_8 at h8 ⊢
  refine mu_al_0 B dX12_init_71 ?_
  refine mu_ldc B kX12_35 dX12_init_72 ?_
  refine mu_newm (ka := 2) B dX12_init_74 rfl (by decide) aw_byte 524288 rfl (by decide) (by decide) (by decide) (by decide) ?_
  refine mu_putRF B E.2.2.2 dX12_init_76 fX12_36 ffX12_14 rfl rfl (show mu_kd (mu_al w_8 102 524288) m = some (12, 0) from by rw [mu_kd_al, if_neg (by have := h8.1; omega)]; exact (h8.2.1 m (by omega)).1.trans hk) ?_
  have h9 := h8.step (by decide)
  replace h9 : NI w m 9 (mu_sr (mu_al w_8 102 524288) m 14 (some (mu_nx w_8))) := h9
  generalize mu_sr (mu_al w_8 102 524288) m 14 (some (mu_nx w_8)) = w_9 at h9 ⊢
  refine mu_al_0 B dX12_init_79 ?_
  refine mu_bipush (v := mI 8) B dX12_init_80 (by decide) ?_
  refine mu_newm (ka := 0) B dX12_init_82 rfl (by decide) aw_int 8 rfl (by decide) (by decide) (by decide) (by decide) ?_
  refine mu_putRF B E.2.2.2 dX12_init_84 fX12_39 ffX12_15 rfl rfl (show mu_kd (mu_al w_9 100 8) m = some (12, 0) from by rw [mu_kd_al, if_neg (by have := h9.1; omega)]; exact (h9.2.1 m (by omega)).1.trans hk) ?_
  have h10 := h9.step (by decide)
  replace h10 : NI w m 10 (mu_sr (mu_al w_9 100 8) m 15 (some (mu_nx w_9))) := h10
  generalize mu_sr (mu_al w_9 100 8) m 15 (some (mu_nx w_9)) = w_10 at h10 ⊢
  refine mu_al_0 B dX12_init_87 ?_
  refine mu_bipush (v := mI 8) B dX12_init_88 (by decide) ?_
  refine mu_newm (ka := 0) B dX12_init_90 rfl (by decide) aw_int 8 rfl (by decide) (by decide) (by decide) (by decide) ?_
  refine mu_putRF B E.2.2.2 dX12_init_92 fX12_42 ffX12_16 rfl rfl (show mu_kd (mu_al w_10 100 8) m = some (12, 0) from by rw [mu_kd_al, if_neg (by have := h10.1; omega)]; exact (h10.2.1 m (by omega)).1.trans hk) ?_
  have h11 := h10.step (by decide)
  replace h11 : NI w m 11 (mu_sr (mu_al w_10 100 8) m 16 (some (mu_nx w_10))) := h11
  generalize mu_sr (mu_al w_10 100 8) m 16 (some (mu_nx w_10)) = w_11 at h11 ⊢
  refine mu_al_0 B dX12_init_95 ?_
  refine mu_ldc B kX12_45 dX12_init_96 ?_
  refine mu_newm (ka := 2) B dX12_init_98 rfl (by decide) aw_byte 65536 rfl (by decide) (by decide) (by decide) (by decide) ?_
  refine mu_putRF B E.2.2.2 dX12_init_100 fX12_46 ffX12_17 rfl rfl (show mu_kd (mu_al w_11 102 65536) m = some (12, 0) from by rw [mu_kd_al, if_neg (by have := h11.1; omega)]; exact (h11.2.1 m (by omega)).1.trans hk) ?_
  have h12 := h11.step (by decide)
  replace h12 : NI w m 12 (mu_sr (mu_al w_11 102 65536) m 17 (some (mu_nx w_11))) := h12
  generalize mu_sr (mu_al w_11 102 65536) m 17 (some (mu_nx w_11)) = w_12 at h12 ⊢
  refine mu_al_0 B dX12_init_103 ?_
  refine mu_ldc B kX12_45 dX12_init_104 ?_
  refine mu_newm (ka := 2) B dX12_init_106 rfl (by decide) aw_byte 65536 rfl (by decide) (by decide) (by decide) (by decide) ?_
  refine mu_putRF B E.2.2.2 dX12_init_108 fX12_49 ffX12_18 rfl rfl (show mu_kd (mu_al w_12 102 65536) m = some (12, 0) from by rw [mu_kd_al, if_neg (by have := h12.1; omega)]; exact (h12.2.1 m (by omega)).1.trans hk) ?_
  have h13 := h12.step (by decide)
  replace h13 : NI w m 13 (mu_sr (mu_al w_12 102 65536) m 18 (some (mu_nx w_12))) := h13
  generalize mu_sr (mu_al w_12 102 65536) m 18 (some (mu_nx w_12)) = w_13 at h13 ⊢
  refine mu_al_0 B dX12_init_111 ?_
  refine mu_sipush (v := mI 2000) B dX12_init_112 (by decide) ?_
  refine mu_newm (ka := 0) B dX12_init_115 rfl (by decide) aw_int 2000 rfl (by decide) (by decide) (by decide) (by decide) ?_
  refine mu_putRF B E.2.2.2 dX12_init_117 fX12_52 ffX12_25 rfl rfl (show mu_kd (mu_al w_13 100 2000) m = some (12, 0) from by rw [mu_kd_al, if_neg (by have := h13.1; omega)]; exact (h13.2.1 m (by omega)).1.trans hk) ?_
  have h14 := h13.step (by decide)
  replace h14 : NI w m 14 (mu_sr (mu_al w_13 100 2000) m 25 (some (mu_nx w_13))) := h14
  generalize mu_sr (mu_al w_13 100 2000) m 25 (some (mu_nx w_13)) = w_14 at h14 ⊢
  refine mu_al_0 B dX12_init_120 ?_
  refine mu_sipush (v := mI 2000) B dX12_init_121 (by decide) ?_
  refine mu_newm (ka := 0) B dX12_init_124 rfl (by decide) aw_int 2000 rfl (by decide) (by decide) (by decide) (by decide) ?_
  refine mu_putRF B E.2.2.2 dX12_init_126 fX12_55 ffX12_26 rfl rfl (show mu_kd (mu_al w_14 100 2000) m = some (12, 0) from by rw [mu_kd_al, if_neg (by have := h14.1; omega)]; exact (h14.2.1 m (by omega)).1.trans hk) ?_
  have h15 := h14.step (by decide)
  replace h15 : NI w m 15 (mu_sr (mu_al w_14 100 2000) m 26 (some (mu_nx w_14))) := h15
  generalize mu_sr (mu_al w_14 100 2000) m 26 (some (mu_nx w_14)) = w_15 at h15 ⊢
  refine mu_al_0 B dX12_init_129 ?_
  refine mu_ldc B kX12_58 dX12_init_130 ?_
  refine mu_newm (ka := 2) B dX12_init_132 rfl (by decide) aw_byte 140000 rfl (by decide) (by decide) (by decide) (by decide) ?_
  refine mu_putRF B E.2.2.2 dX12_init_134 fX12_59 ffX12_27 rfl rfl (show mu_kd (mu_al w_15 102 140000) m = some (12, 0) from by rw [mu_kd_al, if_neg (by have := h15.1; omega)]; exact (h15.2.1 m (by omega)).1.trans hk) ?_
  have h16 := h15.step (by decide)
  replace h16 : NI w m 16 (mu_sr (mu_al w_15 102 140000) m 27 (some (mu_nx w_15))) := h16
  generalize mu_sr (mu_al w_15 102 140000) m 27 (some (mu_nx w_15)) = w_16 at h16 ⊢
  refine mu_al_0 B dX12_init_137 ?_
  refine mu_sipush (v := mI 16384) B dX12_init_138 (by decide) ?_
  refine mu_newm (ka := 0) B dX12_init_141 rfl (by decide) aw_int 16384 rfl (by decide) (by decide) (by decide) (by decide) ?_
  refine mu_putRF B E.2.2.2 dX12_init_143 fX12_62 ffX12_29 rfl rfl (show mu_kd (mu_al w_16 100 16384) m = some (12, 0) from by rw [mu_kd_al, if_neg (by have := h16.1; omega)]; exact (h16.2.1 m (by omega)).1.trans hk) ?_
  have h17 := h16.step (by decide)
  replace h17 : NI w m 17 (mu_sr (mu_al w_16 100 16384) m 29 (some (mu_nx w_16))) := h17
  generalize mu_sr (mu_al w_16 100 16384) m 29 (some (mu_nx w_16)) = w_17 at h17 ⊢
  refine mu_al_0 B dX12_init_146 ?_
  refine mu_sipush (v := mI 4096) B dX12_init_147 (by decide) ?_
  refine mu_newm (ka := 0) B dX12_init_150 rfl (by decide) aw_int 4096 rfl (by decide) (by decide) (by decide) (by decide) ?_
  refine mu_putRF B E.2.2.2 dX12_init_152 fX12_65 ffX12_30 rfl rfl (show mu_kd (mu_al w_17 100 4096) m = some (12, 0) from by rw [mu_kd_al, if_neg (by have := h17.1; omega)]; exact (h17.2.1 m (by omega)).1.trans hk) ?_
  have h18 := h17.step (by decide)
  replace h18 : NI w m 18 (mu_sr (mu_al w_17 100 4096) m 30 (some (mu_nx w_17))) := h18
  generalize mu_sr (mu_al w_17 100 4096) m 30 (some (mu_nx w_17)) = w_18 at h18 ⊢
  refine mu_al_0 B dX12_init_155 ?_
  refine mu_sipush (v := mI 16384) B dX12_init_156 (by decide) ?_
  refine mu_newm (ka := 0) B dX12_init_159 rfl (by decide) aw_int 16384 rfl (by decide) (by decide) (by decide) (by decide) ?_
  refine mu_putRF B E.2.2.2 dX12_init_161 fX12_68 ffX12_31 rfl rfl (show mu_kd (mu_al w_18 100 16384) m = some (12, 0) from by rw [mu_kd_al, if_neg (by have := h18.1; omega)]; exact (h18.2.1 m (by omega)).1.trans hk) ?_
  have h19 := h18.step (by decide)
  replace h19 : NI w m 19 (mu_sr (mu_al w_18 100 16384) m 31 (some (mu_nx w_18))) := h19
  generalize mu_sr (mu_al w_18 100 16384) m 31 (some (mu_nx w_18)) = w_19 at h19 ⊢
  refine mu_al_0 B dX12_init_164 ?_
  refine mu_sipush (v := mI 16384) B dX12_init_165 (by decide) ?_
  refine mu_newm (ka := 0) B dX12_init_168 rfl (by decide) aw_int 16384 rfl (by decide) (by decide) (by decide) (by decide) ?_
  refine mu_putRF B E.2.2.2 dX12_init_170 fX12_71 ffX12_32 rfl rfl (show mu_kd (mu_al w_19 100 16384) m = some (12, 0) from by rw [mu_kd_al, if_neg (by have := h19.1; omega)]; exact (h19.2.1 m (by omega)).1.trans hk) ?_
  have h20 := h19.step (by decide)
  replace h20 : NI w m 20 (mu_sr (mu_al w_19 100 16384) m 32 (some (mu_nx w_19))) := h20
  generalize mu_sr (mu_al w_19 100 16384) m 32 (some (mu_nx w_19)) = w_20 at h20 ⊢
  refine mu_al_0 B dX12_init_173 ?_
  refine mu_sipush (v := mI 16384) B dX12_init_174 (by decide) ?_
  refine mu_newm (ka := 0) B dX12_init_177 rfl (by decide) aw_int 16384 rfl (by decide) (by decide) (by decide) (by decide) ?_
  refine mu_putRF B E.2.2.2 dX12_init_179 fX12_74 ffX12_33 rfl rfl (show mu_kd (mu_al w_20 100 16384) m = some (12, 0) from by rw [mu_kd_al, if_neg (by have := h20.1; omega)]; exact (h20.2.1 m (by omega)).1.trans hk) ?_
  have h21 := h20.step (by decide)
  replace h21 : NI w m 21 (mu_sr (mu_al w_20 100 16384) m 33 (some (mu_nx w_20))) := h21
  generalize mu_sr (mu_al w_20 100 16384) m 33 (some (mu_nx w_20)) = w_21 at h21 ⊢
  refine mu_al_0 B dX12_init_182 ?_
  refine mu_sipush (v := mI 16384) B dX12_init_183 (by decide) ?_
  refine mu_newm (ka := 0) B dX12_init_186 rfl (by decide) aw_int 16384 rfl (by decide) (by decide) (by decide) (by decide) ?_
  refine mu_putRF B E.2.2.2 dX12_init_188 fX12_77 ffX12_34 rfl rfl (show mu_kd (mu_al w_21 100 16384) m = some (12, 0) from by rw [mu_kd_al, if_neg (by have := h21.1; omega)]; exact (h21.2.1 m (by omega)).1.trans hk) ?_
  have h22 := h21.step (by decide)
  replace h22 : NI w m 22 (mu_sr (mu_al w_21 100 16384) m 34 (some (mu_nx w_21))) := h22
  generalize mu_sr (mu_al w_21 100 16384) m 34 (some (mu_nx w_21)) = w_22 at h22 ⊢
  refine mu_al_0 B dX12_init_191 ?_
  refine mu_sipush (v := mI 400) B dX12_init_192 (by decide) ?_
  refine mu_newm (ka := 2) B dX12_init_195 rfl (by decide) aw_byte 400 rfl (by decide) (by decide) (by decide) (by decide) ?_
  refine mu_putRF B E.2.2.2 dX12_init_197 fX12_80 ffX12_38 rfl rfl (show mu_kd (mu_al w_22 102 400) m = some (12, 0) from by rw [mu_kd_al, if_neg (by have := h22.1; omega)]; exact (h22.2.1 m (by omega)).1.trans hk) ?_
  have h23 := h22.step (by decide)
  replace h23 : NI w m 23 (mu_sr (mu_al w_22 102 400) m 38 (some (mu_nx w_22))) := h23
  generalize mu_sr (mu_al w_22 102 400) m 38 (some (mu_nx w_22)) = w_23 at h23 ⊢
  refine mu_al_0 B dX12_init_200 ?_
  refine mu_sipush (v := mI 400) B dX12_init_201 (by decide) ?_
  refine mu_newm (ka := 2) B dX12_init_204 rfl (by decide) aw_byte 400 rfl (by decide) (by decide) (by decide) (by decide) ?_
  refine mu_putRF B E.2.2.2 dX12_init_206 fX12_83 ffX12_39 rfl rfl (show mu_kd (mu_al w_23 102 400) m = some (12, 0) from by rw [mu_kd_al, if_neg (by have := h23.1; omega)]; exact (h23.2.1 m (by omega)).1.trans hk) ?_
  have h24 := h23.step (by decide)
  replace h24 : NI w m 24 (mu_sr (mu_al w_23 102 400) m 39 (some (mu_nx w_23))) := h24
  generalize mu_sr (mu_al w_23 102 400) m 39 (some (mu_nx w_23)) = w_24 at h24 ⊢
  refine mu_al_0 B dX12_init_209 ?_
  refine mu_ldc B kX12_45 dX12_init_210 ?_
  refine mu_newm (ka := 0) B dX12_init_212 rfl (by decide) aw_int 65536 rfl (by decide) (by decide) (by decide) (by decide) ?_
  refine mu_putRF B E.2.2.2 dX12_init_214 fX12_86 ffX12_44 rfl rfl (show mu_kd (mu_al w_24 100 65536) m = some (12, 0) from by rw [mu_kd_al, if_neg (by have := h24.1; omega)]; exact (h24.2.1 m (by omega)).1.trans hk) ?_
  have h25 := h24.step (by decide)
  replace h25 : NI w m 25 (mu_sr (mu_al w_24 100 65536) m 44 (some (mu_nx w_24))) := h25
  generalize mu_sr (mu_al w_24 100 65536) m 44 (some (mu_nx w_24)) = w_25 at h25 ⊢
  refine mu_al_0 B dX12_init_217 ?_
  refine mu_ldc B kX12_45 dX12_init_218 ?_
  refine mu_newm (ka := 3) B dX12_init_220 rfl (by decide) aw_boolean 65536 rfl (by decide) (by decide) (by decide) (by decide) ?_
  refine mu_putRF B E.2.2.2 dX12_init_222 fX12_89 ffX12_45 rfl rfl (show mu_kd (mu_al w_25 103 65536) m = some (12, 0) from by rw [mu_kd_al, if_neg (by have := h25.1; omega)]; exact (h25.2.1 m (by omega)).1.trans hk) ?_
  have h26 := h25.step (by decide)
  replace h26 : NI w m 26 (mu_sr (mu_al w_25 103 65536) m 45 (some (mu_nx w_25))) := h26
  generalize mu_sr (mu_al w_25 103 65536) m 45 (some (mu_nx w_25)) = w_26 at h26 ⊢
  refine mu_al_0 B dX12_init_225 ?_
  refine mu_bipush (v := mI 8) B dX12_init_226 (by decide) ?_
  refine mu_newm (ka := 0) B dX12_init_228 rfl (by decide) aw_int 8 rfl (by decide) (by decide) (by decide) (by decide) ?_
  refine mu_putRF B E.2.2.2 dX12_init_230 fX12_93 ffX12_47 rfl rfl (show mu_kd (mu_al w_26 100 8) m = some (12, 0) from by rw [mu_kd_al, if_neg (by have := h26.1; omega)]; exact (h26.2.1 m (by omega)).1.trans hk) ?_
  have h27 := h26.step (by decide)
  replace h27 : NI w m 27 (mu_sr (mu_al w_26 100 8) m 47 (some (mu_nx w_26))) := h27
  generalize mu_sr (mu_al w_26 100 8) m 47 (some (mu_nx w_26)) = w_27 at h27 ⊢
  refine mu_al_0 B dX12_init_233 ?_
  refine mu_bipush (v := mI 8) B dX12_init_234 (by decide) ?_
  refine mu_newm (ka := 0) B dX12_init_236 rfl (by decide) aw_int 8 rfl (by decide) (by decide) (by decide) (by decide) ?_
  refine mu_putRF B E.2.2.2 dX12_init_238 fX12_96 ffX12_48 rfl rfl (show mu_kd (mu_al w_27 100 8) m = some (12, 0) from by rw [mu_kd_al, if_neg (by have := h27.1; omega)]; exact (h27.2.1 m (by omega)).1.trans hk) ?_
  have h28 := h27.step (by decide)
  replace h28 : NI w m 28 (mu_sr (mu_al w_27 100 8) m 48 (some (mu_nx w_27))) := h28
  generalize mu_sr (mu_al w_27 100 8) m 48 (some (mu_nx w_27)) = w_28 at h28 ⊢
  refine mu_al_0 B dX12_init_241 ?_
  refine mu_bipush (v := mI 8) B dX12_init_242 (by decide) ?_
  refine mu_newm (ka := 0) B dX12_init_244 rfl (by decide) aw_int 8 rfl (by decide) (by decide) (by decide) (by decide) ?_
  refine mu_putRF B E.2.2.2 dX12_init_246 fX12_99 ffX12_49 rfl rfl (show mu_kd (mu_al w_28 100 8) m = some (12, 0) from by rw [mu_kd_al, if_neg (by have := h28.1; omega)]; exact (h28.2.1 m (by omega)).1.trans hk) ?_
  have h29 := h28.step (by decide)
  replace h29 : NI w m 29 (mu_sr (mu_al w_28 100 8) m 49 (some (mu_nx w_28))) := h29
  generalize mu_sr (mu_al w_28 100 8) m 49 (some (mu_nx w_28)) = w_29 at h29 ⊢
  refine mu_al_0 B dX12_init_249 ?_
  refine mu_bipush (v := mI 8) B dX12_init_250 (by decide) ?_
  refine mu_newm (ka := 0) B dX12_init_252 rfl (by decide) aw_int 8 rfl (by decide) (by decide) (by decide) (by decide) ?_
  refine mu_putRF B E.2.2.2 dX12_init_254 fX12_102 ffX12_50 rfl rfl (show mu_kd (mu_al w_29 100 8) m = some (12, 0) from by rw [mu_kd_al, if_neg (by have := h29.1; omega)]; exact (h29.2.1 m (by omega)).1.trans hk) ?_
  have h30 := h29.step (by decide)
  replace h30 : NI w m 30 (mu_sr (mu_al w_29 100 8) m 50 (some (mu_nx w_29))) := h30
  generalize mu_sr (mu_al w_29 100 8) m 50 (some (mu_nx w_29)) = w_30 at h30 ⊢
  refine mu_al_0 B dX12_init_257 ?_
  refine mu_sipush (v := mI 2048) B dX12_init_258 (by decide) ?_
  refine mu_newm (ka := 0) B dX12_init_261 rfl (by decide) aw_int 2048 rfl (by decide) (by decide) (by decide) (by decide) ?_
  refine mu_putRF B E.2.2.2 dX12_init_263 fX12_105 ffX12_51 rfl rfl (show mu_kd (mu_al w_30 100 2048) m = some (12, 0) from by rw [mu_kd_al, if_neg (by have := h30.1; omega)]; exact (h30.2.1 m (by omega)).1.trans hk) ?_
  have h31 := h30.step (by decide)
  replace h31 : NI w m 31 (mu_sr (mu_al w_30 100 2048) m 51 (some (mu_nx w_30))) := h31
  generalize mu_sr (mu_al w_30 100 2048) m 51 (some (mu_nx w_30)) = w_31 at h31 ⊢
  refine mu_al_0 B dX12_init_266 ?_
  refine mu_sipush (v := mI 256) B dX12_init_267 (by decide) ?_
  refine mu_newm (ka := 0) B dX12_init_270 rfl (by decide) aw_int 256 rfl (by decide) (by decide) (by decide) (by decide) ?_
  refine mu_putRF B E.2.2.2 dX12_init_272 fX12_108 ffX12_52 rfl rfl (show mu_kd (mu_al w_31 100 256) m = some (12, 0) from by rw [mu_kd_al, if_neg (by have := h31.1; omega)]; exact (h31.2.1 m (by omega)).1.trans hk) ?_
  have h32 := h31.step (by decide)
  replace h32 : NI w m 32 (mu_sr (mu_al w_31 100 256) m 52 (some (mu_nx w_31))) := h32
  generalize mu_sr (mu_al w_31 100 256) m 52 (some (mu_nx w_31)) = w_32 at h32 ⊢
  refine mu_al_0 B dX12_init_275 ?_
  refine mu_bipush (v := mI 16) B dX12_init_276 (by decide) ?_
  refine mu_newm (ka := 1) B dX12_init_278 rfl (by decide) aw_long 16 rfl (by decide) (by decide) (by decide) (by decide) ?_
  refine mu_putRF B E.2.2.2 dX12_init_280 fX12_111 ffX12_55 rfl rfl (show mu_kd (mu_al w_32 101 16) m = some (12, 0) from by rw [mu_kd_al, if_neg (by have := h32.1; omega)]; exact (h32.2.1 m (by omega)).1.trans hk) ?_
  have h33 := h32.step (by decide)
  replace h33 : NI w m 33 (mu_sr (mu_al w_32 101 16) m 55 (some (mu_nx w_32))) := h33
  generalize mu_sr (mu_al w_32 101 16) m 55 (some (mu_nx w_32)) = w_33 at h33 ⊢
  refine mu_al_0 B dX12_init_283 ?_
  refine mu_iconst (v := mI 4) B dX12_init_284 rfl ?_
  refine mu_newm (ka := 0) B dX12_init_285 rfl (by decide) aw_int 4 rfl (by decide) (by decide) (by decide) (by decide) ?_
  refine mu_putRF B E.2.2.2 dX12_init_287 fX12_115 ffX12_57 rfl rfl (show mu_kd (mu_al w_33 100 4) m = some (12, 0) from by rw [mu_kd_al, if_neg (by have := h33.1; omega)]; exact (h33.2.1 m (by omega)).1.trans hk) ?_
  have h34 := h33.step (by decide)
  replace h34 : NI w m 34 (mu_sr (mu_al w_33 100 4) m 57 (some (mu_nx w_33))) := h34
  generalize mu_sr (mu_al w_33 100 4) m 57 (some (mu_nx w_33)) = w_34 at h34 ⊢
  refine mu_al_0 B dX12_init_290 ?_
  refine mu_iconst (v := mI 4) B dX12_init_291 rfl ?_
  refine mu_newm (ka := 3) B dX12_init_292 rfl (by decide) aw_boolean 4 rfl (by decide) (by decide) (by decide) (by decide) ?_
  refine mu_putRF B E.2.2.2 dX12_init_294 fX12_118 ffX12_58 rfl rfl (show mu_kd (mu_al w_34 103 4) m = some (12, 0) from by rw [mu_kd_al, if_neg (by have := h34.1; omega)]; exact (h34.2.1 m (by omega)).1.trans hk) ?_
  have h35 := h34.step (by decide)
  replace h35 : NI w m 35 (mu_sr (mu_al w_34 103 4) m 58 (some (mu_nx w_34))) := h35
  generalize mu_sr (mu_al w_34 103 4) m 58 (some (mu_nx w_34)) = w_35 at h35 ⊢
  refine mu_al_0 B dX12_init_297 ?_
  refine mu_iconst (v := mI 4) B dX12_init_298 rfl ?_
  refine mu_newm (ka := 1) B dX12_init_299 rfl (by decide) aw_long 4 rfl (by decide) (by decide) (by decide) (by decide) ?_
  refine mu_putRF B E.2.2.2 dX12_init_301 fX12_121 ffX12_59 rfl rfl (show mu_kd (mu_al w_35 101 4) m = some (12, 0) from by rw [mu_kd_al, if_neg (by have := h35.1; omega)]; exact (h35.2.1 m (by omega)).1.trans hk) ?_
  have h36 := h35.step (by decide)
  replace h36 : NI w m 36 (mu_sr (mu_al w_35 101 4) m 59 (some (mu_nx w_35))) := h36
  generalize mu_sr (mu_al w_35 101 4) m 59 (some (mu_nx w_35)) = w_36 at h36 ⊢
  refine mu_vret E rfl (by decide) (by decide) dX12_init_304 ?_
  exact ⟨rfl, h36⟩
