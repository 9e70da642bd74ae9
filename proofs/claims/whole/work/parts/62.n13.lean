/-! ===== the class: objects that lay their arrays behind them ===== -/
/-- n arrays have been laid behind the object at a; older cells are as they were, but for the object's references -/
def NF (w0 : mu_W) (a n : Nat) (w : mu_W) : Prop := mu_nx w = a + 1 + n ∧ (∀ q, q < a + 1 → mu_kd w q = mu_kd w0 q ∧ (∀ j, mu_iv w q j = mu_iv w0 q j) ∧ ∀ j, mu_lg w q j = mu_lg w0 q j) ∧ (∀ q, q < a → ∀ j, mu_rv w q j = mu_rv w0 q j) ∧ ∀ q j, a + 1 ≤ q → q < a + 1 + n → mu_iv w q j = 0 ∧ mu_lg w q j = 0
theorem NF.start {w : mu_W} {a : Nat} (h : mu_nx w = a + 1) : NF w a 0 w := ⟨h, fun _ _ => ⟨rfl, fun _ => rfl, fun _ => rfl⟩, fun _ _ _ => rfl, fun q j h1 h2 => by omega⟩
theorem NF.step {w0 w : mu_W} {a n : Nat} (h : NF w0 a n w) (t N k : Nat) : NF w0 a (n + 1) (mu_sr (mu_al w t N) a k (some (mu_nx w))) := by
  obtain ⟨h1, h2, h3, h4⟩ := h
  refine ⟨by rw [mu_nx_sr, mu_nx_al, h1]; omega, fun q hq => ⟨?_, fun j => ?_, fun j => ?_⟩, fun q hq j => ?_, fun q j ha hb => ?_⟩
  · rw [mu_kd_sr, mu_kd_al, if_neg (by omega)]; exact (h2 q hq).1
  · rw [mu_iv_sr, mu_iv_al, if_neg (by omega)]; exact (h2 q hq).2.1 j
  · rw [mu_lg_sr, mu_lg_al, if_neg (by omega)]; exact (h2 q hq).2.2 j
  · rw [mu_rv_sr, if_neg (by omega), mu_rv_al, if_neg (by omega)]; exact h3 q hq j
  · rw [mu_iv_sr, mu_iv_al, mu_lg_sr, mu_lg_al]
    by_cases e : q = mu_nx w
    · rw [if_pos e, if_pos e]; exact ⟨rfl, rfl⟩
    · rw [if_neg e, if_neg e]; exact h4 q j ha (by omega)
theorem NF.kd {w0 w : mu_W} {a n t : Nat} (h : NF w0 a n w) (hk : mu_kd w0 a = some (t, 0)) (u N : Nat) : mu_kd (mu_al w u N) a = some (t, 0) := by rw [mu_kd_al, if_neg (by have := h.1; omega)]; exact (h.2.1 a (by omega)).1.trans hk
/-- the newest array: its reference and its kind; the older ones stay -/
theorem NF.new {w0 w : mu_W} {a n : Nat} (h : NF w0 a n w) (t N k : Nat) : mu_rv (mu_sr (mu_al w t N) a k (some (mu_nx w))) a k = some (a + 1 + n) ∧ mu_kd (mu_sr (mu_al w t N) a k (some (mu_nx w))) (a + 1 + n) = some (t, N) := by
  rw [mu_rv_sr, if_pos ⟨rfl, rfl⟩, mu_kd_sr, mu_kd_al, h.1, if_pos rfl]
  exact ⟨rfl, rfl⟩
theorem NF.old {w0 w : mu_W} {a n : Nat} (h : NF w0 a n w) (t N k : Nat) {k2 m : Nat} (hk : k2 ≠ k) (hm : m < n) {v : Nat × Nat} (h2 : mu_rv w a k2 = some (a + 1 + m) ∧ mu_kd w (a + 1 + m) = some v) : mu_rv (mu_sr (mu_al w t N) a k (some (mu_nx w))) a k2 = some (a + 1 + m) ∧ mu_kd (mu_sr (mu_al w t N) a k (some (mu_nx w))) (a + 1 + m) = some v := by
  have := h.1
  rw [mu_rv_sr, if_neg (fun q => hk q.2), mu_rv_al, if_neg (by omega), mu_kd_sr, mu_kd_al, if_neg (by omega)]
  exact h2

set_option maxHeartbeats 4000000 in
set_option maxRecDepth 100000 in
theorem c_X1_init (G : mu_G) {w : mu_W} {a : Nat} (hk : mu_kd w a = some (1, 0)) (hnx : mu_nx w = a + 1) : mu_Ct G M_X1_init [.ref a] w (fun r w' => r = none ∧ NF w a 2 w' ∧ CFo w' a) := by
  have h0 := NF.start hnx
  refine mu_ofWA G M_X1_init [.ref a] (by decide) rfl (Nat.le_of_ble_eq_true rfl) ?_
  intro X E
  have B : mu_B X G cX1_init RX1 1 (mu_rm M_X1_init) := E.1
  show mu_WA X G 1 _ _ 0 0 0 _ []
  refine mu_al_0 B dX1_init_0 ?_
  refine mu_obj B dX1_init_1 obX1 obi obc ⟨by decide, by decide⟩ (Nat.le_of_ble_eq_true rfl) ?_
  refine mu_al_0 B dX1_init_4 ?_
  refine mu_sipush (v := mI 1024) B dX1_init_5 (by decide) ?_
  refine mu_newm (ka := 1) B dX1_init_8 rfl (by decide) aw_long 1024 rfl (by decide) (by decide) (by decide) (by decide) ?_
  refine mu_putRF B E.2.2.2 dX1_init_10 fX1_9 ffX1_0 rfl rfl (h0.kd hk 101 1024) ?_
  have h1 := h0.step 101 1024 0
  have g0 := h0.new 101 1024 0
  generalize mu_sr (mu_al w 101 1024) a 0 (some (mu_nx w)) = w_1 at h1 g0 ⊢
  refine mu_al_0 B dX1_init_13 ?_
  refine mu_iconst (v := mI 4) B dX1_init_14 rfl ?_
  refine mu_newm (ka := 1) B dX1_init_15 rfl (by decide) aw_long 4 rfl (by decide) (by decide) (by decide) (by decide) ?_
  refine mu_putRF B E.2.2.2 dX1_init_17 fX1_13 ffX1_1 rfl rfl (h1.kd hk 101 4) ?_
  have h2 := h1.step 101 4 1
  have g1 := h1.new 101 4 1
  replace g0 := h1.old 101 4 1 (by decide) (by decide) g0
  generalize mu_sr (mu_al w_1 101 4) a 1 (some (mu_nx w_1)) = w_2 at h2 g0 g1 ⊢
  refine mu_vret E rfl (by decide) (by decide) dX1_init_20 ?_
  exact ⟨rfl, h2, (h2.2.1 a (by omega)).1.trans hk, g0.1, g0.2, g1.1, g1.2⟩

set_option maxHeartbeats 4000000 in
set_option maxRecDepth 100000 in
theorem c_X9_init (G : mu_G) {w : mu_W} {a : Nat} (hk : mu_kd w a = some (9, 0)) (hnx : mu_nx w = a + 1) : mu_Ct G M_X9_init [.ref a] w (fun r w' => r = none ∧ NF w a 3 w' ∧ mu_rv w' a 0 = some (a + 1) ∧ mu_rv w' a 1 = some (a + 2) ∧ mu_rv w' a 2 = some (a + 3) ∧ RW0 w' (a + 1) ∧ RW0 w' (a + 2) ∧ RW0 w' (a + 3)) := by
  have h0 := NF.start hnx
  refine mu_ofWA G M_X9_init [.ref a] (by decide) rfl (Nat.le_of_ble_eq_true rfl) ?_
  intro X E
  have B : mu_B X G cX9_init RX9 1 (mu_rm M_X9_init) := E.1
  show mu_WA X G 1 _ _ 0 0 0 _ []
  refine mu_al_0 B dX9_init_0 ?_
  refine mu_obj B dX9_init_1 obX9 obi obc ⟨by decide, by decide⟩ (Nat.le_of_ble_eq_true rfl) ?_
  refine mu_al_0 B dX9_init_4 ?_
  refine mu_bipush (v := mI 6) B dX9_init_5 (by decide) ?_
  refine mu_newm (ka := 1) B dX9_init_7 rfl (by decide) aw_long 6 rfl (by decide) (by decide) (by decide) (by decide) ?_
  refine mu_putR B dX9_init_9 fX9_9 fwX9_0 rfl rfl (h0.kd hk 101 6) ?_
  have h1 := h0.step 101 6 0
  have g0 := h0.new 101 6 0
  generalize mu_sr (mu_al w 101 6) a 0 (some (mu_nx w)) = w_1 at h1 g0 ⊢
  refine mu_al_0 B dX9_init_12 ?_
  refine mu_bipush (v := mI 6) B dX9_init_13 (by decide) ?_
  refine mu_newm (ka := 1) B dX9_init_15 rfl (by decide) aw_long 6 rfl (by decide) (by decide) (by decide) (by decide) ?_
  refine mu_putR B dX9_init_17 fX9_15 fwX9_1 rfl rfl (h1.kd hk 101 6) ?_
  have h2 := h1.step 101 6 1
  have g1 := h1.new 101 6 1
  replace g0 := h1.old 101 6 1 (by decide) (by decide) g0
  generalize mu_sr (mu_al w_1 101 6) a 1 (some (mu_nx w_1)) = w_2 at h2 g0 g1 ⊢
  refine mu_al_0 B dX9_init_20 ?_
  refine mu_bipush (v := mI 6) B dX9_init_21 (by decide) ?_
  refine mu_newm (ka := 1) B dX9_init_23 rfl (by decide) aw_long 6 rfl (by decide) (by decide) (by decide) (by decide) ?_
  refine mu_putR B dX9_init_25 fX9_18 fwX9_2 rfl rfl (h2.kd hk 101 6) ?_
  have h3 := h2.step 101 6 2
  have g2 := h2.new 101 6 2
  replace g0 := h2.old 101 6 2 (by decide) (by decide) g0
  replace g1 := h2.old 101 6 2 (by decide) (by decide) g1
  generalize mu_sr (mu_al w_2 101 6) a 2 (some (mu_nx w_2)) = w_3 at h3 g0 g1 g2 ⊢
  refine mu_vret E rfl (by decide) (by decide) dX9_init_28 ?_
  exact ⟨rfl, h3, g0.1, g1.1, g2.1, ⟨g0.2, (h3.2.2.2 _ _ (by omega) (by omega)).2, (h3.2.2.2 _ _ (by omega) (by omega)).2⟩, ⟨g1.2, (h3.2.2.2 _ _ (by omega) (by omega)).2, (h3.2.2.2 _ _ (by omega) (by omega)).2⟩, ⟨g2.2, (h3.2.2.2 _ _ (by omega) (by omega)).2, (h3.2.2.2 _ _ (by omega) (by omega)).2⟩⟩

set_option maxHeartbeats 4000000 in
set_option maxRecDepth 100000 in
theorem c_X8_init (G : mu_G) {w : mu_W} {a : Nat} (hk : mu_kd w a = some (8, 0)) (hnx : mu_nx w = a + 1) : mu_Ct G M_X8_init [.ref a] w (fun r w' => r = none ∧ NF w a 3 w' ∧ (mu_rv w' a 0 = some (a + 1) ∧ mu_kd w' (a + 1) = some (100, 4096)) ∧ (mu_rv w' a 1 = some (a + 2) ∧ mu_kd w' (a + 2) = some (101, 8192)) ∧ (mu_rv w' a 2 = some (a + 3) ∧ mu_kd w' (a + 3) = some (100, 8192))) := by
  have h0 := NF.start hnx
  refine mu_ofWA G M_X8_init [.ref a] (by decide) rfl (Nat.le_of_ble_eq_true rfl) ?_
  intro X E
  have B : mu_B X G cX8_init RX8 1 (mu_rm M_X8_init) := E.1
  show mu_WA X G 1 _ _ 0 0 0 _ []
  refine mu_al_0 B dX8_init_0 ?_
  refine mu_obj B dX8_init_1 obX8 obi obc ⟨by decide, by decide⟩ (Nat.le_of_ble_eq_true rfl) ?_
  refine mu_al_0 B dX8_init_4 ?_
  refine mu_sipush (v := mI 4096) B dX8_init_5 (by decide) ?_
  refine mu_newm (ka := 0) B dX8_init_8 rfl (by decide) aw_int 4096 rfl (by decide) (by decide) (by decide) (by decide) ?_
  refine mu_putRF B E.2.2.2 dX8_init_10 fX8_9 ffX8_0 rfl rfl (h0.kd hk 100 4096) ?_
  have h1 := h0.step 100 4096 0
  have g0 := h0.new 100 4096 0
  generalize mu_sr (mu_al w 100 4096) a 0 (some (mu_nx w)) = w_1 at h1 g0 ⊢
  refine mu_al_0 B dX8_init_13 ?_
  refine mu_sipush (v := mI 8192) B dX8_init_14 (by decide) ?_
  refine mu_newm (ka := 1) B dX8_init_17 rfl (by decide) aw_long 8192 rfl (by decide) (by decide) (by decide) (by decide) ?_
  refine mu_putRF B E.2.2.2 dX8_init_19 fX8_13 ffX8_1 rfl rfl (h1.kd hk 101 8192) ?_
  have h2 := h1.step 101 8192 1
  have g1 := h1.new 101 8192 1
  replace g0 := h1.old 101 8192 1 (by decide) (by decide) g0
  generalize mu_sr (mu_al w_1 101 8192) a 1 (some (mu_nx w_1)) = w_2 at h2 g0 g1 ⊢
  refine mu_al_0 B dX8_init_22 ?_
  refine mu_sipush (v := mI 8192) B dX8_init_23 (by decide) ?_
  refine mu_newm (ka := 0) B dX8_init_26 rfl (by decide) aw_int 8192 rfl (by decide) (by decide) (by decide) (by decide) ?_
  refine mu_putRF B E.2.2.2 dX8_init_28 fX8_17 ffX8_2 rfl rfl (h2.kd hk 100 8192) ?_
  have h3 := h2.step 100 8192 2
  have g2 := h2.new 100 8192 2
  replace g0 := h2.old 100 8192 2 (by decide) (by decide) g0
  replace g1 := h2.old 100 8192 2 (by decide) (by decide) g1
  generalize mu_sr (mu_al w_2 100 8192) a 2 (some (mu_nx w_2)) = w_3 at h3 g0 g1 g2 ⊢
  refine mu_vret E rfl (by decide) (by decide) dX8_init_31 ?_
  exact ⟨rfl, h3, g0, g1, g2⟩
