/-! ===== the class's constructor ===== -/
theorem smc.trans {w1 w2 w3 : mu_W} {q : Nat} (h : smc w1 w2 q) (g : smc w2 w3 q) : smc w1 w3 q := ⟨g.1.trans h.1, fun j => (g.2.1 j).trans (h.2.1 j), fun j => (g.2.2.1 j).trans (h.2.2.1 j), fun j => (g.2.2.2 j).trans (h.2.2.2 j)⟩
theorem sr_smc (w : mu_W) {o k q : Nat} {x : Option Nat} (hq : q ≠ o) : smc w (mu_sr w o k x) q := ⟨rfl, fun _ => rfl, fun _ => rfl, fun j => by rw [mu_rv_sr, if_neg (fun h => hq h.1)]⟩
/-- a part laid behind what stands, its reference stored at o's field f -/
def LSx (w0 w w3 : mu_W) (o n n' f : Nat) : Prop := NF w0 o n' w3 ∧ (∀ q, o < q → q < o + 1 + n → smc w w3 q) ∧ mu_rv w3 o f = some (o + 1 + n) ∧ ∀ j, j ≠ f → mu_rv w3 o j = mu_rv w o j
theorem LSx.obj {w0 w w2 : mu_W} {o n k t : Nat} (h : NF w0 o n w) (h2 : NF (mu_al w t 0) (o + 1 + n) k w2) (f : Nat) : LSx w0 w (mu_sr w2 o f (some (o + 1 + n))) o n (n + 1 + k) f := by
  have hn := h.1
  have A : ∀ q, q ≠ mu_nx w → smc w (mu_al w t 0) q := fun q hq => ⟨by rw [mu_kd_al, if_neg hq], fun j => by rw [mu_iv_al, if_neg hq], fun j => by rw [mu_lg_al, if_neg hq], fun j => by rw [mu_rv_al, if_neg hq]⟩
  have B1 : ∀ q, q < o + 1 + n → smc (mu_al w t 0) w2 q := fun q hq => ⟨(h2.2.1 q (by omega)).1, (h2.2.1 q (by omega)).2.1, (h2.2.1 q (by omega)).2.2, h2.2.2.1 q hq⟩
  have D : ∀ q, q < o + 1 + n → smc w w2 q := fun q hq => (A q (by omega)).trans (B1 q hq)
  refine ⟨⟨by rw [mu_nx_sr, h2.1]; omega, fun q hq => ?_, fun q hq j => ?_, fun q j h3 h4 => ?_⟩, fun q l1 l2 => (D q l2).trans (sr_smc w2 (by omega)), by rw [mu_rv_sr, if_pos ⟨rfl, rfl⟩], fun j hj => ?_⟩
  · have d := D q (by omega)
    exact ⟨d.1.trans (h.2.1 q hq).1, fun j => (d.2.1 j).trans ((h.2.1 q hq).2.1 j), fun j => (d.2.2.1 j).trans ((h.2.1 q hq).2.2 j)⟩
  · rw [mu_rv_sr, if_neg (by omega)]
    exact ((D q (by omega)).2.2.2 j).trans (h.2.2.1 q hq j)
  · rw [mu_iv_sr, mu_lg_sr]
    rcases Nat.lt_trichotomy q (o + 1 + n) with l | l | l
    · have d := D q l
      rw [d.2.1 j, d.2.2.1 j]
      exact h.2.2.2 q j h3 l
    · rw [(h2.2.1 q (by omega)).2.1 j, (h2.2.1 q (by omega)).2.2 j, mu_iv_al, mu_lg_al, if_pos (by omega), if_pos (by omega)]
      exact ⟨rfl, rfl⟩
    · exact h2.2.2.2 q j (by omega) (by omega)
  · rw [mu_rv_sr, if_neg (fun q => hj q.2)]
    exact (D o (by omega)).2.2.2 j
theorem LSx.arr {w0 w : mu_W} {o n : Nat} (h : NF w0 o n w) (t N f : Nat) : LSx w0 w (mu_sr (mu_al w t N) o f (some (o + 1 + n))) o n (n + 1) f ∧ mu_kd (mu_sr (mu_al w t N) o f (some (o + 1 + n))) (o + 1 + n) = some (t, N) ∧ ∀ j, mu_rv (mu_sr (mu_al w t N) o f (some (o + 1 + n))) (o + 1 + n) j = none := by
  have hn := h.1
  have A : ∀ q, q ≠ mu_nx w → smc w (mu_al w t N) q := fun q hq => ⟨by rw [mu_kd_al, if_neg hq], fun j => by rw [mu_iv_al, if_neg hq], fun j => by rw [mu_lg_al, if_neg hq], fun j => by rw [mu_rv_al, if_neg hq]⟩
  have hs := h.step t N f
  rw [hn] at hs
  exact ⟨⟨hs, fun q l1 l2 => (A q (by omega)).trans (sr_smc _ (by omega)), by rw [mu_rv_sr, if_pos ⟨rfl, rfl⟩], fun j hj => by rw [mu_rv_sr, if_neg (fun q => hj q.2)]; exact (A o (by omega)).2.2.2 j⟩, by rw [mu_kd_sr, mu_kd_al, if_pos hn.symm], fun j => by rw [mu_rv_sr, if_neg (by omega), mu_rv_al, if_pos hn.symm]⟩
theorem CBo.sm {w w' : mu_W} {a : Nat} (h : CBo w a) (hs : ∀ q, a ≤ q → q ≤ a + 6 → smc w w' q) : CBo w' a := ⟨(hs a (by omega) (by omega)).1.trans h.1, ((hs a (by omega) (by omega)).2.2.2 0).trans h.2.1, (hs _ (by omega) (by omega)).1.trans h.2.2.1, fun p hp => ⟨((hs (a + 1) (by omega) (by omega)).2.2.2 p).trans (h.2.2.2.1 p hp).1, (hs _ (by omega) (by omega)).1.trans (h.2.2.2.1 p hp).2⟩, ((hs a (by omega) (by omega)).2.2.2 1).trans h.2.2.2.2.1, (hs _ (by omega) (by omega)).1.trans h.2.2.2.2.2⟩
theorem CQo.sm {w w' : mu_W} {a : Nat} (h : CQo w a) (hs : ∀ q, a ≤ q → q ≤ a + 3 → smc w w' q) : CQo w' a := ⟨(hs a (by omega) (by omega)).1.trans h.1, ⟨((hs a (by omega) (by omega)).2.2.2 0).trans h.2.1.1, (hs _ (by omega) (by omega)).1.trans h.2.1.2⟩, ⟨((hs a (by omega) (by omega)).2.2.2 1).trans h.2.2.1.1, (hs _ (by omega) (by omega)).1.trans h.2.2.1.2⟩, ((hs a (by omega) (by omega)).2.2.2 2).trans h.2.2.2.1, (hs _ (by omega) (by omega)).1.trans h.2.2.2.2⟩
theorem CSo.sm {w w' : mu_W} {a : Nat} (h : CSo w a) (hs : ∀ q, a ≤ q → q ≤ a + 7 → smc w w' q) : CSo w' a := by
  obtain ⟨h0, ⟨h1, h2⟩, ⟨h3, h4⟩, ⟨h5, h6⟩, ⟨h7, h8⟩, ⟨h9, h10⟩, ⟨h11, h12⟩, h13, h14⟩ := h
  have V : ∀ {j : Nat} {v : Option Nat}, mu_rv w a j = v → mu_rv w' a j = v := fun {j v} z => ((hs a (by omega) (by omega)).2.2.2 j).trans z
  have K : ∀ {q : Nat} {v : Option (Nat × Nat)}, mu_kd w q = v → a ≤ q → q ≤ a + 7 → mu_kd w' q = v := fun z l1 l2 => (hs _ l1 l2).1.trans z
  exact ⟨K h0 (by omega) (by omega), ⟨V h1, K h2 (by omega) (by omega)⟩, ⟨V h3, K h4 (by omega) (by omega)⟩, ⟨V h5, K h6 (by omega) (by omega)⟩, ⟨V h7, K h8 (by omega) (by omega)⟩, ⟨V h9, K h10 (by omega) (by omega)⟩, ⟨V h11, K h12 (by omega) (by omega)⟩, V h13, K h14 (by omega) (by omega)⟩

set_option maxHeartbeats 4000000 in
set_option maxRecDepth 100000 in
theorem c_X11_init (G : mu_G) {w : mu_W} {o : Nat} (hk : mu_kd w o = some (11, 0)) (hnx : mu_nx w = o + 1) : mu_Ct G M_X11_init [.ref o] w (fun r w' => r = none ∧ NF w o 34 w' ∧ CMo w' o ∧ (mu_rv w' (o + 1) 0 = some (o + 2) ∧ mu_kd w' (o + 2) = some (102, 2000)) ∧ ∀ q j, (q = o + 13 ∨ q = o + 14) → mu_rv w' q j = none) := by
  have hN0 := NF.start hnx
  refine mu_ofWA G M_X11_init [.ref o] (by decide) rfl (Nat.le_of_ble_eq_true rfl) ?_
  intro X E
  have B : mu_B X G cX11_init RX11 1 (mu_rm M_X11_init) := E.1
  show mu_WA X G 1 _ _ 0 0 0 _ []
  refine mu_al_0 B dX11_init_0 ?_
  refine mu_obj B dX11_init_1 obX11 obi obc ⟨by decide, by decide⟩ (Nat.le_of_ble_eq_true rfl) ?_
  refine mu_al_0 B dX11_init_4 ?_
  refine mu_new B dX11_init_5 cfX10 nlX11_7 niX10 ndX10 (by decide) (by decide) ?_
  rw [hN0.1]
  have hk1 : mu_kd (mu_al w 10 0) (o + 1 + 0) = some (10, 0) := by rw [mu_kd_al, if_pos hN0.1.symm]
  have hn1 : mu_nx (mu_al w 10 0) = (o + 1 + 0) + 1 := by rw [mu_nx_al, hN0.1]
  refine mu_dup B dX11_init_8 rfl ?_
  refine mu_cN0 B dX11_init_9 mX11_9 ⟨⟨by decide, by decide⟩, by decide, by decide⟩ (Nat.le_of_ble_eq_true rfl) (c_X10_init G hk1 hn1) (fun r9 w9 q9 => ?_)
  obtain ⟨rfl, hM1, hP11a, hP11b, hP11c⟩ := q9
  show mu_WA X G 1 _ _ _ _ 12 _ [.ref (o + 1 + 0), .ref o]
  refine mu_putRF B E.2.2.2 dX11_init_12 fX11_10 ffX11_0 rfl rfl ((hM1.2.1 o (by omega)).1.trans (by rw [mu_kd_al, if_neg (by have := hN0.1; omega)]; exact (hN0.2.1 o (by omega)).1.trans hk)) ?_
  have hL1 := LSx.obj hN0 hM1 0
  have hS1 : ∀ q, q ≠ o → smc w9 (mu_sr w9 o 0 (some (o + 1 + 0))) q := fun q hq => sr_smc _ hq
  generalize mu_sr w9 o 0 (some (o + 1 + 0)) = v_1 at hL1 hS1 ⊢
  have hN1 := hL1.1
  refine mu_al_0 B dX11_init_15 ?_
  refine mu_new B dX11_init_16 cfX5 nlX11_16 niX5 ndX5 (by decide) (by decide) ?_
  rw [hN1.1]
  have hk2 : mu_kd (mu_al v_1 5 0) (o + 1 + 2) = some (5, 0) := by rw [mu_kd_al, if_pos hN1.1.symm]
  have hn2 : mu_nx (mu_al v_1 5 0) = (o + 1 + 2) + 1 := by rw [mu_nx_al, hN1.1]
  refine mu_dup B dX11_init_19 rfl ?_
  refine mu_cN0 B dX11_init_20 mX11_18 ⟨⟨by decide, by decide⟩, by decide, by decide⟩ (Nat.le_of_ble_eq_true rfl) (c_X5_init G) (fun r20 w20 q20 => ?_)
  obtain ⟨rfl, hw2⟩ := q20
  subst hw2
  have hM2 := NF.start hn2
  show mu_WA X G 1 _ _ _ _ 23 _ [.ref (o + 1 + 2), .ref o]
  refine mu_putRF B E.2.2.2 dX11_init_23 fX11_19 ffX11_1 rfl rfl ((hM2.2.1 o (by omega)).1.trans (by rw [mu_kd_al, if_neg (by have := hN1.1; omega)]; exact (hN1.2.1 o (by omega)).1.trans hk)) ?_
  have hL2 := LSx.obj hN1 hM2 1
  have hS2 : ∀ q, q ≠ o → smc (mu_al v_1 5 0) (mu_sr (mu_al v_1 5 0) o 1 (some (o + 1 + 2))) q := fun q hq => sr_smc _ hq
  generalize mu_sr (mu_al v_1 5 0) o 1 (some (o + 1 + 2)) = v_2 at hL2 hS2 ⊢
  have hN2 := hL2.1
  refine mu_al_0 B dX11_init_26 ?_
  refine mu_new B dX11_init_27 cfX6 nlX11_23 niX6 ndX6 (by decide) (by decide) ?_
  rw [hN2.1]
  have hk3 : mu_kd (mu_al v_2 6 0) (o + 1 + 3) = some (6, 0) := by rw [mu_kd_al, if_pos hN2.1.symm]
  have hn3 : mu_nx (mu_al v_2 6 0) = (o + 1 + 3) + 1 := by rw [mu_nx_al, hN2.1]
  refine mu_dup B dX11_init_30 rfl ?_
  refine mu_cN0 B dX11_init_31 mX11_25 ⟨⟨by decide, by decide⟩, by decide, by decide⟩ (Nat.le_of_ble_eq_true rfl) (c_X6_init G) (fun r31 w31 q31 => ?_)
  obtain ⟨rfl, hw3⟩ := q31
  subst hw3
  have hM3 := NF.start hn3
  show mu_WA X G 1 _ _ _ _ 34 _ [.ref (o + 1 + 3), .ref o]
  refine mu_putRF B E.2.2.2 dX11_init_34 fX11_26 ffX11_2 rfl rfl ((hM3.2.1 o (by omega)).1.trans (by rw [mu_kd_al, if_neg (by have := hN2.1; omega)]; exact (hN2.2.1 o (by omega)).1.trans hk)) ?_
  have hL3 := LSx.obj hN2 hM3 2
  have hS3 : ∀ q, q ≠ o → smc (mu_al v_2 6 0) (mu_sr (mu_al v_2 6 0) o 2 (some (o + 1 + 3))) q := fun q hq => sr_smc _ hq
  generalize mu_sr (mu_al v_2 6 0) o 2 (some (o + 1 + 3)) = v_3 at hL3 hS3 ⊢
  have hN3 := hL3.1
  refine mu_al_0 B dX11_init_37 ?_
  refine mu_new B dX11_init_38 cfX0 nlX11_30 niX0 ndX0 (by decide) (by decide) ?_
  rw [hN3.1]
  have hk4 : mu_kd (mu_al v_3 0 0) (o + 1 + 4) = some (0, 0) := by rw [mu_kd_al, if_pos hN3.1.symm]
  have hn4 : mu_nx (mu_al v_3 0 0) = (o + 1 + 4) + 1 := by rw [mu_nx_al, hN3.1]
  refine mu_dup B dX11_init_41 rfl ?_
  refine mu_cN0 B dX11_init_42 mX11_32 ⟨⟨by decide, by decide⟩, by decide, by decide⟩ (Nat.le_of_ble_eq_true rfl) (c_X0_init G hk4 hn4) (fun r42 w42 q42 => ?_)
  obtain ⟨rfl, hM4, hP4⟩ := q42
  show mu_WA X G 1 _ _ _ _ 45 _ [.ref (o + 1 + 4), .ref o]
  refine mu_putRF B E.2.2.2 dX11_init_45 fX11_33 ffX11_3 rfl rfl ((hM4.2.1 o (by omega)).1.trans (by rw [mu_kd_al, if_neg (by have := hN3.1; omega)]; exact (hN3.2.1 o (by omega)).1.trans hk)) ?_
  have hL4 := LSx.obj hN3 hM4 3
  have hS4 : ∀ q, q ≠ o → smc w42 (mu_sr w42 o 3 (some (o + 1 + 4))) q := fun q hq => sr_smc _ hq
  generalize mu_sr w42 o 3 (some (o + 1 + 4)) = v_4 at hL4 hS4 ⊢
  have hN4 := hL4.1
  refine mu_al_0 B dX11_init_48 ?_
  refine mu_bipush (v := mI 16) B dX11_init_49 (by decide) ?_
  refine mu_anew (t := 4) B dX11_init_51 rfl (by decide) nlX11_37 ao_X4 16 (by decide) (by decide) (by decide) ?_
  rw [hN4.1]
  refine mu_putRF B E.2.2.2 dX11_init_54 fX11_39 ffX11_4 rfl rfl (by rw [mu_kd_al, if_neg (by have := hN4.1; omega)]; exact (hN4.2.1 o (by omega)).1.trans hk) ?_
  obtain ⟨hL5, hA5, hB5⟩ := LSx.arr hN4 104 16 4
  generalize mu_sr (mu_al v_4 104 16) o 4 (some (o + 1 + 11)) = v_5 at hL5 hA5 hB5 ⊢
  have hN5 := hL5.1
  refine mu_al_0 B dX11_init_57 ?_
  refine mu_bipush (v := mI 8) B dX11_init_58 (by decide) ?_
  refine mu_anew (t := 5) B dX11_init_60 rfl (by decide) nlX11_43 ao_X1 8 (by decide) (by decide) (by decide) ?_
  rw [hN5.1]
  refine mu_putRF B E.2.2.2 dX11_init_63 fX11_45 ffX11_6 rfl rfl (by rw [mu_kd_al, if_neg (by have := hN5.1; omega)]; exact (hN5.2.1 o (by omega)).1.trans hk) ?_
  obtain ⟨hL6, hA6, hB6⟩ := LSx.arr hN5 105 8 6
  generalize mu_sr (mu_al v_5 105 8) o 6 (some (o + 1 + 12)) = v_6 at hL6 hA6 hB6 ⊢
  have hN6 := hL6.1
  refine mu_al_0 B dX11_init_66 ?_
  refine mu_bipush (v := mI 8) B dX11_init_67 (by decide) ?_
  refine mu_anew (t := 6) B dX11_init_69 rfl (by decide) nlX11_49 ao_X3 8 (by decide) (by decide) (by decide) ?_
  rw [hN6.1]
  refine mu_putRF B E.2.2.2 dX11_init_72 fX11_51 ffX11_8 rfl rfl (by rw [mu_kd_al, if_neg (by have := hN6.1; omega)]; exact (hN6.2.1 o (by omega)).1.trans hk) ?_
  obtain ⟨hL7, hA7, hB7⟩ := LSx.arr hN6 106 8 8
  generalize mu_sr (mu_al v_6 106 8) o 8 (some (o + 1 + 13)) = v_7 at hL7 hA7 hB7 ⊢
  have hN7 := hL7.1
  refine mu_al_0 B dX11_init_75 ?_
  refine mu_new B dX11_init_76 cfX9 nlX11_55 niX9 ndX9 (by decide) (by decide) ?_
  rw [hN7.1]
  have hk8 : mu_kd (mu_al v_7 9 0) (o + 1 + 14) = some (9, 0) := by rw [mu_kd_al, if_pos hN7.1.symm]
  have hn8 : mu_nx (mu_al v_7 9 0) = (o + 1 + 14) + 1 := by rw [mu_nx_al, hN7.1]
  refine mu_dup B dX11_init_79 rfl ?_
  refine mu_cN0 B dX11_init_80 mX11_57 ⟨⟨by decide, by decide⟩, by decide, by decide⟩ (Nat.le_of_ble_eq_true rfl) (c_X9_init G hk8 hn8) (fun r80 w80 q80 => ?_)
  obtain ⟨rfl, hM8, hP8a, hP8b, hP8c, hP8d, hP8e, hP8f⟩ := q80
  show mu_WA X G 1 _ _ _ _ 83 _ [.ref (o + 1 + 14), .ref o]
  refine mu_putRF B E.2.2.2 dX11_init_83 fX11_58 ffX11_10 rfl rfl ((hM8.2.1 o (by omega)).1.trans (by rw [mu_kd_al, if_neg (by have := hN7.1; omega)]; exact (hN7.2.1 o (by omega)).1.trans hk)) ?_
  have hL8 := LSx.obj hN7 hM8 10
  have hS8 : ∀ q, q ≠ o → smc w80 (mu_sr w80 o 10 (some (o + 1 + 14))) q := fun q hq => sr_smc _ hq
  generalize mu_sr w80 o 10 (some (o + 1 + 14)) = v_8 at hL8 hS8 ⊢
  have hN8 := hL8.1
  refine mu_al_0 B dX11_init_86 ?_
  refine mu_new B dX11_init_87 cfX1 nlX11_43 niX1 ndX1 (by decide) (by decide) ?_
  rw [hN8.1]
  have hk9 : mu_kd (mu_al v_8 1 0) (o + 1 + 18) = some (1, 0) := by rw [mu_kd_al, if_pos hN8.1.symm]
  have hn9 : mu_nx (mu_al v_8 1 0) = (o + 1 + 18) + 1 := by rw [mu_nx_al, hN8.1]
  refine mu_dup B dX11_init_90 rfl ?_
  refine mu_cN0 B dX11_init_91 mX11_62 ⟨⟨by decide, by decide⟩, by decide, by decide⟩ (Nat.le_of_ble_eq_true rfl) (c_X1_init G hk9 hn9) (fun r91 w91 q91 => ?_)
  obtain ⟨rfl, hM9, hP9⟩ := q91
  show mu_WA X G 1 _ _ _ _ 94 _ [.ref (o + 1 + 18), .ref o]
  refine mu_putRF B E.2.2.2 dX11_init_94 fX11_63 ffX11_11 rfl rfl ((hM9.2.1 o (by omega)).1.trans (by rw [mu_kd_al, if_neg (by have := hN8.1; omega)]; exact (hN8.2.1 o (by omega)).1.trans hk)) ?_
  have hL9 := LSx.obj hN8 hM9 11
  have hS9 : ∀ q, q ≠ o → smc w91 (mu_sr w91 o 11 (some (o + 1 + 18))) q := fun q hq => sr_smc _ hq
  generalize mu_sr w91 o 11 (some (o + 1 + 18)) = v_9 at hL9 hS9 ⊢
  have hN9 := hL9.1
  refine mu_al_0 B dX11_init_97 ?_
  refine mu_new B dX11_init_98 cfX8 nlX11_67 niX8 ndX8 (by decide) (by decide) ?_
  rw [hN9.1]
  have hk10 : mu_kd (mu_al v_9 8 0) (o + 1 + 21) = some (8, 0) := by rw [mu_kd_al, if_pos hN9.1.symm]
  have hn10 : mu_nx (mu_al v_9 8 0) = (o + 1 + 21) + 1 := by rw [mu_nx_al, hN9.1]
  refine mu_dup B dX11_init_101 rfl ?_
  refine mu_cN0 B dX11_init_102 mX11_69 ⟨⟨by decide, by decide⟩, by decide, by decide⟩ (Nat.le_of_ble_eq_true rfl) (c_X8_init G hk10 hn10) (fun r102 w102 q102 => ?_)
  obtain ⟨rfl, hM10, hP10a, hP10b, hP10c⟩ := q102
  show mu_WA X G 1 _ _ _ _ 105 _ [.ref (o + 1 + 21), .ref o]
  refine mu_putRF B E.2.2.2 dX11_init_105 fX11_70 ffX11_12 rfl rfl ((hM10.2.1 o (by omega)).1.trans (by rw [mu_kd_al, if_neg (by have := hN9.1; omega)]; exact (hN9.2.1 o (by omega)).1.trans hk)) ?_
  have hL10 := LSx.obj hN9 hM10 12
  have hS10 : ∀ q, q ≠ o → smc w102 (mu_sr w102 o 12 (some (o + 1 + 21))) q := fun q hq => sr_smc _ hq
  generalize mu_sr w102 o 12 (some (o + 1 + 21)) = v_10 at hL10 hS10 ⊢
  have hN10 := hL10.1
  refine mu_al_0 B dX11_init_108 ?_
  refine mu_new B dX11_init_109 cfX2 nlX11_74 niX2 ndX2 (by decide) (by decide) ?_
  rw [hN10.1]
  have hk11 : mu_kd (mu_al v_10 2 0) (o + 1 + 25) = some (2, 0) := by rw [mu_kd_al, if_pos hN10.1.symm]
  have hn11 : mu_nx (mu_al v_10 2 0) = (o + 1 + 25) + 1 := by rw [mu_nx_al, hN10.1]
  refine mu_dup B dX11_init_112 rfl ?_
  refine mu_cN0 B dX11_init_113 mX11_76 ⟨⟨by decide, by decide⟩, by decide, by decide⟩ (Nat.le_of_ble_eq_true rfl) (c_X2_init G) (fun r113 w113 q113 => ?_)
  obtain ⟨rfl, hw11⟩ := q113
  subst hw11
  have hM11 := NF.start hn11
  show mu_WA X G 1 _ _ _ _ 116 _ [.ref (o + 1 + 25), .ref o]
  refine mu_putRF B E.2.2.2 dX11_init_116 fX11_77 ffX11_13 rfl rfl ((hM11.2.1 o (by omega)).1.trans (by rw [mu_kd_al, if_neg (by have := hN10.1; omega)]; exact (hN10.2.1 o (by omega)).1.trans hk)) ?_
  have hL11 := LSx.obj hN10 hM11 13
  have hS11 : ∀ q, q ≠ o → smc (mu_al v_10 2 0) (mu_sr (mu_al v_10 2 0) o 13 (some (o + 1 + 25))) q := fun q hq => sr_smc _ hq
  generalize mu_sr (mu_al v_10 2 0) o 13 (some (o + 1 + 25)) = v_11 at hL11 hS11 ⊢
  have hN11 := hL11.1
  refine mu_al_0 B dX11_init_119 ?_
  refine mu_new B dX11_init_120 cfX7 nlX11_81 niX7 ndX7 (by decide) (by decide) ?_
  rw [hN11.1]
  have hk12 : mu_kd (mu_al v_11 7 0) (o + 1 + 26) = some (7, 0) := by rw [mu_kd_al, if_pos hN11.1.symm]
  have hn12 : mu_nx (mu_al v_11 7 0) = (o + 1 + 26) + 1 := by rw [mu_nx_al, hN11.1]
  refine mu_dup B dX11_init_123 rfl ?_
  refine mu_cN0 B dX11_init_124 mX11_83 ⟨⟨by decide, by decide⟩, by decide, by decide⟩ (Nat.le_of_ble_eq_true rfl) (c_X7_init G hk12 hn12) (fun r124 w124 q124 => ?_)
  obtain ⟨rfl, hM12, hP12⟩ := q124
  show mu_WA X G 1 _ _ _ _ 127 _ [.ref (o + 1 + 26), .ref o]
  refine mu_putRF B E.2.2.2 dX11_init_127 fX11_84 ffX11_14 rfl rfl ((hM12.2.1 o (by omega)).1.trans (by rw [mu_kd_al, if_neg (by have := hN11.1; omega)]; exact (hN11.2.1 o (by omega)).1.trans hk)) ?_
  have hL12 := LSx.obj hN11 hM12 14
  have hS12 : ∀ q, q ≠ o → smc w124 (mu_sr w124 o 14 (some (o + 1 + 26))) q := fun q hq => sr_smc _ hq
  generalize mu_sr w124 o 14 (some (o + 1 + 26)) = v_12 at hL12 hS12 ⊢
  have hN12 := hL12.1
  refine mu_vret E rfl (by decide) (by decide) dX11_init_130 ?_
  have T12 : ∀ q, o < q → q < o + 35 → smc v_12 v_12 q := fun q _ _ => smc.refl _ q
  have T11 : ∀ q, o < q → q < o + 1 + 26 → smc v_11 v_12 q := fun q l1 l2 => (hL12.2.1 q l1 l2).trans (T12 q l1 (by omega))
  have T10 : ∀ q, o < q → q < o + 1 + 25 → smc v_10 v_12 q := fun q l1 l2 => (hL11.2.1 q l1 l2).trans (T11 q l1 (by omega))
  have T9 : ∀ q, o < q → q < o + 1 + 21 → smc v_9 v_12 q := fun q l1 l2 => (hL10.2.1 q l1 l2).trans (T10 q l1 (by omega))
  have T8 : ∀ q, o < q → q < o + 1 + 18 → smc v_8 v_12 q := fun q l1 l2 => (hL9.2.1 q l1 l2).trans (T9 q l1 (by omega))
  have T7 : ∀ q, o < q → q < o + 1 + 14 → smc v_7 v_12 q := fun q l1 l2 => (hL8.2.1 q l1 l2).trans (T8 q l1 (by omega))
  have T6 : ∀ q, o < q → q < o + 1 + 13 → smc v_6 v_12 q := fun q l1 l2 => (hL7.2.1 q l1 l2).trans (T7 q l1 (by omega))
  have T5 : ∀ q, o < q → q < o + 1 + 12 → smc v_5 v_12 q := fun q l1 l2 => (hL6.2.1 q l1 l2).trans (T6 q l1 (by omega))
  have T4 : ∀ q, o < q → q < o + 1 + 11 → smc v_4 v_12 q := fun q l1 l2 => (hL5.2.1 q l1 l2).trans (T5 q l1 (by omega))
  have T3 : ∀ q, o < q → q < o + 1 + 4 → smc v_3 v_12 q := fun q l1 l2 => (hL4.2.1 q l1 l2).trans (T4 q l1 (by omega))
  have T2 : ∀ q, o < q → q < o + 1 + 3 → smc v_2 v_12 q := fun q l1 l2 => (hL3.2.1 q l1 l2).trans (T3 q l1 (by omega))
  have T1 : ∀ q, o < q → q < o + 1 + 2 → smc v_1 v_12 q := fun q l1 l2 => (hL2.2.1 q l1 l2).trans (T2 q l1 (by omega))
  have k12 := (hN12.2.1 o (by omega)).1.trans hk
  have x12 := hN12.1
  have U4 : ∀ q, o + 5 ≤ q → q ≤ o + 11 → smc w42 v_12 q := (fun q l1 l2 => (hS4 q (by omega)).trans (T4 q (by omega) (by omega)))
  have U8 : ∀ q, o + 15 ≤ q → q ≤ o + 18 → smc w80 v_12 q := (fun q l1 l2 => (hS8 q (by omega)).trans (T8 q (by omega) (by omega)))
  have U9 : ∀ q, o + 19 ≤ q → q ≤ o + 21 → smc w91 v_12 q := (fun q l1 l2 => (hS9 q (by omega)).trans (T9 q (by omega) (by omega)))
  have U10 : ∀ q, o + 22 ≤ q → q ≤ o + 25 → smc w102 v_12 q := (fun q l1 l2 => (hS10 q (by omega)).trans (T10 q (by omega) (by omega)))
  have U12 : ∀ q, o + 27 ≤ q → q ≤ o + 34 → smc w124 v_12 q := (fun q l1 l2 => (hS12 q (by omega)).trans (T12 q (by omega) (by omega)))
  have hst : CSt w80 (o + 15) := ⟨o + 15 + 1, o + 15 + 2, o + 15 + 3, ⟨by unfold E3; omega, (hM8.2.1 _ (by omega)).1.trans hk8, hP8a, hP8b, hP8c⟩, hP8d, hP8e, hP8f⟩
  have hqo : CQo w102 (o + 22) := ⟨(hM10.2.1 _ (by omega)).1.trans hk10, hP10a, hP10b, hP10c⟩
  refine ⟨rfl, hN12, ⟨k12, by omega, ⟨(hL12.2.2.2 0 (by decide)).trans ((hL11.2.2.2 0 (by decide)).trans ((hL10.2.2.2 0 (by decide)).trans ((hL9.2.2.2 0 (by decide)).trans ((hL8.2.2.2 0 (by decide)).trans ((hL7.2.2.2 0 (by decide)).trans ((hL6.2.2.2 0 (by decide)).trans ((hL5.2.2.2 0 (by decide)).trans ((hL4.2.2.2 0 (by decide)).trans ((hL3.2.2.2 0 (by decide)).trans ((hL2.2.2.2 0 (by decide)).trans (hL1.2.2.1))))))))))), (hL12.2.2.2 1 (by decide)).trans ((hL11.2.2.2 1 (by decide)).trans ((hL10.2.2.2 1 (by decide)).trans ((hL9.2.2.2 1 (by decide)).trans ((hL8.2.2.2 1 (by decide)).trans ((hL7.2.2.2 1 (by decide)).trans ((hL6.2.2.2 1 (by decide)).trans ((hL5.2.2.2 1 (by decide)).trans ((hL4.2.2.2 1 (by decide)).trans ((hL3.2.2.2 1 (by decide)).trans (hL2.2.2.1)))))))))), (hL12.2.2.2 2 (by decide)).trans ((hL11.2.2.2 2 (by decide)).trans ((hL10.2.2.2 2 (by decide)).trans ((hL9.2.2.2 2 (by decide)).trans ((hL8.2.2.2 2 (by decide)).trans ((hL7.2.2.2 2 (by decide)).trans ((hL6.2.2.2 2 (by decide)).trans ((hL5.2.2.2 2 (by decide)).trans ((hL4.2.2.2 2 (by decide)).trans (hL3.2.2.1))))))))), (hL12.2.2.2 3 (by decide)).trans ((hL11.2.2.2 3 (by decide)).trans ((hL10.2.2.2 3 (by decide)).trans ((hL9.2.2.2 3 (by decide)).trans ((hL8.2.2.2 3 (by decide)).trans ((hL7.2.2.2 3 (by decide)).trans ((hL6.2.2.2 3 (by decide)).trans ((hL5.2.2.2 3 (by decide)).trans (hL4.2.2.1)))))))), (hL12.2.2.2 4 (by decide)).trans ((hL11.2.2.2 4 (by decide)).trans ((hL10.2.2.2 4 (by decide)).trans ((hL9.2.2.2 4 (by decide)).trans ((hL8.2.2.2 4 (by decide)).trans ((hL7.2.2.2 4 (by decide)).trans ((hL6.2.2.2 4 (by decide)).trans (hL5.2.2.1))))))), (hL12.2.2.2 6 (by decide)).trans ((hL11.2.2.2 6 (by decide)).trans ((hL10.2.2.2 6 (by decide)).trans ((hL9.2.2.2 6 (by decide)).trans ((hL8.2.2.2 6 (by decide)).trans ((hL7.2.2.2 6 (by decide)).trans (hL6.2.2.1)))))), (hL12.2.2.2 8 (by decide)).trans ((hL11.2.2.2 8 (by decide)).trans ((hL10.2.2.2 8 (by decide)).trans ((hL9.2.2.2 8 (by decide)).trans ((hL8.2.2.2 8 (by decide)).trans (hL7.2.2.1))))), (hL12.2.2.2 10 (by decide)).trans ((hL11.2.2.2 10 (by decide)).trans ((hL10.2.2.2 10 (by decide)).trans ((hL9.2.2.2 10 (by decide)).trans (hL8.2.2.1)))), (hL12.2.2.2 11 (by decide)).trans ((hL11.2.2.2 11 (by decide)).trans ((hL10.2.2.2 11 (by decide)).trans (hL9.2.2.1))), (hL12.2.2.2 12 (by decide)).trans ((hL11.2.2.2 12 (by decide)).trans (hL10.2.2.1)), (hL12.2.2.2 13 (by decide)).trans (hL11.2.2.1), hL12.2.2.1⟩, ⟨((hS1 _ (by omega)).trans (T1 _ (by omega) (by omega))).1.trans hP11a, ((hS2 _ (by omega)).trans (T2 _ (by omega) (by omega))).1.trans hk2, ((hS3 _ (by omega)).trans (T3 _ (by omega) (by omega))).1.trans hk3, CBo.sm hP4 U4, (T5 _ (by omega) (by omega)).1.trans hA5, (T6 _ (by omega) (by omega)).1.trans hA6, (T7 _ (by omega) (by omega)).1.trans hA7⟩, hst.sm U8, CFo.sm hP9 (U9 _ (by omega) (by omega)).1 (U9 _ (by omega) (by omega)).1 (U9 _ (by omega) (by omega)).1 ((U9 _ (by omega) (by omega)).2.2.2 0) ((U9 _ (by omega) (by omega)).2.2.2 1), hqo.sm U10, ((hS11 _ (by omega)).trans (T11 _ (by omega) (by omega))).1.trans hk11, CSo.sm hP12 U12⟩, ⟨(((hS1 _ (by omega)).trans (T1 _ (by omega) (by omega))).2.2.2 0).trans hP11b, ((hS1 _ (by omega)).trans (T1 _ (by omega) (by omega))).1.trans hP11c⟩, fun q j hq => ?_⟩
  rcases hq with rfl | rfl
  · exact ((T6 _ (by omega) (by omega)).2.2.2 j).trans (hB6 j)
  · exact ((T7 _ (by omega) (by omega)).2.2.2 j).trans (hB7 j)
