/-! ===== the class's rules: a rule laid ===== -/
theorem c_X0_solveR (G : mu_G) {w : mu_W} {a b bc : Nat} (ho : CBo w a) {ru : mu_RS} (hS : 2 ≤ rs_S ru ∧ rs_S ru ≤ 4 ∨ rs_S ru = 0) (kc : mu_kd w bc = some (100, rs_N ru)) (hbc : ∀ k, k < rs_N ru → mu_iv w bc k = mI (rs_be ru k)) (hbl : ∀ k, k < rs_N ru → rs_be ru k < rs_N ru) (kb : mu_kd w b = some (100, rs_S ru * rs_S ru)) (hne : bc ≠ b) : mu_Ct G M_X0_solve [.ref a, .ref bc, .int (mI ((rs_S ru : Nat) : Int)), .ref b] w (fun r9 w' => ∃ D : Nat, r9 = some (.int (mI (D : Nat))) ∧ D ≤ rs_S ru ∧ (rs_S ru ≠ 0 → WTn ru D) ∧ mu_Fi (slS a b) w w' ∧ ∀ k v, k < D → v < rs_S ru → ∃ x, WTv ru k v x ∧ mu_iv w' b (k * rs_S ru + v) = mI x) := by
  rcases hS with hS | hS
  · exact (c_X0_solve G ho hS kc hbc hbl kb hne).mono (fun r w' ⟨D, h1, h2, h3, h4, h5⟩ => ⟨D, h1, h2, fun _ => h3, h4, h5⟩)
  · rw [hS]
    exact (c_X0_solve0 G (a := a) (b := b) (bc := bc)).mono (fun r w' ⟨h1, h2⟩ => ⟨0, h1, Nat.le_refl _, fun h => absurd rfl h, by rw [h2]; exact mu_Fi.refl _, fun k v hk => absurd hk (Nat.not_lt_zero k)⟩)
theorem CBo.nd {w : mu_W} {b q t m : Nat} (h : CBo w b) (hk : mu_kd w q = some (t, m)) (ht : t ≠ 101) (j : Nat) : ¬ dmS b q j := fun ⟨h1, h2⟩ => by
  by_cases e : q = b + 6
  · rw [e, h.2.2.2.2.2] at hk; cases hk; exact ht rfl
  · have := (h.2.2.2.1 (q - (b + 2)) (by omega)).2
    rw [show b + 2 + (q - (b + 2)) = q by omega, hk] at this; cases this; exact ht rfl
def RQ0 (w0 : mu_W) (a b n : Nat) (tp : Nat → Nat) (s : mu_W) : Prop := mu_nx s = a + 2 ∧ RG (dmS b) a w0 s ∧ mu_kd s a = some (4, 0) ∧ mu_rv s a 0 = some (a + 1) ∧ mu_kd s (a + 1) = some (102, n) ∧ ∀ j, j < n → mu_iv s (a + 1) j = mb (tp j)
theorem rq_0 {w : mu_W} {a b t n : Nat} {tp : Nat → Nat} (hk : mu_kd w a = some (4, 0)) (hnx : mu_nx w = a + 1) (ht : CT w t n tp) (hta : t + 1 < a) : RQ0 w a b n tp (mu_sr (mu_ic (mu_al w 102 n) (a + 1) (t + 1) n) a 0 (some (a + 1))) := by
  refine ⟨?_, ((RG.refl w).al (by omega) _ _).ic (by omega) |>.sr (Nat.le_refl _) _, ?_, ?_, ?_, fun j hj => ?_⟩
  · show mu_nx w + 1 = a + 2; omega
  · show mu_kd (mu_al w 102 n) a = _
    rw [mu_kd_al, if_neg (by omega)]; exact hk
  · rw [mu_rv_sr, if_pos ⟨rfl, rfl⟩]
  · show mu_kd (mu_al w 102 n) (a + 1) = _
    rw [mu_kd_al, if_pos hnx.symm]
  · rw [mu_iv_sr, mu_iv_ic, if_pos ⟨rfl, hj⟩, mu_iv_al, if_neg (by omega)]; exact ht.2.2.2.2.2 j hj
def RQ1 (w0 : mu_W) (a b n : Nat) (tp : Nat → Nat) (ru : mu_RS) (s : mu_W) : Prop := RQ0 w0 a b n tp s ∧ mu_iv s a 1 = mI (rs_nb ru) ∧ mu_iv s a 2 = mI (rs_bo ru) ∧ mu_iv s a 3 = mI (rs_st ru) ∧ mu_iv s a 4 = mI (rs_S ru)
theorem rq_1 {w0 : mu_W} {a b n : Nat} {tp : Nat → Nat} (ru : mu_RS) {s : mu_W} (h : RQ0 w0 a b n tp s) : RQ1 w0 a b n tp ru (mu_si (mu_si (mu_si (mu_si s a 1 (mI (rs_nb ru))) a 2 (mI (rs_bo ru))) a 3 (mI (rs_st ru))) a 4 (mI (rs_S ru))) := by
  obtain ⟨h1, h2, h3, h4, h5, h6⟩ := h
  refine ⟨⟨h1, (((h2.si (Nat.le_refl _) _).si (Nat.le_refl _) _).si (Nat.le_refl _) _).si (Nat.le_refl _) _, h3, h4, h5, fun j hj => ?_⟩, ?_, ?_, ?_, mu_iv_same _ _ _ _⟩
  · rw [mu_iv_oth _ _ (by omega), mu_iv_oth _ _ (by omega), mu_iv_oth _ _ (by omega), mu_iv_oth _ _ (by omega)]; exact h6 j hj
  · rw [mu_iv_oth _ _ (by omega), mu_iv_oth _ _ (by omega), mu_iv_oth _ _ (by omega), mu_iv_same]
  · rw [mu_iv_oth _ _ (by omega), mu_iv_oth _ _ (by omega), mu_iv_same]
  · rw [mu_iv_oth _ _ (by omega), mu_iv_same]
theorem rq_2 {w0 : mu_W} {a b n : Nat} {tp : Nat → Nat} {ru : mu_RS} {s : mu_W} (h : RQ1 w0 a b n tp ru s) : RQ w0 a b n tp ru (mu_sr (mu_al (mu_sr (mu_al s 100 (rs_N ru)) a 5 (some (a + 2))) 100 (rs_N ru)) a 6 (some (a + 3))) := by
  obtain ⟨⟨h1, h2, h3, h4, h5, h6⟩, g1, g2, g3, g4⟩ := h
  have n1 : mu_nx (mu_sr (mu_al s 100 (rs_N ru)) a 5 (some (a + 2))) = a + 3 := by show mu_nx s + 1 = _; omega
  have iv9 : ∀ q j, q < a + 2 → mu_iv (mu_sr (mu_al (mu_sr (mu_al s 100 (rs_N ru)) a 5 (some (a + 2))) 100 (rs_N ru)) a 6 (some (a + 3))) q j = mu_iv s q j := fun q j hq => by rw [mu_iv_sr, mu_iv_al, if_neg (by omega), mu_iv_sr, mu_iv_al, if_neg (by omega)]
  have kd9 : ∀ q, q < a + 2 → mu_kd (mu_sr (mu_al (mu_sr (mu_al s 100 (rs_N ru)) a 5 (some (a + 2))) 100 (rs_N ru)) a 6 (some (a + 3))) q = mu_kd s q := fun q hq => by rw [mu_kd_sr, mu_kd_al, if_neg (by omega), mu_kd_sr, mu_kd_al, if_neg (by omega)]
  refine ⟨?_, ((((h2.al (by omega) _ _).sr (Nat.le_refl _) _).al (by omega) _ _).sr (Nat.le_refl _) _), (kd9 a (by omega)).trans h3, ?_, ?_, ?_, (kd9 _ (by omega)).trans h5, ?_, ?_, fun j hj => (iv9 _ _ (by omega)).trans (h6 j hj), (iv9 _ _ (by omega)).trans g1, (iv9 _ _ (by omega)).trans g2, (iv9 _ _ (by omega)).trans g3, (iv9 _ _ (by omega)).trans g4⟩
  · show mu_nx s + 1 + 1 = _; omega
  · rw [mu_rv_sr, if_neg (by omega), mu_rv_al, if_neg (by omega), mu_rv_sr, if_neg (by omega), mu_rv_al, if_neg (by omega)]; exact h4
  · rw [mu_rv_sr, if_neg (by omega), mu_rv_al, if_neg (by omega), mu_rv_sr, if_pos ⟨rfl, rfl⟩]
  · rw [mu_rv_sr, if_pos ⟨rfl, rfl⟩]
  · rw [mu_kd_sr, mu_kd_al, if_neg (by omega), mu_kd_sr, mu_kd_al, if_pos h1.symm]
  · rw [mu_kd_sr, mu_kd_al, if_pos n1.symm]
/-- and with its basis -/
theorem rq_3 {w0 : mu_W} {a b n : Nat} {tp : Nat → Nat} {ru : mu_RS} {s : mu_W} (h : RQ w0 a b n tp ru s) {low high : Int} {o : Nat → Int} (hbe : ∀ j, j < rs_N ru → mu_iv s (a + 2) j = mI (rs_be ru j)) (hor : ∀ j, j < rs_N ru → mu_iv s (a + 3) j = mI (o j)) {s3 : mu_W} (h3 : s3 = mu_sr (mu_al (mu_si (mu_si s a 7 (mI low)) a 8 (mI high)) 100 (rs_S ru * rs_S ru)) a 9 (some (a + 4))) : mu_nx s3 = a + 5 ∧ RG (dmS b) a w0 s3 ∧ (mu_kd s3 a = some (4, 0) ∧ mu_rv s3 a 0 = some (a + 1) ∧ mu_kd s3 (a + 1) = some (102, n) ∧ mu_rv s3 a 5 = some (a + 2) ∧ mu_kd s3 (a + 2) = some (100, rs_N ru) ∧ mu_rv s3 a 6 = some (a + 3) ∧ mu_kd s3 (a + 3) = some (100, rs_N ru) ∧ mu_rv s3 a 9 = some (a + 4) ∧ mu_kd s3 (a + 4) = some (100, rs_S ru * rs_S ru)) ∧ (mu_iv s3 a 1 = mI (rs_nb ru) ∧ mu_iv s3 a 2 = mI (rs_bo ru) ∧ mu_iv s3 a 3 = mI (rs_st ru) ∧ mu_iv s3 a 4 = mI (rs_S ru)) ∧ (∀ j, j < n → mu_iv s3 (a + 1) j = mb (tp j)) ∧ (∀ j, j < rs_N ru → mu_iv s3 (a + 2) j = mI (rs_be ru j)) ∧ (∀ j, j < rs_N ru → mu_iv s3 (a + 3) j = mI (o j)) ∧ mu_iv s3 a 7 = mI low ∧ mu_iv s3 a 8 = mI high := by
  obtain ⟨h1, h2, k0, r0, r5, r6, k1, k2, k3, htx, g1, g2, g3, g4⟩ := h
  subst h3
  have iv9 : ∀ q j, q < a + 4 → (q = a → j ≠ 7 ∧ j ≠ 8) → mu_iv (mu_sr (mu_al (mu_si (mu_si s a 7 (mI low)) a 8 (mI high)) 100 (rs_S ru * rs_S ru)) a 9 (some (a + 4))) q j = mu_iv s q j := fun q j hq hj => by rw [mu_iv_sr, mu_iv_al, if_neg (by rw [mu_nx_si, mu_nx_si]; omega), mu_iv_oth _ _ (by omega), mu_iv_oth _ _ (by omega)]
  have kd9 : ∀ q, q < a + 4 → mu_kd (mu_sr (mu_al (mu_si (mu_si s a 7 (mI low)) a 8 (mI high)) 100 (rs_S ru * rs_S ru)) a 9 (some (a + 4))) q = mu_kd s q := fun q hq => by rw [mu_kd_sr, mu_kd_al, if_neg (by rw [mu_nx_si, mu_nx_si]; omega)]; rfl
  have rv9 : ∀ j, j ≠ 9 → mu_rv (mu_sr (mu_al (mu_si (mu_si s a 7 (mI low)) a 8 (mI high)) 100 (rs_S ru * rs_S ru)) a 9 (some (a + 4))) a j = mu_rv s a j := fun j hj => by rw [mu_rv_sr, if_neg (by omega), mu_rv_al, if_neg (by rw [mu_nx_si, mu_nx_si]; omega)]; rfl
  refine ⟨?_, ((((h2.si (Nat.le_refl _) _).si (Nat.le_refl _) _).al (by rw [mu_nx_si, mu_nx_si]; omega) _ _).sr (Nat.le_refl _) _), ⟨(kd9 a (by omega)).trans k0, (rv9 0 (by decide)).trans r0, (kd9 _ (by omega)).trans k1, (rv9 5 (by decide)).trans r5, (kd9 _ (by omega)).trans k2, (rv9 6 (by decide)).trans r6, (kd9 _ (by omega)).trans k3, ?_, ?_⟩, ⟨(iv9 _ _ (by omega) (by omega)).trans g1, (iv9 _ _ (by omega) (by omega)).trans g2, (iv9 _ _ (by omega) (by omega)).trans g3, (iv9 _ _ (by omega) (by omega)).trans g4⟩, fun j hj => (iv9 _ _ (by omega) (by omega)).trans (htx j hj), fun j hj => (iv9 _ _ (by omega) (by omega)).trans (hbe j hj), fun j hj => (iv9 _ _ (by omega) (by omega)).trans (hor j hj), ?_, ?_⟩
  · show mu_nx s + 1 = _; omega
  · rw [mu_rv_sr, if_pos ⟨rfl, rfl⟩]
  · rw [mu_kd_sr, mu_kd_al, if_pos (by rw [mu_nx_si, mu_nx_si]; omega)]
  · rw [mu_iv_sr, mu_iv_al, if_neg (by rw [mu_nx_si, mu_nx_si]; omega), mu_iv_oth _ _ (by omega), mu_iv_same]
  · rw [mu_iv_sr, mu_iv_al, if_neg (by rw [mu_nx_si, mu_nx_si]; omega), mu_iv_same]
/-- a rule that is made but not yet weighed -/
def RQ4 (w0 : mu_W) (a b n : Nat) (tp : Nat → Nat) (ru : mu_RS) (s3 : mu_W) : Prop := ∃ low high : Int, ∃ o : Nat → Int, ORI (rs_be ru) (rs_N ru) 0 o ∧ CLI (rs_be ru) (rs_N ru) 0 low high ∧ mu_nx s3 = a + 5 ∧ RG (dmS b) a w0 s3 ∧ (mu_kd s3 a = some (4, 0) ∧ mu_rv s3 a 0 = some (a + 1) ∧ mu_kd s3 (a + 1) = some (102, n) ∧ mu_rv s3 a 5 = some (a + 2) ∧ mu_kd s3 (a + 2) = some (100, rs_N ru) ∧ mu_rv s3 a 6 = some (a + 3) ∧ mu_kd s3 (a + 3) = some (100, rs_N ru) ∧ mu_rv s3 a 9 = some (a + 4) ∧ mu_kd s3 (a + 4) = some (100, rs_S ru * rs_S ru)) ∧ (mu_iv s3 a 1 = mI (rs_nb ru) ∧ mu_iv s3 a 2 = mI (rs_bo ru) ∧ mu_iv s3 a 3 = mI (rs_st ru) ∧ mu_iv s3 a 4 = mI (rs_S ru)) ∧ (∀ j, j < n → mu_iv s3 (a + 1) j = mb (tp j)) ∧ (∀ j, j < rs_N ru → mu_iv s3 (a + 2) j = mI (rs_be ru j)) ∧ (∀ j, j < rs_N ru → mu_iv s3 (a + 3) j = mI (o j)) ∧ mu_iv s3 a 7 = mI low ∧ mu_iv s3 a 8 = mI high

set_option maxHeartbeats 4000000 in
set_option maxRecDepth 100000 in
theorem c_X4_init (G : mu_G) {w : mu_W} {a b t q n : Nat} {tp : Nat → Nat} {ru : mu_RS} (hk : mu_kd w a = some (4, 0)) (hnx : mu_nx w = a + 1) (ht : CT w t n tp) (hta : t + 1 < a) (hkq : mu_kd w q = some (5, 0)) (hqa : q < a) (hbo : CBo w b) (hba : b + 6 < a) (hg : (sp_rule n tp).1 = true) (hru : (sp_rule n tp).2.2 = ru) (hv : mu_iv w q 0 = mI (rs_nb ru) ∧ mu_iv w q 1 = mI (rs_bo ru) ∧ mu_iv w q 2 = mI (rs_st ru) ∧ mu_iv w q 3 = mI (rs_S ru)) : mu_Ct G M_X4_init [.ref a, .ref t, .ref q] w (fun r9 w' => r9 = none ∧ RQ4 w a b n tp ru w') := by
  have hok : rs_ok ru := by rw [← hru]; exact sp_rule_ok ht.2.2.2.1 hg
  obtain ⟨hn9, hlen, htxe, hcs⟩ := sp_rule_more hg
  rw [hru] at hlen htxe hcs
  have hSc : 2 ≤ rs_S ru ∧ rs_S ru ≤ 4 ∨ rs_S ru = 0 := by
    rcases hcs with ⟨z1, z2⟩ | ⟨z1, z2⟩
    · rcases hok.2.2 with ⟨y1, y2, y3, y4⟩ | ⟨y1, y2⟩
      · exact Or.inl ⟨y2, y3⟩
      · omega
    · exact Or.inr z2
  have hS4 : rs_S ru ≤ 4 := by omega
  have hNN : rs_N ru ≤ 256 := by unfold rs_N; exact Nat.mul_le_mul (Nat.mul_le_mul (Nat.mul_le_mul hS4 hS4) hS4) hS4
  have hSS : rs_S ru * rs_S ru ≤ 16 := Nat.mul_le_mul hS4 hS4
  have hNc : ((rs_S ru : Nat) : Int) * ((rs_S ru : Nat) : Int) * ((rs_S ru : Nat) : Int) * ((rs_S ru : Nat) : Int) = ((rs_N ru : Nat) : Int) := by unfold rs_N; rw [Int.natCast_mul, Int.natCast_mul, Int.natCast_mul]
  have hN0 : rs_S ru = 0 → rs_N ru = 0 := fun e => by unfold rs_N; rw [e]
  have hnum : ∀ k, k < rs_N ru → nbk (tb n tp) (rs_S ru) (2 + 4 * k) 4 = ((rs_be ru k : Nat) : Int) := fun k hk => by
    rcases hcs with ⟨z1, z2⟩ | ⟨z1, z2⟩
    · exact z2 k hk
    · have := hN0 z2; omega
  have hbl : ∀ k, k < rs_N ru → rs_be ru k < rs_N ru := fun k hk => by
    rcases hok.2.2 with ⟨y1, y2, y3, y4⟩ | ⟨y1, y2⟩
    · exact y4 k hk
    · rcases hcs with ⟨z1, z2⟩ | ⟨z1, z2⟩
      · omega
      · have := hN0 z2; omega
  have hcnt : rs_nb ru ≠ 0 → rs_S ru = 0 := fun z => by
    rcases hcs with ⟨z1, z2⟩ | ⟨z1, z2⟩
    · exact absurd z1 z
    · exact z2
  have hblk : rs_nb ru = 0 → rs_S ru ≠ 0 := fun z => by
    rcases hok.2.2 with ⟨y1, y2, y3, y4⟩ | ⟨y1, y2⟩ <;> omega
  obtain ⟨hv0, hv1, hv2, hv3⟩ := hv
  have hqn := hbo.nd hkq (by decide)
  refine mu_ofWA G M_X4_init [.ref a, .ref t, .ref q, mu_no, mu_no, mu_no, mu_no, mu_no] (by decide) rfl (Nat.le_of_ble_eq_true rfl) ?_
  intro X E
  have B : mu_B X G cX4_init RX4 8 (mu_rm M_X4_init) := E.1
  have L2 : ∀ d (z : mu_W × Int × Int), d ≤ rs_N ru → (RQ w a b n tp ru z.1 ∧ (∀ j, j < rs_N ru → mu_iv z.1 (a + 2) j = mI (rs_be ru j)) ∧ ∃ o, ORI (rs_be ru) (rs_N ru) (rs_N ru - d) o ∧ (∀ j, j < rs_N ru → mu_iv z.1 (a + 3) j = mI (o j)) ∧ CLI (rs_be ru) (rs_N ru) (rs_N ru - d) z.2.1 z.2.2) → mu_WA X G 8 (mu_Q X G M_X4_init (fun r9 w' => r9 = none ∧ RQ4 w a b n tp ru w')) z.1 3 (2000 + rs_N ru + rs_N ru) 133 [.ref a, .ref t, .ref q, .int (mI ((rs_N ru : Nat) : Int)), .int (mI z.2.1), .int (mI z.2.2), .int (mI ((rs_N ru : Int) - 1 - (d : Int))), mu_no] [] := by
    refine mu_ind (rs_N ru) (fun d (z : mu_W × Int × Int) => mu_WA X G 8 (mu_Q X G M_X4_init (fun r9 w' => r9 = none ∧ RQ4 w a b n tp ru w')) z.1 3 (2000 + rs_N ru + rs_N ru) 133 [.ref a, .ref t, .ref q, .int (mI ((rs_N ru : Nat) : Int)), .int (mI z.2.1), .int (mI z.2.2), .int (mI ((rs_N ru : Int) - 1 - (d : Int))), mu_no] []) (fun d (z : mu_W × Int × Int) => RQ w a b n tp ru z.1 ∧ (∀ j, j < rs_N ru → mu_iv z.1 (a + 2) j = mI (rs_be ru j)) ∧ ∃ o, ORI (rs_be ru) (rs_N ru) (rs_N ru - d) o ∧ (∀ j, j < rs_N ru → mu_iv z.1 (a + 3) j = mI (o j)) ∧ CLI (rs_be ru) (rs_N ru) (rs_N ru - d) z.2.1 z.2.2) ?_
    rintro d ⟨s, low, high⟩ hd ⟨hQ, hbe, o, hO, hor, hC⟩ ih
    dsimp only at hQ hbe hO hor hC ih ⊢
    obtain ⟨h1, h2, k0, r0, r5, r6, k1, k2, k3, htx, g1, g2, g3, g4⟩ := id hQ
    refine mu_il_6 B dX4_init_133 ?_
    refine mu_if_lt (tgt := 199) B dX4_init_135 (by decide) (fun c135 => ?_) (fun c135 => ?_)
    · try rw [mI_lt0 ⟨by omega, by omega⟩] at c135
      try rw [mI_lt0 ⟨by omega, by omega⟩] at c135
      obtain rfl : rs_N ru = d := by omega
      rw [Nat.sub_self] at hO hC
      refine mu_al_0 B dX4_init_199 ?_
      refine mu_il_4 B dX4_init_200 ?_
      refine mu_putIF B E.2.2.2 dX4_init_202 fX4_49 ffX4_7 rfl (by exact k0) ?_
      refine mu_al_0 B dX4_init_205 ?_
      refine mu_il_5 B dX4_init_206 ?_
      refine mu_putIF B E.2.2.2 dX4_init_208 fX4_52 ffX4_8 rfl (by exact k0) ?_
      refine mu_al_0 B dX4_init_211 ?_
      refine mu_al_0 B dX4_init_212 ?_
      refine mu_getI B dX4_init_213 fX4_37 rfl (by exact k0) ?_
      rw [mu_iv_oth _ _ (by omega), mu_iv_oth _ _ (by omega), g4]
      refine mu_al_0 B dX4_init_216 ?_
      refine mu_getI B dX4_init_217 fX4_37 rfl (by exact k0) ?_
      rw [mu_iv_oth _ _ (by omega), mu_iv_oth _ _ (by omega), g4]
      refine mu_imul B dX4_init_220 ?_
      try rw [mI_mul]
      rw [show ((rs_S ru : Nat) : Int) * ((rs_S ru : Nat) : Int) = ((rs_S ru * rs_S ru : Nat) : Int) from (Int.natCast_mul _ _).symm]
      refine mu_newm (ka := 0) B dX4_init_221 rfl (by decide) aw_int (rs_S ru * rs_S ru) rfl (by show rs_S ru * rs_S ru * 4 ≤ 536870912; omega) (by omega) (by decide) (by show 2000 + rs_N ru + rs_N ru + rs_S ru * rs_S ru ≤ 2528; omega) ?_
      rw [show mu_nx (mu_si (mu_si s a 7 (mI low)) a 8 (mI high)) = a + 4 from h1]
      refine mu_putRF B E.2.2.2 dX4_init_223 fX4_55 ffX4_9 rfl rfl (by rw [mu_kd_al, if_neg (by rw [mu_nx_si, mu_nx_si]; omega)]; exact k0) ?_
      refine mu_vret E rfl (by decide) (by show 2000 + rs_N ru + rs_N ru + rs_S ru * rs_S ru ≤ 2528; omega) dX4_init_226 ?_
      exact ⟨rfl, low, high, o, hO, hC, rq_3 hQ hbe hor rfl⟩
    · try rw [mI_lt0 ⟨by omega, by omega⟩] at c135
      obtain ⟨m, hmd⟩ : ∃ m : Nat, rs_N ru - d = m + 1 := ⟨rs_N ru - d - 1, by omega⟩
      rw [hmd] at hO hC
      rw [show (rs_N ru : Int) - 1 - (d : Int) = ((m : Nat) : Int) by omega]
      have hbm := hbl m (by omega)
      have hob := hO.bd hbm
      refine mu_al_0 B dX4_init_138 ?_
      refine mu_getR B dX4_init_139 fX4_38 rfl (by exact k0) (by exact r5) ?_
      refine mu_il_6 B dX4_init_142 ?_
      refine mu_iald B dX4_init_144 (by exact k2) (mI_inN (by omega) (by omega)) ?_
      rw [mI_clampN (by omega), hbe m (by omega)]
      refine mu_is_7 B dX4_init_145 (by decide) rfl ?_
      refine mu_il_7 B dX4_init_147 ?_
      refine mu_if_lt (tgt := 193) B dX4_init_149 (by decide) (fun c149 => ?_) (fun c149 => ?_)
      · try rw [mI_lt0 ⟨by omega, by omega⟩] at c149
        exfalso
        omega
      · try rw [mI_lt0 ⟨by omega, by omega⟩] at c149
        refine mu_il_7 B dX4_init_152 ?_
        refine mu_il_3 B dX4_init_154 ?_
        refine mu_icmp_lt (tgt := 161) B dX4_init_155 (by decide) (fun c155 => ?_) (fun c155 => ?_)
        · try rw [mI_lt ⟨by omega, by omega⟩ ⟨by omega, by omega⟩] at c155
          refine mu_al_0 B dX4_init_161 ?_
          refine mu_getR B dX4_init_162 fX4_42 rfl (by exact k0) (by exact r6) ?_
          refine mu_il_7 B dX4_init_165 ?_
          refine mu_iald B dX4_init_167 (by exact k3) (mI_inN (by omega) (by omega)) ?_
          rw [mI_clampN (by omega), hor (rs_be ru m) hbm]
          refine mu_if_lt (tgt := 184) B dX4_init_168 (by decide) (fun c168 => ?_) (fun c168 => ?_)
          · try rw [mI_lt0 ⟨by omega, by omega⟩] at c168
            refine mu_al_0 B dX4_init_184 ?_
            refine mu_getR B dX4_init_185 fX4_42 rfl (by exact k0) (by exact r6) ?_
            refine mu_il_7 B dX4_init_188 ?_
            refine mu_il_6 B dX4_init_190 ?_
            refine mu_iast B dX4_init_192 (by exact k3) (mI_inN (by omega) (by omega)) ?_
            rw [mI_clampN (by omega)]
            refine mu_inc_6 (c := mI (-1)) B dX4_init_193 rfl (by decide) rfl ?_
            try rw [mI_add]
            refine mu_goto (tgt := 133) B dX4_init_196 (by decide) ?_
            first
              | (refine mu_fg (ih (mu_si s (a + 3) (rs_be ru m) (mI (m : Nat)), (m : Int), o (rs_be ru m)) (by omega) ⟨hQ.si (Or.inr rfl) _, fun j hj => by rw [mu_iv_oth _ _ (by omega)]; exact hbe j hj, (fun c => if c = rs_be ru m then (m : Int) else o c), ?_, ?_, ?_⟩) rfl (by dsimp only; rw [show (rs_N ru : Int) - 1 - ((d + 1 : Nat) : Int) = ((m : Nat) : Int) + -1 by omega]; exact ⟨Or.inl rfl, Or.inl rfl, Or.inl rfl, Or.inl rfl, Or.inl rfl, Or.inl rfl, Or.inl rfl, Or.inr rfl, trivial⟩)
                 · rw [show rs_N ru - (d + 1) = m by omega]; exact hO.step (by omega)
                 · intro j hj
                   show mu_iv _ _ _ = mI (if j = rs_be ru m then (m : Int) else o j)
                   by_cases e9 : j = rs_be ru m
                   · rw [e9, mu_iv_same, if_pos rfl]
                   · rw [mu_iv_oth _ _ (by omega), if_neg e9]; exact hor j hj
                 · rw [show rs_N ru - (d + 1) = m by omega]; exact CLI.clash hO (by omega) hbm (by omega))
              | (refine mu_fg (ih (mu_si s (a + 3) (rs_be ru m) (mI (m : Nat)), low, high) (by omega) ⟨hQ.si (Or.inr rfl) _, fun j hj => by rw [mu_iv_oth _ _ (by omega)]; exact hbe j hj, (fun c => if c = rs_be ru m then (m : Int) else o c), ?_, ?_, ?_⟩) rfl (by dsimp only; rw [show (rs_N ru : Int) - 1 - ((d + 1 : Nat) : Int) = ((m : Nat) : Int) + -1 by omega]; exact ⟨Or.inl rfl, Or.inl rfl, Or.inl rfl, Or.inl rfl, Or.inl rfl, Or.inl rfl, Or.inl rfl, Or.inr rfl, trivial⟩)
                 · rw [show rs_N ru - (d + 1) = m by omega]; exact hO.step (by omega)
                 · intro j hj
                   show mu_iv _ _ _ = mI (if j = rs_be ru m then (m : Int) else o j)
                   by_cases e9 : j = rs_be ru m
                   · rw [e9, mu_iv_same, if_pos rfl]
                   · rw [mu_iv_oth _ _ (by omega), if_neg e9]; exact hor j hj
                 · rw [show rs_N ru - (d + 1) = m by omega]; exact CLI.none hO hC hbm (by omega))
          · try rw [mI_lt0 ⟨by omega, by omega⟩] at c168
            refine mu_il_6 B dX4_init_171 ?_
            refine mu_is_4 B dX4_init_173 (by decide) rfl ?_
            refine mu_al_0 B dX4_init_175 ?_
            refine mu_getR B dX4_init_176 fX4_42 rfl (by exact k0) (by exact r6) ?_
            refine mu_il_7 B dX4_init_179 ?_
            refine mu_iald B dX4_init_181 (by exact k3) (mI_inN (by omega) (by omega)) ?_
            rw [mI_clampN (by omega), hor (rs_be ru m) hbm]
            refine mu_is_5 B dX4_init_182 (by decide) rfl ?_
            refine mu_al_0 B dX4_init_184 ?_
            refine mu_getR B dX4_init_185 fX4_42 rfl (by exact k0) (by exact r6) ?_
            refine mu_il_7 B dX4_init_188 ?_
            refine mu_il_6 B dX4_init_190 ?_
            refine mu_iast B dX4_init_192 (by exact k3) (mI_inN (by omega) (by omega)) ?_
            rw [mI_clampN (by omega)]
            refine mu_inc_6 (c := mI (-1)) B dX4_init_193 rfl (by decide) rfl ?_
            try rw [mI_add]
            refine mu_goto (tgt := 133) B dX4_init_196 (by decide) ?_
            first
              | (refine mu_fg (ih (mu_si s (a + 3) (rs_be ru m) (mI (m : Nat)), (m : Int), o (rs_be ru m)) (by omega) ⟨hQ.si (Or.inr rfl) _, fun j hj => by rw [mu_iv_oth _ _ (by omega)]; exact hbe j hj, (fun c => if c = rs_be ru m then (m : Int) else o c), ?_, ?_, ?_⟩) rfl (by dsimp only; rw [show (rs_N ru : Int) - 1 - ((d + 1 : Nat) : Int) = ((m : Nat) : Int) + -1 by omega]; exact ⟨Or.inl rfl, Or.inl rfl, Or.inl rfl, Or.inl rfl, Or.inl rfl, Or.inl rfl, Or.inl rfl, Or.inr rfl, trivial⟩)
                 · rw [show rs_N ru - (d + 1) = m by omega]; exact hO.step (by omega)
                 · intro j hj
                   show mu_iv _ _ _ = mI (if j = rs_be ru m then (m : Int) else o j)
                   by_cases e9 : j = rs_be ru m
                   · rw [e9, mu_iv_same, if_pos rfl]
                   · rw [mu_iv_oth _ _ (by omega), if_neg e9]; exact hor j hj
                 · rw [show rs_N ru - (d + 1) = m by omega]; exact CLI.clash hO (by omega) hbm (by omega))
              | (refine mu_fg (ih (mu_si s (a + 3) (rs_be ru m) (mI (m : Nat)), low, high) (by omega) ⟨hQ.si (Or.inr rfl) _, fun j hj => by rw [mu_iv_oth _ _ (by omega)]; exact hbe j hj, (fun c => if c = rs_be ru m then (m : Int) else o c), ?_, ?_, ?_⟩) rfl (by dsimp only; rw [show (rs_N ru : Int) - 1 - ((d + 1 : Nat) : Int) = ((m : Nat) : Int) + -1 by omega]; exact ⟨Or.inl rfl, Or.inl rfl, Or.inl rfl, Or.inl rfl, Or.inl rfl, Or.inl rfl, Or.inl rfl, Or.inr rfl, trivial⟩)
                 · rw [show rs_N ru - (d + 1) = m by omega]; exact hO.step (by omega)
                 · intro j hj
                   show mu_iv _ _ _ = mI (if j = rs_be ru m then (m : Int) else o j)
                   by_cases e9 : j = rs_be ru m
                   · rw [e9, mu_iv_same, if_pos rfl]
                   · rw [mu_iv_oth _ _ (by omega), if_neg e9]; exact hor j hj
                 · rw [show rs_N ru - (d + 1) = m by omega]; exact CLI.none hO hC hbm (by omega))
        · try rw [mI_lt ⟨by omega, by omega⟩ ⟨by omega, by omega⟩] at c155
          exfalso
          omega
  have L1 : ∀ k (s : mu_W), k ≤ rs_N ru → (RQ w a b n tp ru s ∧ ∀ j, j < k → mu_iv s (a + 2) j = mI (rs_be ru j) ∧ mu_iv s (a + 3) j = mI (-1)) → mu_WA X G 8 (mu_Q X G M_X4_init (fun r9 w' => r9 = none ∧ RQ4 w a b n tp ru w')) s 3 (2000 + rs_N ru + rs_N ru) 81 [.ref a, .ref t, .ref q, .int (mI ((rs_N ru : Nat) : Int)), .int (mI k), mu_no, mu_no, mu_no] [] := by
    refine mu_ind (rs_N ru) (fun k (s : mu_W) => mu_WA X G 8 (mu_Q X G M_X4_init (fun r9 w' => r9 = none ∧ RQ4 w a b n tp ru w')) s 3 (2000 + rs_N ru + rs_N ru) 81 [.ref a, .ref t, .ref q, .int (mI ((rs_N ru : Nat) : Int)), .int (mI k), mu_no, mu_no, mu_no] []) (fun k (s : mu_W) => RQ w a b n tp ru s ∧ ∀ j, j < k → mu_iv s (a + 2) j = mI (rs_be ru j) ∧ mu_iv s (a + 3) j = mI (-1)) ?_
    intro k s hk ⟨hQ, hbo9⟩ ih
    obtain ⟨h1, h2, k0, r0, r5, r6, k1, k2, k3, htx, g1, g2, g3, g4⟩ := id hQ
    refine mu_il_4 B dX4_init_81 ?_
    refine mu_il_3 B dX4_init_83 ?_
    refine mu_icmp_ge (tgt := 122) B dX4_init_84 (by decide) (fun c84 => ?_) (fun c84 => ?_)
    · try rw [mI_le ⟨by omega, by omega⟩ ⟨by omega, by omega⟩] at c84
      try rw [mI_le ⟨by omega, by omega⟩ ⟨by omega, by omega⟩] at c84
      obtain rfl : rs_N ru = k := by omega
      refine mu_iconst (v := mI (-1)) B dX4_init_122 rfl ?_
      refine mu_is_4 B dX4_init_123 (by decide) rfl ?_
      refine mu_iconst (v := mI (-1)) B dX4_init_125 rfl ?_
      refine mu_is_5 B dX4_init_126 (by decide) rfl ?_
      refine mu_il_3 B dX4_init_128 ?_
      refine mu_iconst (v := mI 1) B dX4_init_129 rfl ?_
      refine mu_isub B dX4_init_130 ?_
      try rw [mI_sub]
      refine mu_is_6 B dX4_init_131 (by decide) rfl ?_
      exact mu_to (L2 0 (s, -1, -1) (Nat.zero_le _) ⟨hQ, fun j hj => (hbo9 j hj).1, fun _ => -1, by rw [Nat.sub_zero]; exact ORI.start _ _, fun j hj => (hbo9 j hj).2, by rw [Nat.sub_zero]; exact CLI.start _ _⟩) rfl (by rw [show (rs_N ru : Int) - 1 - ((0 : Nat) : Int) = (rs_N ru : Int) - 1 by omega])
    · try rw [mI_le ⟨by omega, by omega⟩ ⟨by omega, by omega⟩] at c84
      refine mu_al_0 B dX4_init_87 ?_
      refine mu_getR B dX4_init_88 fX4_38 rfl (by exact k0) (by exact r5) ?_
      refine mu_il_4 B dX4_init_91 ?_
      refine mu_al_1 B dX4_init_93 ?_
      refine mu_iconst (v := mI 2) B dX4_init_94 rfl ?_
      refine mu_iconst (v := mI 4) B dX4_init_95 rfl ?_
      refine mu_il_4 B dX4_init_96 ?_
      refine mu_imul B dX4_init_98 ?_
      try rw [mI_mul]
      refine mu_iadd B dX4_init_99 ?_
      try rw [mI_add]
      rw [show (2 : Int) + 4 * (k : Int) = ((2 + 4 * k : Nat) : Int) by omega]
      refine mu_al_0 B dX4_init_100 ?_
      refine mu_getI B dX4_init_101 fX4_37 rfl (by exact k0) ?_
      rw [g4]
      refine mu_eS3 B dX4_init_104 mX4_45 ⟨⟨by decide, by decide⟩, by decide, by show 2000 + rs_N ru + rs_N ru + 0 ≤ 2528; omega⟩ (Nat.le_of_ble_eq_true rfl) (c_X4_numberAt G (ht.rg h2 hta (hbo.nd ht.1 (by decide) 1) (fun j => hbo.nd ht.2.2.1 (by decide) j)) (S := rs_S ru) (p := 2 + 4 * k) (by omega)) ?_
      rw [hnum k (by omega)]
      refine mu_iast B dX4_init_107 (by exact k2) (mI_inN (by omega) (by omega)) ?_
      rw [mI_clampN (by omega)]
      refine mu_al_0 B dX4_init_108 ?_
      refine mu_getR B dX4_init_109 fX4_42 rfl (by exact k0) (by exact r6) ?_
      refine mu_il_4 B dX4_init_112 ?_
      refine mu_iconst (v := mI (-1)) B dX4_init_114 rfl ?_
      refine mu_iast B dX4_init_115 (by exact k3) (mI_inN (by omega) (by omega)) ?_
      rw [mI_clampN (by omega)]
      refine mu_inc_4 (c := mI 1) B dX4_init_116 rfl (by decide) rfl ?_
      try rw [mI_add]
      refine mu_goto (tgt := 81) B dX4_init_119 (by decide) ?_
      refine mu_to (ih _ (by omega) ⟨(hQ.si (Or.inl rfl) _).si (Or.inr rfl) _, fun j hj => ?_⟩) rfl (by rw [show ((k + 1 : Nat) : Int) = (k : Int) + 1 by omega])
      by_cases e9 : j = k
      · rw [e9]
        exact ⟨by rw [mu_iv_oth _ _ (by omega), mu_iv_same], by rw [mu_iv_same]⟩
      · have := hbo9 j (by omega)
        exact ⟨by rw [mu_iv_oth _ _ (by omega), mu_iv_oth _ _ (by omega)]; exact this.1, by rw [mu_iv_oth _ _ (by omega), mu_iv_oth _ _ (by omega)]; exact this.2⟩
  show mu_WA X G 8 _ _ 0 0 0 _ []
  refine mu_al_0 B dX4_init_0 ?_
  refine mu_obj B dX4_init_1 obX4 obi obc ⟨by decide, by decide⟩ (Nat.le_of_ble_eq_true rfl) ?_
  refine mu_al_0 B dX4_init_4 ?_
  refine mu_al_1 B dX4_init_5 ?_
  refine mu_eV0 B dX4_init_6 mX4_7 ⟨⟨by decide, by decide⟩, by decide, by decide⟩ (Nat.le_of_ble_eq_true rfl) (by exact ht.1) (c_X10_copy G ht (by omega) (by omega)) ?_
  rw [hnx]
  refine mu_putRF B E.2.2.2 dX4_init_9 fX4_13 ffX4_0 rfl rfl (by show mu_kd (mu_al w 102 n) a = _; rw [mu_kd_al, if_neg (by omega)]; exact hk) ?_
  have h0 := rq_0 (b := b) hk hnx ht hta
  generalize mu_sr (mu_ic (mu_al w 102 n) (a + 1) (t + 1) n) a 0 (some (a + 1)) = s0 at h0 ⊢
  obtain ⟨h01, h02, h03, h04, h05, h06⟩ := id h0
  refine mu_al_0 B dX4_init_12 ?_
  refine mu_al_2 B dX4_init_13 ?_
  refine mu_getIN B dX4_init_14 fX4_19 rfl (h02.kd hkq hqa) ?_
  rw [h02.iv hv0 hqa (hqn 0)]
  refine mu_putIF B E.2.2.2 dX4_init_17 fX4_25 ffX4_1 rfl (by exact h03) ?_
  refine mu_al_0 B dX4_init_20 ?_
  refine mu_al_2 B dX4_init_21 ?_
  refine mu_getIN B dX4_init_22 fX4_26 rfl (h02.kd hkq hqa) ?_
  rw [mu_iv_oth _ _ (by omega), h02.iv hv1 hqa (hqn 1)]
  refine mu_putIF B E.2.2.2 dX4_init_25 fX4_29 ffX4_2 rfl (by exact h03) ?_
  refine mu_al_0 B dX4_init_28 ?_
  refine mu_al_2 B dX4_init_29 ?_
  refine mu_getIN B dX4_init_30 fX4_30 rfl (h02.kd hkq hqa) ?_
  rw [mu_iv_oth _ _ (by omega), mu_iv_oth _ _ (by omega), h02.iv hv2 hqa (hqn 2)]
  refine mu_putIF B E.2.2.2 dX4_init_33 fX4_33 ffX4_3 rfl (by exact h03) ?_
  refine mu_al_0 B dX4_init_36 ?_
  refine mu_al_2 B dX4_init_37 ?_
  refine mu_getIN B dX4_init_38 fX4_34 rfl (h02.kd hkq hqa) ?_
  rw [mu_iv_oth _ _ (by omega), mu_iv_oth _ _ (by omega), mu_iv_oth _ _ (by omega), h02.iv hv3 hqa (hqn 3)]
  refine mu_putIF B E.2.2.2 dX4_init_41 fX4_37 ffX4_4 rfl (by exact h03) ?_
  have h1 := rq_1 ru h0
  generalize mu_si (mu_si (mu_si (mu_si s0 a 1 (mI (rs_nb ru))) a 2 (mI (rs_bo ru))) a 3 (mI (rs_st ru))) a 4 (mI (rs_S ru)) = s1 at h1 ⊢
  obtain ⟨⟨h11, h12, k0, h14, h15, h16⟩, g1, g2, g3, g4⟩ := id h1
  refine mu_al_0 B dX4_init_44 ?_
  refine mu_getI B dX4_init_45 fX4_37 rfl (by exact k0) ?_
  rw [g4]
  refine mu_al_0 B dX4_init_48 ?_
  refine mu_getI B dX4_init_49 fX4_37 rfl (by exact k0) ?_
  rw [g4]
  refine mu_imul B dX4_init_52 ?_
  try rw [mI_mul]
  refine mu_al_0 B dX4_init_53 ?_
  refine mu_getI B dX4_init_54 fX4_37 rfl (by exact k0) ?_
  rw [g4]
  refine mu_imul B dX4_init_57 ?_
  try rw [mI_mul]
  refine mu_al_0 B dX4_init_58 ?_
  refine mu_getI B dX4_init_59 fX4_37 rfl (by exact k0) ?_
  rw [g4]
  refine mu_imul B dX4_init_62 ?_
  try rw [mI_mul]
  rw [hNc]
  refine mu_is_3 B dX4_init_63 (by decide) rfl ?_
  refine mu_al_0 B dX4_init_64 ?_
  refine mu_il_3 B dX4_init_65 ?_
  refine mu_newm (ka := 0) B dX4_init_66 rfl (by decide) aw_int (rs_N ru) rfl (by show rs_N ru * 4 ≤ 536870912; omega) (by omega) (by decide) (by show 2000 + rs_N ru ≤ 2528; omega) ?_
  rw [h11]
  refine mu_putRF B E.2.2.2 dX4_init_68 fX4_38 ffX4_5 rfl rfl (by rw [mu_kd_al, if_neg (by omega)]; exact k0) ?_
  refine mu_al_0 B dX4_init_71 ?_
  refine mu_il_3 B dX4_init_72 ?_
  refine mu_newm (ka := 0) B dX4_init_73 rfl (by decide) aw_int (rs_N ru) rfl (by show rs_N ru * 4 ≤ 536870912; omega) (by omega) (by decide) (by show 2000 + rs_N ru + rs_N ru ≤ 2528; omega) ?_
  rw [show mu_nx (mu_sr (mu_al s1 100 (rs_N ru)) a 5 (some (a + 2))) = a + 3 by show mu_nx s1 + 1 = _; omega]
  refine mu_putRF B E.2.2.2 dX4_init_75 fX4_42 ffX4_6 rfl rfl (by rw [mu_kd_al, if_neg (by rw [show mu_nx (mu_sr (mu_al s1 100 (rs_N ru)) a 5 (some (a + 2))) = a + 3 by show mu_nx s1 + 1 = _; omega]; omega), mu_kd_sr, mu_kd_al, if_neg (by omega)]; exact k0) ?_
  have hQ := rq_2 h1
  generalize mu_sr (mu_al (mu_sr (mu_al s1 100 (rs_N ru)) a 5 (some (a + 2))) 100 (rs_N ru)) a 6 (some (a + 3)) = s2 at hQ ⊢
  refine mu_iconst (v := mI 0) B dX4_init_78 rfl ?_
  refine mu_is_4 B dX4_init_79 (by decide) rfl ?_
  exact L1 0 s2 (Nat.zero_le _) ⟨hQ, fun j hj => absurd hj (Nat.not_lt_zero j)⟩

set_option maxHeartbeats 4000000 in
set_option maxRecDepth 100000 in
theorem c_X4_weigh (G : mu_G) {w : mu_W} {w0 w1 : mu_W} {a b t n : Nat} {tp : Nat → Nat} {ru : mu_RS} (h4 : RQ4 w0 a b n tp ru w) (ht : CT w1 t n tp) (hbo : CBo w0 b) (hba : b + 6 < a) (hg : (sp_rule n tp).1 = true) (hru : (sp_rule n tp).2.2 = ru) : mu_Ct G M_X4_weigh [.ref a, .ref b] w (fun r9 w' => r9 = none ∧ mu_nx w' = a + 5 ∧ RG (dmS b) a w0 w' ∧ CRu w' a ru) := by
  have hok : rs_ok ru := by rw [← hru]; exact sp_rule_ok ht.2.2.2.1 hg
  obtain ⟨hn9, hlen, htxe, hcs⟩ := sp_rule_more hg
  rw [hru] at hlen htxe hcs
  have hSc : 2 ≤ rs_S ru ∧ rs_S ru ≤ 4 ∨ rs_S ru = 0 := by
    rcases hcs with ⟨z1, z2⟩ | ⟨z1, z2⟩
    · rcases hok.2.2 with ⟨y1, y2, y3, y4⟩ | ⟨y1, y2⟩
      · exact Or.inl ⟨y2, y3⟩
      · omega
    · exact Or.inr z2
  have hS4 : rs_S ru ≤ 4 := by omega
  have hNN : rs_N ru ≤ 256 := by unfold rs_N; exact Nat.mul_le_mul (Nat.mul_le_mul (Nat.mul_le_mul hS4 hS4) hS4) hS4
  have hSS : rs_S ru * rs_S ru ≤ 16 := Nat.mul_le_mul hS4 hS4
  have hNc : ((rs_S ru : Nat) : Int) * ((rs_S ru : Nat) : Int) * ((rs_S ru : Nat) : Int) * ((rs_S ru : Nat) : Int) = ((rs_N ru : Nat) : Int) := by unfold rs_N; rw [Int.natCast_mul, Int.natCast_mul, Int.natCast_mul]
  have hN0 : rs_S ru = 0 → rs_N ru = 0 := fun e => by unfold rs_N; rw [e]
  have hnum : ∀ k, k < rs_N ru → nbk (tb n tp) (rs_S ru) (2 + 4 * k) 4 = ((rs_be ru k : Nat) : Int) := fun k hk => by
    rcases hcs with ⟨z1, z2⟩ | ⟨z1, z2⟩
    · exact z2 k hk
    · have := hN0 z2; omega
  have hbl : ∀ k, k < rs_N ru → rs_be ru k < rs_N ru := fun k hk => by
    rcases hok.2.2 with ⟨y1, y2, y3, y4⟩ | ⟨y1, y2⟩
    · exact y4 k hk
    · rcases hcs with ⟨z1, z2⟩ | ⟨z1, z2⟩
      · omega
      · have := hN0 z2; omega
  have hcnt : rs_nb ru ≠ 0 → rs_S ru = 0 := fun z => by
    rcases hcs with ⟨z1, z2⟩ | ⟨z1, z2⟩
    · exact absurd z1 z
    · exact z2
  have hblk : rs_nb ru = 0 → rs_S ru ≠ 0 := fun z => by
    rcases hok.2.2 with ⟨y1, y2, y3, y4⟩ | ⟨y1, y2⟩ <;> omega
  obtain ⟨low, high, o, hO, hC, n3, hG3, ⟨K0, R0, K1, R5, K2, R6, K3, R9, K4⟩, ⟨V1, V2, V3, V4⟩, htx3, hbe3, hor3, V7, V8⟩ := h4
  refine mu_ofWA G M_X4_weigh [.ref a, .ref b] (by decide) rfl (Nat.le_of_ble_eq_true rfl) ?_
  intro X E
  have B : mu_B X G cX4_weigh RX4 2 (mu_rm M_X4_weigh) := E.1
  show mu_WA X G 2 _ _ 0 0 0 _ []
  refine mu_al_0 B dX4_weigh_0 ?_
  refine mu_al_1 B dX4_weigh_1 ?_
  refine mu_al_0 B dX4_weigh_2 ?_
  refine mu_getR B dX4_weigh_3 fX4_38 rfl (by exact K0) (by exact R5) ?_
  refine mu_al_0 B dX4_weigh_6 ?_
  refine mu_getI B dX4_weigh_7 fX4_37 rfl (by exact K0) ?_
  rw [V4]
  refine mu_al_0 B dX4_weigh_10 ?_
  refine mu_getR B dX4_weigh_11 fX4_55 rfl (by exact K0) (by exact R9) ?_
  refine mu_cV3 B dX4_weigh_14 mX4_58 ⟨⟨by decide, by decide⟩, by decide, by decide⟩ (Nat.le_of_ble_eq_true rfl) (hG3.kd hbo.1 (by omega)) (c_X0_solveR G (hbo.rg hG3 hba) hSc K2 hbe3 hbl K4 (by omega)) (fun r14 w14 q14 => ?_)
  obtain ⟨D, rfl, hD, hWn, hF9, hbas⟩ := q14
  show mu_WA X G 2 _ _ _ _ 17 _ [.int (mI (D : Nat)), .ref a]
  refine mu_putI B dX4_weigh_17 fX4_64 fwX4_10 rfl (hF9.kd K0) ?_
  refine mu_vret E rfl (by decide) (by decide) dX4_weigh_20 ?_
  have hnS : ∀ q j, a ≤ q → q < a + 4 → ¬ slS b (a + 4) q j := fun q j z1 z2 hh => by rcases hh with hh | hh <;> omega
  have iv8 : ∀ {x : Int32} {q j : Nat}, a ≤ q → q < a + 4 → (q = a → j ≠ 10) → mu_iv w q j = x → mu_iv (mu_si w14 a 10 (mI (D : Nat))) q j = x := fun z1 z2 z3 z4 => by rw [mu_iv_oth _ _ (by omega)]; exact hF9.iv (hnS _ _ z1 z2) z4
  refine ⟨rfl, hF9.1.trans n3, (hG3.fi hF9 (fun q j z1 z2 => z2.elim id (fun z3 => by omega))).si (Nat.le_refl _) _, ?_⟩
  refine ⟨hF9.kd K0, hF9.rv R0, by rw [hlen]; exact hF9.kd K1, hF9.rv R5, hF9.kd K2, hF9.rv R6, hF9.kd K3, hF9.rv R9, hF9.kd K4, ⟨hok, iv8 (by omega) (by omega) (by omega) V1, iv8 (by omega) (by omega) (by omega) V2, iv8 (by omega) (by omega) (by omega) V3, iv8 (by omega) (by omega) (by omega) V4, hcnt⟩, fun j hj => ?_, fun k hk => iv8 (by omega) (by omega) (by omega) (hbe3 k hk), ?_, D, mu_iv_same _ _ _ _, hD, fun z => hWn (hblk z), fun k v z1 z2 => ?_⟩
  · rw [hlen] at hj
    have h128 := hok.2.1 j (by rw [hlen]; exact hj)
    rw [htxe] at h128 ⊢
    rw [← mb_lo _ h128]
    exact iv8 (by omega) (by omega) (by omega) (htx3 j hj)
  · rcases CLI.end hbl hO hC with ⟨z1, z2, z3⟩ | ⟨lo, hi, z1, z2, z3⟩
    · exact Or.inl ⟨z1, by rw [← z2]; exact iv8 (by omega) (by omega) (by omega) V7, fun c hc => by rw [← z3 c hc]; exact iv8 (by omega) (by omega) (by omega) (hor3 c hc)⟩
    · exact Or.inr ⟨lo, hi, z1, by rw [← z2]; exact iv8 (by omega) (by omega) (by omega) V7, by rw [← z3]; exact iv8 (by omega) (by omega) (by omega) V8⟩
  · obtain ⟨x, x1, x2⟩ := hbas k v z1 z2
    exact ⟨x, x1, by rw [mu_iv_oth _ _ (by omega)]; exact x2⟩
