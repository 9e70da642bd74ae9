/-! ===== bits of an int counted ===== -/
def ui (x : Int32) : Nat := x.toBitVec.toNat
theorem ui_lt (x : Int32) : ui x < 4294967296 := x.toBitVec.isLt
theorem ui_sub {a b : Int32} (h : ui b ≤ ui a) : ui (a - b) = ui a - ui b := by
  unfold ui at *
  rw [Int32.toBitVec_sub, BitVec.toNat_sub_of_le (by rw [BitVec.le_def]; exact h)]
theorem ui_add {a b : Int32} (h : ui a + ui b < 4294967296) : ui (a + b) = ui a + ui b := by
  unfold ui at *
  rw [Int32.toBitVec_add, BitVec.toNat_add, Nat.mod_eq_of_lt h]
theorem ui_and (a b : Int32) : ui (a &&& b) = ui a &&& ui b := by
  unfold ui
  rw [Int32.toBitVec_and, BitVec.toNat_and]
theorem mj_85 : ui (mI 1431655765) = mk8 85 4 := by decide +kernel
theorem mj_51 : ui (mI 858993459) = mk8 51 4 := by decide +kernel
theorem mj_15 : ui (mI 252645135) = mk8 15 4 := by decide +kernel
theorem bcU_ui (x : Int32) (k : Nat) (hk : k < 32) : ui (bcU x (k : Int)) = ui x / 2 ^ k := mu_ush x hk
/-- four bytes' counts added up -/
theorem bi_sum (x i i1 i2 : Nat) (hi : i = bm (pcn 8) 4 x) (h1 : i1 = i + i / 256) (h2 : i2 = i1 + i1 / 65536) : i2 % 64 = pcn 32 x ∧ i2 < 4294967296 ∧ i1 < 4294967296 := by
  have e : pcn 32 x = pcn 8 (x % 256) + (pcn 8 (x / 256 % 256) + (pcn 8 (x / 256 / 256 % 256) + pcn 8 (x / 256 / 256 / 256 % 256))) := by
    rw [show (32 : Nat) = 8 + 24 from rfl, pcn_add 8 24, show (24 : Nat) = 8 + 16 from rfl, pcn_add 8 16, show (16 : Nat) = 8 + 8 from rfl, pcn_add 8 8]
    rw [show (2 : Nat) ^ 8 = 256 from rfl]
    congr 3
    rw [show (8 : Nat) = 8 + 0 from rfl, pcn_add 8 0, pcn, Nat.add_zero]
  simp only [bm] at hi
  have q0 := pcn_le 8 (x % 256)
  have q1 := pcn_le 8 (x / 256 % 256)
  have q2 := pcn_le 8 (x / 256 / 256 % 256)
  have q3 := pcn_le 8 (x / 256 / 256 / 256 % 256)
  generalize pcn 8 (x % 256) = c0 at *
  generalize pcn 8 (x / 256 % 256) = c1 at *
  generalize pcn 8 (x / 256 / 256 % 256) = c2 at *
  generalize pcn 8 (x / 256 / 256 / 256 % 256) = c3 at *
  rw [e]
  clear e
  have a0 : i = c0 + 256 * (c1 + 256 * (c2 + 256 * c3)) := by omega
  have a1 : i / 256 = c1 + 256 * (c2 + 256 * c3) := by omega
  have a3 : i1 = (c0 + c1) + 256 * (c1 + c2) + 65536 * (c2 + c3 + 256 * c3) := by omega
  have a2 : i1 / 65536 = c2 + c3 + 256 * c3 := by omega
  have a4 : i2 = (c0 + c1 + c2 + c3) + 64 * (4 * (c1 + c2 + c3) + 1024 * (c2 + c3 + 256 * c3)) := by omega
  clear hi h1 h2 a0 a1 a2
  refine ⟨?_, ?_, ?_⟩
  · rw [a4, Nat.add_mul_mod_self_left, Nat.mod_eq_of_lt (by omega)]; omega
  · omega
  · omega
theorem bi_eq (x : Int32) : bcX x = mI (pcn 32 (ui x)) := by
  have hx := ui_lt x
  have a1 : ui (bcA x) = F1 4 (ui x) := by
    unfold bcA F1
    have e : ui (bcU x 1 &&& mI 1431655765) = ui x / 2 &&& mk8 85 4 := by
      rw [ui_and, mj_85, show (1 : Int) = ((1 : Nat) : Int) from rfl, bcU_ui x 1 (by decide)]
    rw [ui_sub (by rw [e]; exact Nat.le_trans Nat.and_le_left (Nat.div_le_self _ _)), e]
  have b1 : F1 4 (ui x) = bm f1 4 (ui x) := F1_bm 4 _ (by exact hx)
  have b2 : F2 4 (F1 4 (ui x)) = bm h12 4 (ui x) := by rw [b1]; exact F2_bm (fun b hb => (f12_lt b hb).1) 4 _
  have hh : ∀ b, b < 256 → h12 b < 256 := fun b hb => by have := (h12_ok b hb).1; omega
  have l2 := bm_lt hh 4 (ui x)
  have a2 : ui (bcB (bcA x)) = F2 4 (F1 4 (ui x)) := by
    unfold bcB
    have e1 : ui (bcA x &&& mI 858993459) = F1 4 (ui x) &&& mk8 51 4 := by rw [ui_and, mj_51, a1]
    have e2 : ui (bcU (bcA x) 2 &&& mI 858993459) = F1 4 (ui x) / 4 &&& mk8 51 4 := by rw [ui_and, mj_51, show (2 : Int) = ((2 : Nat) : Int) from rfl, bcU_ui _ 2 (by decide), a1]
    have e3 : (F1 4 (ui x) &&& mk8 51 4) + (F1 4 (ui x) / 4 &&& mk8 51 4) = F2 4 (F1 4 (ui x)) := rfl
    rw [ui_add (by rw [e1, e2, e3, b2]; exact l2), e1, e2, e3]
  have hlow : bm h12 4 (ui x) < 69 * 256 ^ 3 := by
    have : ∀ n y, bm h12 (n + 1) y < 69 * 256 ^ n := by
      intro n
      induction n with
      | zero => intro y; rw [bm, bm]; have := (h12_ok (y % 256) (by omega)).1; omega
      | succ n ih =>
        intro y
        rw [bm, Nat.pow_succ]
        have h1 := ih (y / 256)
        have h2 := (h12_ok (y % 256) (by omega)).1
        omega
    exact this 3 (ui x)
  have a3 : ui (bcC (bcB (bcA x))) = bm (pcn 8) 4 (ui x) := by
    rw [← T_bm (n := 4) (x := ui x) hx]
    unfold bcC F3
    have e1 : ui (bcU (bcB (bcA x)) 4) = F2 4 (F1 4 (ui x)) / 16 := by rw [show (4 : Int) = ((4 : Nat) : Int) from rfl, bcU_ui _ 4 (by decide), a2]
    rw [ui_and, mj_15, ui_add (by rw [e1, a2, b2]; omega), e1, a2]
  obtain ⟨s0, s1, s2⟩ := bi_sum (ui x) _ _ _ rfl rfl rfl
  have a4 : ui (bcD (bcC (bcB (bcA x)))) = bm (pcn 8) 4 (ui x) + bm (pcn 8) 4 (ui x) / 256 := by
    unfold bcD
    have e1 : ui (bcU (bcC (bcB (bcA x))) 8) = bm (pcn 8) 4 (ui x) / 256 := by rw [show (8 : Int) = ((8 : Nat) : Int) from rfl, bcU_ui _ 8 (by decide), a3]
    rw [ui_add (by rw [e1, a3]; exact s2), e1, a3]
  have a5 : ui (bcE (bcD (bcC (bcB (bcA x))))) = ui (bcD (bcC (bcB (bcA x)))) + ui (bcD (bcC (bcB (bcA x)))) / 65536 := by
    unfold bcE
    have e1 : ui (bcU (bcD (bcC (bcB (bcA x)))) 16) = ui (bcD (bcC (bcB (bcA x)))) / 65536 := by rw [show (16 : Int) = ((16 : Nat) : Int) from rfl, bcU_ui _ 16 (by decide)]
    rw [ui_add (by rw [e1, a4]; exact s1), e1]
  rw [← a4, ← a5] at s0
  unfold bcX
  generalize bcE (bcD (bcC (bcB (bcA x)))) = y at s0
  have h7 : (mI 63).toBitVec.toNat = 2 ^ 6 - 1 := by decide
  rw [pk_and _ 6 h7, mI_nat]
  unfold ui at s0
  rw [show y.toBitVec.toNat % 2 ^ 6 = y.toBitVec.toNat % 64 from rfl, s0]
  rfl
theorem ui_mI {n : Nat} (h : n < 2147483648) : ui (mI (n : Int)) = n := by
  unfold ui
  rw [mI_bv]
  omega
theorem c_bc (G : mu_G) {w : mu_W} {n : Nat} (h : n < 2147483648) : mu_Ct G M_J6_bitCount_0f7a4 [.int (mI n)] w (fun r w' => r = some (.int (mI (pcn 32 n : Nat))) ∧ w' = w) := by
  have h1 := c_J6_bitCount G (w := w) (x := mI n)
  rw [bi_eq, ui_mI h] at h1
  exact h1
/-- an int that is no number below 0, with bits -/
theorem mI_andN (a b : Nat) (ha : a < 2147483648) (hb : b < 2147483648) : mI (a : Int) &&& mI (b : Int) = mI ((a &&& b : Nat) : Int) := by
  have hl : a &&& b ≤ a := Nat.and_le_left
  apply Int32.toBitVec_inj.mp
  apply BitVec.eq_of_toNat_eq
  have e1 := ui_and (mI (a : Int)) (mI (b : Int))
  rw [ui_mI ha, ui_mI hb] at e1
  have e2 := ui_mI (n := a &&& b) (by omega)
  exact e1.trans e2.symm
