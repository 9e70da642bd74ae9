/-! ===== the box of the alive cells ===== -/
def cntX (c : Nat → Nat → Nat) (y : Nat) : Nat → Nat
  | 0 => 0
  | x + 1 => cntX c y x + c x y
def cntR (c : Nat → Nat → Nat) : Nat → Nat
  | 0 => 0
  | y + 1 => cntR c y + cntX c y 256
theorem cntX_le {c : Nat → Nat → Nat} (h : ∀ i j, c i j ≤ 1) (y : Nat) : ∀ x, cntX c y x ≤ x
  | 0 => Nat.le_refl _
  | x + 1 => by have := cntX_le h y x; have := h x y; rw [cntX]; omega
theorem cntR_le {c : Nat → Nat → Nat} (h : ∀ i j, c i j ≤ 1) : ∀ y, cntR c y ≤ 256 * y
  | 0 => Nat.le_refl _
  | y + 1 => by have := cntR_le h y; have := cntX_le h y 256; rw [cntR]; omega
/-- the box of the alive cells before row y, and of row y before column x; M of them -/
def LKP (c : Nat → Nat → Nat) (y x : Nat) (L R U D : Int) (M : Nat) : Prop := M = cntR c y + cntX c y x ∧ (∀ i j, i < 256 → (j < y ∨ (j = y ∧ i < x)) → c i j = 1 → L ≤ i ∧ (i : Int) ≤ R ∧ U ≤ j ∧ (j : Int) ≤ D) ∧ (M = 0 → L = 256 ∧ R = -1 ∧ U = 256 ∧ D = -1) ∧
  (M ≠ 0 → (0 ≤ L ∧ L ≤ R ∧ R ≤ 255 ∧ 0 ≤ U ∧ U ≤ D ∧ D ≤ 255) ∧ (∃ j, j < 256 ∧ c L.toNat j = 1) ∧ (∃ j, j < 256 ∧ c R.toNat j = 1) ∧ (∃ i, i < 256 ∧ c i U.toNat = 1) ∧ (∃ i, i < 256 ∧ c i D.toNat = 1))
theorem LKP.bd {c : Nat → Nat → Nat} {y x : Nat} {L R U D : Int} {M : Nat} (h : LKP c y x L R U D M) : -1 ≤ L ∧ L ≤ 256 ∧ -1 ≤ R ∧ R ≤ 256 ∧ -1 ≤ U ∧ U ≤ 256 ∧ -1 ≤ D ∧ D ≤ 256 := by
  by_cases hM : M = 0
  · have := h.2.2.1 hM; omega
  · have := (h.2.2.2 hM).1; omega
theorem LKP.start (c : Nat → Nat → Nat) : LKP c 0 0 256 (-1) 256 (-1) 0 := ⟨rfl, fun i j _ h => by omega, fun _ => ⟨rfl, rfl, rfl, rfl⟩, fun h => absurd rfl h⟩
theorem LKP.row {c : Nat → Nat → Nat} {y : Nat} {L R U D : Int} {M : Nat} (h : LKP c y 256 L R U D M) : LKP c (y + 1) 0 L R U D M := ⟨by rw [h.1, cntR, cntX, Nat.add_zero], fun i j hi hj hc => h.2.1 i j hi (by omega) hc, h.2.2.1, h.2.2.2⟩
theorem LKP.dead {c : Nat → Nat → Nat} {y x : Nat} {L R U D : Int} {M : Nat} (h : LKP c y x L R U D M) (h0 : c x y = 0) : LKP c y (x + 1) L R U D M := ⟨by rw [h.1, cntX, h0, Nat.add_zero], fun i j hi hj hc => h.2.1 i j hi (by
  by_cases e : j = y ∧ i = x
  · rw [e.1, e.2, h0] at hc; cases hc
  · omega) hc, h.2.2.1, h.2.2.2⟩
theorem LKP.live {c : Nat → Nat → Nat} {y x : Nat} {L R U D : Int} {M : Nat} (h : LKP c y x L R U D M) (hx : x < 256) (hy : y < 256) (h1 : c x y = 1) {L' R' U' D' : Int} (eL : L' = if (x : Int) < L then (x : Int) else L) (eR : R' = if R < (x : Int) then (x : Int) else R) (eU : U' = if (y : Int) < U then (y : Int) else U) (eD : D' = if D < (y : Int) then (y : Int) else D) : LKP c y (x + 1) L' R' U' D' (M + 1) := by
  have bL : (x < L ∧ L' = x) ∨ (¬ (x : Int) < L ∧ L' = L) := by by_cases q : (x : Int) < L <;> simp [q] at eL <;> simp [q, eL]
  have bR : (R < x ∧ R' = x) ∨ (¬ R < (x : Int) ∧ R' = R) := by by_cases q : R < (x : Int) <;> simp [q] at eR <;> simp [q, eR]
  have bU : (y < U ∧ U' = y) ∨ (¬ (y : Int) < U ∧ U' = U) := by by_cases q : (y : Int) < U <;> simp [q] at eU <;> simp [q, eU]
  have bD : (D < y ∧ D' = y) ∨ (¬ D < (y : Int) ∧ D' = D) := by by_cases q : D < (y : Int) <;> simp [q] at eD <;> simp [q, eD]
  have hbd := h.bd
  clear eL eR eU eD
  refine ⟨by rw [h.1, cntX, h1]; omega, fun i j hi hj hc => ?_, fun q => absurd q (by omega), fun _ => ?_⟩
  · by_cases e : j = y ∧ i = x
    · obtain ⟨e1, e2⟩ := e
      subst e1; subst e2
      omega
    · have := h.2.1 i j hi (by omega) hc
      omega
  · by_cases hM : M = 0
    · obtain ⟨a1, a2, a3, a4⟩ := h.2.2.1 hM
      have e1 : L' = x := by omega
      have e2 : R' = x := by omega
      have e3 : U' = y := by omega
      have e4 : D' = y := by omega
      subst e1; subst e2; subst e3; subst e4
      exact ⟨by omega, ⟨y, hy, by simpa using h1⟩, ⟨y, hy, by simpa using h1⟩, ⟨x, hx, by simpa using h1⟩, ⟨x, hx, by simpa using h1⟩⟩
    · obtain ⟨a1, a2, a3, a4, a5⟩ := h.2.2.2 hM
      refine ⟨by omega, ?_, ?_, ?_, ?_⟩
      · rcases bL with ⟨-, e⟩ | ⟨-, e⟩
        · rw [e]; exact ⟨y, hy, by simpa using h1⟩
        · rw [e]; exact a2
      · rcases bR with ⟨-, e⟩ | ⟨-, e⟩
        · rw [e]; exact ⟨y, hy, by simpa using h1⟩
        · rw [e]; exact a3
      · rcases bU with ⟨-, e⟩ | ⟨-, e⟩
        · rw [e]; exact ⟨x, hx, by simpa using h1⟩
        · rw [e]; exact a4
      · rcases bD with ⟨-, e⟩ | ⟨-, e⟩
        · rw [e]; exact ⟨x, hx, by simpa using h1⟩
        · rw [e]; exact a5
def lk_S (m : Nat) : Nat → Nat → Prop := fun a j => a = m ∧ 19 ≤ j ∧ j ≤ 23
def lk_F (w : mu_W) (m : Nat) (L R U D : Int) (M : Nat) : Prop := mu_iv w m 19 = mI L ∧ mu_iv w m 20 = mI R ∧ mu_iv w m 21 = mI U ∧ mu_iv w m 22 = mI D ∧ mu_iv w m 23 = mI M
theorem lk_F_mk (w : mu_W) (m : Nat) (L R U D : Int) (M : Nat) : lk_F (mu_si (mu_si (mu_si (mu_si (mu_si w m 19 (mI L)) m 20 (mI R)) m 21 (mI U)) m 22 (mI D)) m 23 (mI (M : Int))) m L R U D M := ⟨by rw [mu_iv_oth _ _ (by omega), mu_iv_oth _ _ (by omega), mu_iv_oth _ _ (by omega), mu_iv_oth _ _ (by omega), mu_iv_same], by rw [mu_iv_oth _ _ (by omega), mu_iv_oth _ _ (by omega), mu_iv_oth _ _ (by omega), mu_iv_same], by rw [mu_iv_oth _ _ (by omega), mu_iv_oth _ _ (by omega), mu_iv_same], by rw [mu_iv_oth _ _ (by omega), mu_iv_same], by rw [mu_iv_same]⟩
def lk_post (w : mu_W) (m : Nat) (c : Nat → Nat → Nat) (r : Option Value) (w' : mu_W) : Prop := r = none ∧ ∃ (L R U D : Int) (M : Nat), LKP c 256 0 L R U D M ∧ lk_F w' m L R U D M ∧ mu_Fi (lk_S m) w w'
theorem Bd.fi {S : Nat → Nat → Prop} {w w' : mu_W} {a N fr W H : Nat} {c : Nat → Nat → Nat} (h : Bd w a N fr W H c) (hF : mu_Fi S w w') (hS : ∀ j, ¬ S a j) : Bd w' a N fr W H c := ⟨hF.kd h.1, h.2.1, h.2.2.1, fun i j hi hj => hF.iv (hS _) (h.2.2.2.1 i j hi hj), h.2.2.2.2⟩

set_option maxHeartbeats 4000000 in
set_option maxRecDepth 100000 in
theorem c_X12_look (G : mu_G) {w : mu_W} {m : Nat} (hm : mo_ok w m) {a N fr : Nat} {c : Nat → Nat → Nat} (hB : Bd w a N fr 256 256 c) : mu_Ct G M_X12_look [.ref m, .ref a, .int (mI fr)] w (lk_post w m c) := by
  have hk0 := hm.1
  have hN := hB.2.1
  have hfr := hB.2.2.1
  have hne : a ≠ m := fun e => by have h1 := hB.1; rw [e, hk0] at h1; cases h1
  refine mu_ofWA G M_X12_look [.ref m, .ref a, .int (mI fr), mu_no, mu_no] (by decide) rfl (Nat.le_of_ble_eq_true rfl) ?_
  intro X E
  have B : mu_B X G cX12_look RX12 5 (mu_rm M_X12_look) := E.1
  have LY : ∀ y (s : (mu_W × Int × Int × Int × Int × Nat) × Value), y ≤ 256 → (LKP c y 0 s.1.2.1 s.1.2.2.1 s.1.2.2.2.1 s.1.2.2.2.2.1 s.1.2.2.2.2.2 ∧ lk_F s.1.1 m s.1.2.1 s.1.2.2.1 s.1.2.2.2.1 s.1.2.2.2.2.1 s.1.2.2.2.2.2 ∧ mu_Fi (lk_S m) w s.1.1) → mu_WA X G 5 (mu_Q X G M_X12_look (lk_post w m c)) s.1.1 0 0 31 [.ref m, .ref a, .int (mI fr), .int (mI y), s.2] [] := by
    refine mu_ind 256 (fun y (s : (mu_W × Int × Int × Int × Int × Nat) × Value) => mu_WA X G 5 (mu_Q X G M_X12_look (lk_post w m c)) s.1.1 0 0 31 [.ref m, .ref a, .int (mI fr), .int (mI y), s.2] []) (fun y s => LKP c y 0 s.1.2.1 s.1.2.2.1 s.1.2.2.2.1 s.1.2.2.2.2.1 s.1.2.2.2.2.2 ∧ lk_F s.1.1 m s.1.2.1 s.1.2.2.1 s.1.2.2.2.1 s.1.2.2.2.2.1 s.1.2.2.2.2.2 ∧ mu_Fi (lk_S m) w s.1.1) ?_
    rintro y ⟨⟨w1, L, R, U, D, M⟩, u4⟩ hy0 ⟨hlk, ⟨h19, h20, h21, h22, h23⟩, hF⟩ ihy
    dsimp only at hlk h19 h20 h21 h22 h23 hF ⊢
    refine mu_il_3 B dX12_look_31 ?_
    refine mu_sipush (v := mI 256) B dX12_look_32 (by decide) ?_
    refine mu_icmp_ge (tgt := 173) B dX12_look_35 (by decide) (fun c35 => ?_) (fun c35 => ?_)
    · try rw [mI_le ⟨by omega, by omega⟩ ⟨by omega, by omega⟩] at c35
      obtain rfl : y = 256 := by omega
      refine mu_vret E rfl (by decide) (by decide) dX12_look_173 ?_
      exact ⟨rfl, L, R, U, D, M, hlk, ⟨h19, h20, h21, h22, h23⟩, hF⟩
    · try rw [mI_le ⟨by omega, by omega⟩ ⟨by omega, by omega⟩] at c35
      have hy : y < 256 := by omega
      refine mu_iconst (v := mI 0) B dX12_look_38 rfl ?_
      refine mu_is_4 B dX12_look_39 (by decide) rfl ?_
      have LX : ∀ x (s : mu_W × Int × Int × Int × Int × Nat), x ≤ 256 → (LKP c y x s.2.1 s.2.2.1 s.2.2.2.1 s.2.2.2.2.1 s.2.2.2.2.2 ∧ lk_F s.1 m s.2.1 s.2.2.1 s.2.2.2.1 s.2.2.2.2.1 s.2.2.2.2.2 ∧ mu_Fi (lk_S m) w s.1) → mu_WA X G 5 (mu_Q X G M_X12_look (lk_post w m c)) s.1 0 0 41 [.ref m, .ref a, .int (mI fr), .int (mI y), .int (mI x)] [] := by
        refine mu_ind 256 (fun x (s : mu_W × Int × Int × Int × Int × Nat) => mu_WA X G 5 (mu_Q X G M_X12_look (lk_post w m c)) s.1 0 0 41 [.ref m, .ref a, .int (mI fr), .int (mI y), .int (mI x)] []) (fun x s => LKP c y x s.2.1 s.2.2.1 s.2.2.2.1 s.2.2.2.2.1 s.2.2.2.2.2 ∧ lk_F s.1 m s.2.1 s.2.2.1 s.2.2.2.1 s.2.2.2.2.1 s.2.2.2.2.2 ∧ mu_Fi (lk_S m) w s.1) ?_
        rintro x ⟨w1, L, R, U, D, M⟩ hx ⟨hlk, ⟨h19, h20, h21, h22, h23⟩, hF⟩ ih
        dsimp only at hlk h19 h20 h21 h22 h23 hF ⊢
        have hk1 := (hm.fi hF).1
        have hB1 := hB.fi hF (fun j hj => hne hj.1)
        have hka := hB1.1
        have hbd := hlk.bd
        have hMb : M ≤ 65536 := by rw [hlk.1]; have := cntR_le hB.2.2.2.2 y; have := cntX_le hB.2.2.2.2 y x; omega
        refine mu_il_4 B dX12_look_41 ?_
        refine mu_sipush (v := mI 256) B dX12_look_43 (by decide) ?_
        refine mu_icmp_ge (tgt := 167) B dX12_look_46 (by decide) (fun c46 => ?_) (fun c46 => ?_)
        · try rw [mI_le ⟨by omega, by omega⟩ ⟨by omega, by omega⟩] at c46
          obtain rfl : x = 256 := by omega
          refine mu_inc_3 (c := mI 1) B dX12_look_167 rfl (by decide) rfl ?_
          try rw [mI_add]
          refine mu_goto (tgt := 31) B dX12_look_170 (by decide) ?_
          exact mu_to (ihy ((w1, L, R, U, D, M), .int (mI ((256 : Nat) : Int))) (by omega) ⟨hlk.row, ⟨h19, h20, h21, h22, h23⟩, hF⟩) rfl (by rw [show ((y + 1 : Nat) : Int) = (y : Int) + 1 by omega])
        · try rw [mI_le ⟨by omega, by omega⟩ ⟨by omega, by omega⟩] at c46
          refine mu_al_1 B dX12_look_49 ?_
          refine mu_il_2 B dX12_look_50 ?_
          refine mu_sipush (v := mI 256) B dX12_look_51 (by decide) ?_
          refine mu_il_3 B dX12_look_54 ?_
          refine mu_imul B dX12_look_55 ?_
          try rw [mI_mul]
          refine mu_iadd B dX12_look_56 ?_
          try rw [mI_add]
          refine mu_il_4 B dX12_look_57 ?_
          refine mu_iadd B dX12_look_59 ?_
          try rw [mI_add]
          rw [show (fr : Int) + 256 * (y : Int) + (x : Int) = ((fr + 256 * y + x : Nat) : Int) by omega]
          refine mu_bald B dX12_look_60 (by assumption) (mI_inN (hB.ix (i := x) (j := y) (by omega) (by omega)) (by omega)) ?_
          rw [mI_clampN (by have := hB.ix (i := x) (j := y) (by omega) (by omega); omega), hB1.2.2.2.1 x y (by omega) (by omega)]
          have hcx := hB.2.2.2.2 x y
          refine mu_if_ne (tgt := 67) B dX12_look_61 (by decide) (fun c61 => ?_) (fun c61 => ?_)
          · try rw [mI_eq0 ⟨by omega, by omega⟩] at c61
            have hc1 : c x y = 1 := by have := hB.2.2.2.2 x y; omega
            obtain ⟨L2, hL2⟩ : ∃ q, q = (if (x : Int) < L then (x : Int) else L) := ⟨_, rfl⟩
            obtain ⟨R2, hR2⟩ : ∃ q, q = (if R < (x : Int) then (x : Int) else R) := ⟨_, rfl⟩
            obtain ⟨U2, hU2⟩ : ∃ q, q = (if (y : Int) < U then (y : Int) else U) := ⟨_, rfl⟩
            obtain ⟨D2, hD2⟩ : ∃ q, q = (if D < (y : Int) then (y : Int) else D) := ⟨_, rfl⟩
            have hJ4 : ∀ v : Int, v = (if D < (y : Int) then (y : Int) else D) → mu_WA X G 5 (mu_Q X G M_X12_look (lk_post w m c)) (mu_si (mu_si (mu_si w1 m 19 (mI L2)) m 20 (mI R2)) m 21 (mI U2)) 0 0 148 [.ref m, .ref a, .int (mI fr), .int (mI y), .int (mI x)] [.int (mI v), .ref m] := by
              intro v hv
              rw [← hD2] at hv
              rw [hv]
              refine mu_putI B dX12_look_148 fX12_198 fwX12_22 rfl (by assumption) ?_
              refine mu_al_0 B dX12_look_151 ?_
              refine mu_dup B dX12_look_152 rfl ?_
              refine mu_getI B dX12_look_153 fX12_201 rfl (by assumption) ?_
              rw [mu_iv_oth _ _ (by omega), mu_iv_oth _ _ (by omega), mu_iv_oth _ _ (by omega), mu_iv_oth _ _ (by omega), h23]
              refine mu_iconst (v := mI 1) B dX12_look_156 rfl ?_
              refine mu_iadd B dX12_look_157 ?_
              try rw [mI_add]
              refine mu_putI B dX12_look_158 fX12_201 fwX12_23 rfl (by assumption) ?_
              refine mu_inc_4 (c := mI 1) B dX12_look_161 rfl (by decide) rfl ?_
              try rw [mI_add]
              refine mu_goto (tgt := 41) B dX12_look_164 (by decide) ?_
              refine mu_to (ih ((mu_si (mu_si (mu_si (mu_si (mu_si w1 m 19 (mI L2)) m 20 (mI R2)) m 21 (mI U2)) m 22 (mI D2)) m 23 (mI ((M : Int) + 1))), L2, R2, U2, D2, M + 1) (by omega) ⟨hlk.live (by omega) hy hc1 hL2 hR2 hU2 hD2, lk_F_mk w1 m L2 R2 U2 D2 (M + 1), ((((hF.si ⟨rfl, by decide, by decide⟩).si ⟨rfl, by decide, by decide⟩).si ⟨rfl, by decide, by decide⟩).si ⟨rfl, by decide, by decide⟩).si ⟨rfl, by decide, by decide⟩⟩) rfl (by rw [show ((x + 1 : Nat) : Int) = (x : Int) + 1 by omega])
            have hJ3 : ∀ v : Int, v = (if (y : Int) < U then (y : Int) else U) → mu_WA X G 5 (mu_Q X G M_X12_look (lk_post w m c)) (mu_si (mu_si w1 m 19 (mI L2)) m 20 (mI R2)) 0 0 128 [.ref m, .ref a, .int (mI fr), .int (mI y), .int (mI x)] [.int (mI v), .ref m] := by
              intro v hv
              rw [← hU2] at hv
              rw [hv]
              refine mu_putI B dX12_look_128 fX12_195 fwX12_21 rfl (by assumption) ?_
              refine mu_al_0 B dX12_look_131 ?_
              refine mu_il_3 B dX12_look_132 ?_
              refine mu_al_0 B dX12_look_133 ?_
              refine mu_getI B dX12_look_134 fX12_198 rfl (by assumption) ?_
              rw [mu_iv_oth _ _ (by omega), mu_iv_oth _ _ (by omega), mu_iv_oth _ _ (by omega), h22]
              refine mu_icmp_le (tgt := 144) B dX12_look_137 (by decide) (fun c137 => ?_) (fun c137 => ?_)
              · try rw [mI_le ⟨by omega, by omega⟩ ⟨by omega, by omega⟩] at c137
                refine mu_al_0 B dX12_look_144 ?_
                refine mu_getI B dX12_look_145 fX12_198 rfl (by assumption) ?_
                rw [mu_iv_oth _ _ (by omega), mu_iv_oth _ _ (by omega), mu_iv_oth _ _ (by omega), h22]
                first | exact hJ4 _ (by rw [if_pos (by omega)]) | exact hJ4 _ (by rw [if_neg (by omega)])
              · try rw [mI_le ⟨by omega, by omega⟩ ⟨by omega, by omega⟩] at c137
                refine mu_il_3 B dX12_look_140 ?_
                refine mu_goto (tgt := 148) B dX12_look_141 (by decide) ?_
                first | exact hJ4 _ (by rw [if_pos (by omega)]) | exact hJ4 _ (by rw [if_neg (by omega)])
            have hJ2 : ∀ v : Int, v = (if R < (x : Int) then (x : Int) else R) → mu_WA X G 5 (mu_Q X G M_X12_look (lk_post w m c)) (mu_si w1 m 19 (mI L2)) 0 0 108 [.ref m, .ref a, .int (mI fr), .int (mI y), .int (mI x)] [.int (mI v), .ref m] := by
              intro v hv
              rw [← hR2] at hv
              rw [hv]
              refine mu_putI B dX12_look_108 fX12_192 fwX12_20 rfl (by assumption) ?_
              refine mu_al_0 B dX12_look_111 ?_
              refine mu_il_3 B dX12_look_112 ?_
              refine mu_al_0 B dX12_look_113 ?_
              refine mu_getI B dX12_look_114 fX12_195 rfl (by assumption) ?_
              rw [mu_iv_oth _ _ (by omega), mu_iv_oth _ _ (by omega), h21]
              refine mu_icmp_ge (tgt := 124) B dX12_look_117 (by decide) (fun c117 => ?_) (fun c117 => ?_)
              · try rw [mI_le ⟨by omega, by omega⟩ ⟨by omega, by omega⟩] at c117
                refine mu_al_0 B dX12_look_124 ?_
                refine mu_getI B dX12_look_125 fX12_195 rfl (by assumption) ?_
                rw [mu_iv_oth _ _ (by omega), mu_iv_oth _ _ (by omega), h21]
                first | exact hJ3 _ (by rw [if_pos (by omega)]) | exact hJ3 _ (by rw [if_neg (by omega)])
              · try rw [mI_le ⟨by omega, by omega⟩ ⟨by omega, by omega⟩] at c117
                refine mu_il_3 B dX12_look_120 ?_
                refine mu_goto (tgt := 128) B dX12_look_121 (by decide) ?_
                first | exact hJ3 _ (by rw [if_pos (by omega)]) | exact hJ3 _ (by rw [if_neg (by omega)])
            have hJ1 : ∀ v : Int, v = (if (x : Int) < L then (x : Int) else L) → mu_WA X G 5 (mu_Q X G M_X12_look (lk_post w m c)) w1 0 0 86 [.ref m, .ref a, .int (mI fr), .int (mI y), .int (mI x)] [.int (mI v), .ref m] := by
              intro v hv
              rw [← hL2] at hv
              rw [hv]
              refine mu_putI B dX12_look_86 fX12_189 fwX12_19 rfl (by assumption) ?_
              refine mu_al_0 B dX12_look_89 ?_
              refine mu_il_4 B dX12_look_90 ?_
              refine mu_al_0 B dX12_look_92 ?_
              refine mu_getI B dX12_look_93 fX12_192 rfl (by assumption) ?_
              rw [mu_iv_oth _ _ (by omega), h20]
              refine mu_icmp_le (tgt := 104) B dX12_look_96 (by decide) (fun c96 => ?_) (fun c96 => ?_)
              · try rw [mI_le ⟨by omega, by omega⟩ ⟨by omega, by omega⟩] at c96
                refine mu_al_0 B dX12_look_104 ?_
                refine mu_getI B dX12_look_105 fX12_192 rfl (by assumption) ?_
                rw [mu_iv_oth _ _ (by omega), h20]
                first | exact hJ2 _ (by rw [if_pos (by omega)]) | exact hJ2 _ (by rw [if_neg (by omega)])
              · try rw [mI_le ⟨by omega, by omega⟩ ⟨by omega, by omega⟩] at c96
                refine mu_il_4 B dX12_look_99 ?_
                refine mu_goto (tgt := 108) B dX12_look_101 (by decide) ?_
                first | exact hJ2 _ (by rw [if_pos (by omega)]) | exact hJ2 _ (by rw [if_neg (by omega)])
            refine mu_al_0 B dX12_look_67 ?_
            refine mu_il_4 B dX12_look_68 ?_
            refine mu_al_0 B dX12_look_70 ?_
            refine mu_getI B dX12_look_71 fX12_189 rfl (by assumption) ?_
            rw [h19]
            refine mu_icmp_ge (tgt := 82) B dX12_look_74 (by decide) (fun c74 => ?_) (fun c74 => ?_)
            · try rw [mI_le ⟨by omega, by omega⟩ ⟨by omega, by omega⟩] at c74
              refine mu_al_0 B dX12_look_82 ?_
              refine mu_getI B dX12_look_83 fX12_189 rfl (by assumption) ?_
              rw [h19]
              first | exact hJ1 _ (by rw [if_pos (by omega)]) | exact hJ1 _ (by rw [if_neg (by omega)])
            · try rw [mI_le ⟨by omega, by omega⟩ ⟨by omega, by omega⟩] at c74
              refine mu_il_4 B dX12_look_77 ?_
              refine mu_goto (tgt := 86) B dX12_look_79 (by decide) ?_
              first | exact hJ1 _ (by rw [if_pos (by omega)]) | exact hJ1 _ (by rw [if_neg (by omega)])
          · try rw [mI_eq0 ⟨by omega, by omega⟩] at c61
            refine mu_goto (tgt := 161) B dX12_look_64 (by decide) ?_
            refine mu_inc_4 (c := mI 1) B dX12_look_161 rfl (by decide) rfl ?_
            try rw [mI_add]
            refine mu_goto (tgt := 41) B dX12_look_164 (by decide) ?_
            refine mu_to (ih (w1, L, R, U, D, M) (by omega) ⟨hlk.dead (by omega), ⟨h19, h20, h21, h22, h23⟩, hF⟩) rfl (by rw [show ((x + 1 : Nat) : Int) = (x : Int) + 1 by omega])
      exact LX 0 (w1, L, R, U, D, M) (by decide) ⟨hlk, ⟨h19, h20, h21, h22, h23⟩, hF⟩
  show mu_WA X G 5 _ _ 0 0 0 _ []
  refine mu_al_0 B dX12_look_0 ?_
  refine mu_sipush (v := mI 256) B dX12_look_1 (by decide) ?_
  refine mu_putI B dX12_look_4 fX12_189 fwX12_19 rfl (by assumption) ?_
  refine mu_al_0 B dX12_look_7 ?_
  refine mu_iconst (v := mI (-1)) B dX12_look_8 rfl ?_
  refine mu_putI B dX12_look_9 fX12_192 fwX12_20 rfl (by assumption) ?_
  refine mu_al_0 B dX12_look_12 ?_
  refine mu_sipush (v := mI 256) B dX12_look_13 (by decide) ?_
  refine mu_putI B dX12_look_16 fX12_195 fwX12_21 rfl (by assumption) ?_
  refine mu_al_0 B dX12_look_19 ?_
  refine mu_iconst (v := mI (-1)) B dX12_look_20 rfl ?_
  refine mu_putI B dX12_look_21 fX12_198 fwX12_22 rfl (by assumption) ?_
  refine mu_al_0 B dX12_look_24 ?_
  refine mu_iconst (v := mI 0) B dX12_look_25 rfl ?_
  refine mu_putI B dX12_look_26 fX12_201 fwX12_23 rfl (by assumption) ?_
  refine mu_iconst (v := mI 0) B dX12_look_29 rfl ?_
  refine mu_is_3 B dX12_look_30 (by decide) rfl ?_
  exact LY 0 ((mu_si (mu_si (mu_si (mu_si (mu_si w m 19 (mI 256)) m 20 (mI (-1))) m 21 (mI 256)) m 22 (mI (-1))) m 23 (mI 0), 256, -1, 256, -1, 0), mu_no) (by decide) ⟨LKP.start c, lk_F_mk w m 256 (-1) 256 (-1) 0, (((((mu_Fi.refl w).si ⟨rfl, by decide, by decide⟩).si ⟨rfl, by decide, by decide⟩).si ⟨rfl, by decide, by decide⟩).si ⟨rfl, by decide, by decide⟩).si ⟨rfl, by decide, by decide⟩⟩
