/-! ===== grids as values ===== -/
abbrev mu_GS : Type := Nat × Nat × Nat × Nat × (Nat → Nat → Nat)
def gs_r (g : mu_GS) : Nat := g.1
def gs_R (g : mu_GS) : Nat := g.2.1
def gs_C (g : mu_GS) : Nat := g.2.2.1
def gs_n (g : mu_GS) : Nat := g.2.2.2.1
def gs_c (g : mu_GS) : Nat → Nat → Nat := g.2.2.2.2
def gs_sd (n : Nat) : Prop := 2 ≤ n ∧ n ≤ 16 ∧ n % 2 = 0
def gs_ok (nr : Nat) (rs : Nat → mu_RS) (g : mu_GS) : Prop := gs_r g < nr ∧ rs_nb (rs (gs_r g)) = 0 ∧ gs_sd (gs_R g) ∧ gs_sd (gs_C g) ∧ gs_n g ≤ 1000000 ∧ ∀ i j, gs_c g i j < rs_S (rs (gs_r g))
def MGr (w : mu_W) (m nr : Nat) (rs : Nat → mu_RS) (ng : Nat) (gs : Nat → mu_GS) : Prop := ng ≤ 8 ∧ mu_iv w m 46 = mI ng ∧ ∀ g, g < ng → gs_ok nr rs (gs g) ∧ mu_iv w (m + 27) g = mI (gs_r (gs g)) ∧ mu_iv w (m + 28) g = mI (gs_R (gs g)) ∧ mu_iv w (m + 29) g = mI (gs_C (gs g)) ∧ mu_iv w (m + 30) g = mI (gs_n (gs g)) ∧
  ∀ i j, i < gs_R (gs g) → j < gs_C (gs g) → mu_iv w (m + 31) (256 * g + gs_C (gs g) * i + j) = mI (gs_c (gs g) i j)
theorem gs_ix {R C i j : Nat} (hR : gs_sd R) (hC : gs_sd C) (hi : i < R) (hj : j < C) : C * i + j < R * C ∧ R * C ≤ 256 := by
  obtain ⟨r1, r2, r3⟩ := hR
  obtain ⟨c1, c2, c3⟩ := hC
  have h1 : C * (i + 1) ≤ C * R := Nat.mul_le_mul_left C (by omega)
  have h2 : R * C ≤ 16 * 16 := Nat.mul_le_mul r2 c2
  rw [Nat.mul_comm R C] at *
  rw [Nat.mul_add] at h1
  omega
theorem gs_inj {C i j i' j' : Nat} (hj : j < C) (hj' : j' < C) (h : C * i + j = C * i' + j') : i = i' ∧ j = j' := by
  have e1 : (C * i + j) / C = i := by rw [Nat.mul_add_div (by omega), Nat.div_eq_of_lt hj, Nat.add_zero]
  have e2 : (C * i' + j') / C = i' := by rw [Nat.mul_add_div (by omega), Nat.div_eq_of_lt hj', Nat.add_zero]
  have e3 : i = i' := by rw [← e1, h, e2]
  subst e3
  exact ⟨rfl, by omega⟩
theorem MGr.eqs {w w' : mu_W} {m nr : Nat} {rs : Nat → mu_RS} {ng : Nat} {gs : Nat → mu_GS} (h : MGr w m nr rs ng gs) (h1 : mu_iv w' m 46 = mu_iv w m 46) (h2 : ∀ q j, m + 27 ≤ q → q ≤ m + 31 → mu_iv w' q j = mu_iv w q j) : MGr w' m nr rs ng gs := ⟨h.1, h1.trans h.2.1, fun g hg => by
  obtain ⟨g1, g2, g3, g4, g5, g6⟩ := h.2.2 g hg
  exact ⟨g1, (h2 _ _ (by omega) (by omega)).trans g2, (h2 _ _ (by omega) (by omega)).trans g3, (h2 _ _ (by omega) (by omega)).trans g4, (h2 _ _ (by omega) (by omega)).trans g5, fun i j hi hj => (h2 _ _ (by omega) (by omega)).trans (g6 i j hi hj)⟩⟩
def gi_up (gs : Nat → mu_GS) (g n : Nat) (c : Nat → Nat → Nat) : Nat → mu_GS := rs_up gs g (gs_r (gs g), gs_R (gs g), gs_C (gs g), n, c)
theorem MGr.cells {w w' : mu_W} {m nr : Nat} {rs : Nat → mu_RS} {ng : Nat} {gs : Nat → mu_GS} (h : MGr w m nr rs ng gs) {g n : Nat} (hg : g < ng) (hn : n ≤ 1000000) {c : Nat → Nat → Nat} (hc : ∀ i j, c i j < rs_S (rs (gs_r (gs g)))) (h1 : mu_iv w' m 46 = mu_iv w m 46) (h2 : ∀ q j, m + 27 ≤ q → q ≤ m + 29 → mu_iv w' q j = mu_iv w q j) (h3 : ∀ j, j ≠ g → mu_iv w' (m + 30) j = mu_iv w (m + 30) j) (h4 : mu_iv w' (m + 30) g = mI n) (h5 : ∀ j, ¬ (256 * g ≤ j ∧ j < 256 * g + 256) → mu_iv w' (m + 31) j = mu_iv w (m + 31) j)
    (h6 : ∀ i j, i < gs_R (gs g) → j < gs_C (gs g) → mu_iv w' (m + 31) (256 * g + gs_C (gs g) * i + j) = mI (c i j)) : MGr w' m nr rs ng (gi_up gs g n c) := ⟨h.1, h1.trans h.2.1, fun q hq => by
  obtain ⟨g1, g2, g3, g4, g5, g6⟩ := h.2.2 q hq
  by_cases e : q = g
  · subst e
    have e1 : gi_up gs q n c q = (gs_r (gs q), gs_R (gs q), gs_C (gs q), n, c) := by unfold gi_up rs_up; rw [if_pos rfl]
    rw [e1]
    exact ⟨⟨g1.1, g1.2.1, g1.2.2.1, g1.2.2.2.1, hn, hc⟩, (h2 _ _ (by omega) (by omega)).trans g2, (h2 _ _ (by omega) (by omega)).trans g3, (h2 _ _ (by omega) (by omega)).trans g4, h4, h6⟩
  · have e1 : gi_up gs g n c q = gs q := by unfold gi_up rs_up; rw [if_neg e]
    rw [e1]
    refine ⟨g1, (h2 _ _ (by omega) (by omega)).trans g2, (h2 _ _ (by omega) (by omega)).trans g3, (h2 _ _ (by omega) (by omega)).trans g4, (h3 _ e).trans g5, fun i j hi hj => ?_⟩
    have hx := gs_ix g1.2.2.1 g1.2.2.2.1 hi hj
    exact (h5 _ (by omega)).trans (g6 i j hi hj)⟩
def cu (c : Nat → Nat → Nat) (i j v : Nat) : Nat → Nat → Nat := fun a b => if a = i ∧ b = j then v else c a b
theorem cu_lt {c : Nat → Nat → Nat} {i j v S : Nat} (hc : ∀ a b, c a b < S) (hv : v < S) : ∀ a b, cu c i j v a b < S := fun a b => by
  unfold cu
  by_cases h : a = i ∧ b = j
  · rw [if_pos h]; exact hv
  · rw [if_neg h]; exact hc a b
theorem rs_S_bd {r : mu_RS} (h : rs_ok r) (h0 : rs_nb r = 0) : 2 ≤ rs_S r ∧ rs_S r ≤ 4 ∧ ∀ k, k < rs_S r * rs_S r * rs_S r * rs_S r → rs_be r k < rs_S r * rs_S r * rs_S r * rs_S r := by
  rcases h.2.2 with ⟨-, h1, h2, h3⟩ | ⟨h1, -⟩
  · exact ⟨h1, h2, h3⟩
  · omega
theorem s4_le {S : Nat} (h : 2 ≤ S ∧ S ≤ 4) : 16 ≤ S * S * S * S ∧ S * S * S * S ≤ 256 := by
  obtain ⟨h1, h2⟩ := h
  rcases (show S = 2 ∨ S = 3 ∨ S = 4 by omega) with rfl | rfl | rfl <;> decide

set_option maxHeartbeats 4000000 in
set_option maxRecDepth 100000 in
theorem c_X12_isCell (G : mu_G) {w : mu_W} {m : Nat} (hm : mo_ok w m) {nr : Nat} {rs : Nat → mu_RS} {ng : Nat} {gs : Nat → mu_GS} (hgr : MGr w m nr rs ng gs) {z x y : Int} (hz : mi_ok z) (hx : mi_ok x) (hy : mi_ok y) : mu_Ct G M_X12_isCell [.ref m, .int (mI z), .int (mI x), .int (mI y)] w (fun r w' => r = some (.int (if (0 ≤ z ∧ z < ng) ∧ (0 ≤ x ∧ x < gs_R (gs z.toNat)) ∧ 0 ≤ y ∧ y < gs_C (gs z.toNat) then mI 1 else mI 0)) ∧ w' = w) := by
  have hk0 := hm.1
  have hng := hgr.1
  obtain ⟨hz1, hz2⟩ := id hz
  obtain ⟨hx1, hx2⟩ := hx
  obtain ⟨hy1, hy2⟩ := hy
  obtain ⟨r48, k48⟩ := mo_48 hm
  obtain ⟨r49, k49⟩ := mo_49 hm
  refine mu_ofWA G M_X12_isCell [.ref m, .int (mI z), .int (mI x), .int (mI y)] (by decide) rfl (Nat.le_of_ble_eq_true rfl) ?_
  intro X E
  have B : mu_B X G cX12_isCell RX12 4 (mu_rm M_X12_isCell) := E.1
  show mu_WA X G 4 _ _ 0 0 0 _ []
  refine mu_al_0 B dX12_isCell_0 ?_
  refine mu_il_1 B dX12_isCell_1 ?_
  refine mu_eV1 B dX12_isCell_2 mX12_316 ⟨⟨by decide, by decide⟩, by decide, by decide⟩ (Nat.le_of_ble_eq_true rfl) (by assumption) (c_X12_isGrid G hm (n := ng) hgr.2.1 hgr.1 hz) ?_
  refine mu_if_eq (tgt := 40) B dX12_isCell_5 (by decide) (fun c5 => ?_) (fun c5 => ?_)
  · have z5 := mu_bf c5
    refine mu_iconst (v := mI 0) B dX12_isCell_40 rfl ?_
    refine mu_zret E rfl (by decide) (by decide) dX12_isCell_41 (by decide) ?_
    refine ⟨?_, rfl⟩
    first | (rw [if_neg (fun hh => z5 hh.1)]) | (rw [Int.toNat_natCast]; first | rw [if_pos (by omega)] | rw [if_neg (by omega)])
  · have z5 := mu_bt c5
    obtain ⟨g, hg⟩ : ∃ g : Nat, z = g := ⟨z.toNat, by omega⟩
    subst hg
    obtain ⟨g1, g2, g3, g4, g5, g6⟩ := hgr.2.2 g (by omega)
    obtain ⟨⟨R1, R2, R3⟩, ⟨C1, C2, C3⟩⟩ : gs_sd (gs_R (gs g)) ∧ gs_sd (gs_C (gs g)) := ⟨g1.2.2.1, g1.2.2.2.1⟩
    refine mu_il_2 B dX12_isCell_8 ?_
    refine mu_if_lt (tgt := 40) B dX12_isCell_9 (by decide) (fun c9 => ?_) (fun c9 => ?_)
    · try rw [mI_lt0 ⟨by omega, by omega⟩] at c9
      refine mu_iconst (v := mI 0) B dX12_isCell_40 rfl ?_
      refine mu_zret E rfl (by decide) (by decide) dX12_isCell_41 (by decide) ?_
      refine ⟨?_, rfl⟩
      first | (rw [if_neg (fun hh => z5 hh.1)]) | (rw [Int.toNat_natCast]; first | rw [if_pos (by omega)] | rw [if_neg (by omega)])
    · try rw [mI_lt0 ⟨by omega, by omega⟩] at c9
      refine mu_il_2 B dX12_isCell_12 ?_
      refine mu_al_0 B dX12_isCell_13 ?_
      refine mu_getR B dX12_isCell_14 fX12_96 rfl (by assumption) (by assumption) ?_
      refine mu_il_1 B dX12_isCell_17 ?_
      refine mu_iald B dX12_isCell_18 (by assumption) (mI_inN (by omega) (by decide)) ?_
      rw [mI_clampN (by omega), g3]
      refine mu_icmp_ge (tgt := 40) B dX12_isCell_19 (by decide) (fun c19 => ?_) (fun c19 => ?_)
      · try rw [mI_le ⟨by omega, by omega⟩ ⟨by omega, by omega⟩] at c19
        refine mu_iconst (v := mI 0) B dX12_isCell_40 rfl ?_
        refine mu_zret E rfl (by decide) (by decide) dX12_isCell_41 (by decide) ?_
        refine ⟨?_, rfl⟩
        first | (rw [if_neg (fun hh => z5 hh.1)]) | (rw [Int.toNat_natCast]; first | rw [if_pos (by omega)] | rw [if_neg (by omega)])
      · try rw [mI_le ⟨by omega, by omega⟩ ⟨by omega, by omega⟩] at c19
        refine mu_il_3 B dX12_isCell_22 ?_
        refine mu_if_lt (tgt := 40) B dX12_isCell_23 (by decide) (fun c23 => ?_) (fun c23 => ?_)
        · try rw [mI_lt0 ⟨by omega, by omega⟩] at c23
          refine mu_iconst (v := mI 0) B dX12_isCell_40 rfl ?_
          refine mu_zret E rfl (by decide) (by decide) dX12_isCell_41 (by decide) ?_
          refine ⟨?_, rfl⟩
          first | (rw [if_neg (fun hh => z5 hh.1)]) | (rw [Int.toNat_natCast]; first | rw [if_pos (by omega)] | rw [if_neg (by omega)])
        · try rw [mI_lt0 ⟨by omega, by omega⟩] at c23
          refine mu_il_3 B dX12_isCell_26 ?_
          refine mu_al_0 B dX12_isCell_27 ?_
          refine mu_getR B dX12_isCell_28 fX12_99 rfl (by assumption) (by assumption) ?_
          refine mu_il_1 B dX12_isCell_31 ?_
          refine mu_iald B dX12_isCell_32 (by assumption) (mI_inN (by omega) (by decide)) ?_
          rw [mI_clampN (by omega), g4]
          refine mu_icmp_ge (tgt := 40) B dX12_isCell_33 (by decide) (fun c33 => ?_) (fun c33 => ?_)
          · try rw [mI_le ⟨by omega, by omega⟩ ⟨by omega, by omega⟩] at c33
            refine mu_iconst (v := mI 0) B dX12_isCell_40 rfl ?_
            refine mu_zret E rfl (by decide) (by decide) dX12_isCell_41 (by decide) ?_
            refine ⟨?_, rfl⟩
            first | (rw [if_neg (fun hh => z5 hh.1)]) | (rw [Int.toNat_natCast]; first | rw [if_pos (by omega)] | rw [if_neg (by omega)])
          · try rw [mI_le ⟨by omega, by omega⟩ ⟨by omega, by omega⟩] at c33
            refine mu_iconst (v := mI 1) B dX12_isCell_36 rfl ?_
            refine mu_goto (tgt := 41) B dX12_isCell_37 (by decide) ?_
            refine mu_zret E rfl (by decide) (by decide) dX12_isCell_41 (by decide) ?_
            refine ⟨?_, rfl⟩
            first | (rw [if_neg (fun hh => z5 hh.1)]) | (rw [Int.toNat_natCast]; first | rw [if_pos (by omega)] | rw [if_neg (by omega)])

set_option maxHeartbeats 4000000 in
set_option maxRecDepth 100000 in
theorem c_X12_cell (G : mu_G) {w : mu_W} {m : Nat} (hm : mo_ok w m) {nr : Nat} {rs : Nat → mu_RS} {ng : Nat} {gs : Nat → mu_GS} (hgr : MGr w m nr rs ng gs) {z x y : Int} (hz : mi_ok z) (hx : mi_ok x) (hy : mi_ok y) : mu_Ct G M_X12_cell [.ref m, .int (mI z), .int (mI x), .int (mI y)] w (fun r w' => r = some (.int (if (0 ≤ z ∧ z < ng) ∧ (0 ≤ x ∧ x < gs_R (gs z.toNat)) ∧ 0 ≤ y ∧ y < gs_C (gs z.toNat) then mI (gs_c (gs z.toNat) x.toNat y.toNat) else mI (-1))) ∧ w' = w) := by
  have hk0 := hm.1
  have hng := hgr.1
  obtain ⟨hz1, hz2⟩ := id hz
  obtain ⟨r51, k51⟩ := mo_51 hm
  obtain ⟨r47, k47⟩ := mo_47 hm
  obtain ⟨r6, k6⟩ := mo_6 hm
  obtain ⟨hx1, hx2⟩ := id hx
  obtain ⟨hy1, hy2⟩ := id hy
  refine mu_ofWA G M_X12_cell [.ref m, .int (mI z), .int (mI x), .int (mI y)] (by decide) rfl (Nat.le_of_ble_eq_true rfl) ?_
  intro X E
  have B : mu_B X G cX12_cell RX12 4 (mu_rm M_X12_cell) := E.1
  show mu_WA X G 4 _ _ 0 0 0 _ []
  refine mu_al_0 B dX12_cell_0 ?_
  refine mu_il_1 B dX12_cell_1 ?_
  refine mu_il_2 B dX12_cell_2 ?_
  refine mu_il_3 B dX12_cell_3 ?_
  refine mu_eV3 B dX12_cell_4 mX12_319 ⟨⟨by decide, by decide⟩, by decide, by decide⟩ (Nat.le_of_ble_eq_true rfl) (by assumption) (c_X12_isCell G hm hgr hz hx hy) ?_
  refine mu_if_eq (tgt := 25) B dX12_cell_7 (by decide) (fun c7 => ?_) (fun c7 => ?_)
  · have z7 := mu_bf c7
    refine mu_iconst (v := mI (-1)) B dX12_cell_25 rfl ?_
    refine mu_iret E rfl (by decide) (by decide) dX12_cell_26 ?_
    refine ⟨?_, rfl⟩
    first | rw [if_neg z7] | (rw [if_pos ⟨by omega, by rw [Int.toNat_natCast]; omega, by rw [Int.toNat_natCast]; omega⟩]; rfl)
  · have z7 := mu_bt c7
    obtain ⟨g, hg⟩ : ∃ g : Nat, z = g := ⟨z.toNat, by omega⟩
    subst hg
    obtain ⟨g1, g2, g3, g4, g5, g6⟩ := hgr.2.2 g (by omega)
    obtain ⟨⟨R1, R2, R3⟩, ⟨C1, C2, C3⟩⟩ : gs_sd (gs_R (gs g)) ∧ gs_sd (gs_C (gs g)) := ⟨g1.2.2.1, g1.2.2.2.1⟩
    rw [Int.toNat_natCast] at z7
    obtain ⟨i, hi⟩ : ∃ i : Nat, x = i := ⟨x.toNat, by omega⟩
    subst hi
    obtain ⟨j, hj⟩ : ∃ j : Nat, y = j := ⟨y.toNat, by omega⟩
    subst hj
    have hi : i < gs_R (gs g) := by omega
    have hj : j < gs_C (gs g) := by omega
    have hix := gs_ix g1.2.2.1 g1.2.2.2.1 hi hj
    refine mu_al_0 B dX12_cell_10 ?_
    refine mu_getR B dX12_cell_11 fX12_105 rfl (by assumption) (by assumption) ?_
    refine mu_al_0 B dX12_cell_14 ?_
    refine mu_il_1 B dX12_cell_15 ?_
    refine mu_il_2 B dX12_cell_16 ?_
    refine mu_il_3 B dX12_cell_17 ?_
    refine mu_eV3 B dX12_cell_18 mX12_323 ⟨⟨by decide, by decide⟩, by decide, by decide⟩ (Nat.le_of_ble_eq_true rfl) (by assumption) (c_X12_gridPlace G hm (i := i) (j := j) (by omega) g3 g4 ⟨by omega, by omega⟩ ⟨by omega, by omega⟩ (by omega) (by omega)) ?_
    rw [Nat.mod_eq_of_lt hi, Nat.mod_eq_of_lt hj]
    refine mu_iald B dX12_cell_21 (by assumption) (mI_inN (by omega) (by decide)) ?_
    rw [mI_clampN (by omega), g6 i j hi hj]
    refine mu_goto (tgt := 26) B dX12_cell_22 (by decide) ?_
    refine mu_iret E rfl (by decide) (by decide) dX12_cell_26 ?_
    refine ⟨?_, rfl⟩
    first | rw [if_neg z7] | (rw [if_pos ⟨by omega, by rw [Int.toNat_natCast]; omega, by rw [Int.toNat_natCast]; omega⟩]; rfl)

set_option maxHeartbeats 4000000 in
set_option maxRecDepth 100000 in
theorem c_X12_set (G : mu_G) {w : mu_W} {m : Nat} (hm : mo_ok w m) {nr : Nat} {rs : Nat → mu_RS} (hru : MRu w m nr rs) {ng : Nat} {gs : Nat → mu_GS} (hgr : MGr w m nr rs ng gs) {z x y v : Int} (hz : mi_ok z) (hx : mi_ok x) (hy : mi_ok y) (hv : mi_ok v) : mu_Ct G M_X12_set [.ref m, .int (mI z), .int (mI x), .int (mI y), .int (mI v)] w (fun r w' => if ((0 ≤ z ∧ z < ng) ∧ (0 ≤ x ∧ x < gs_R (gs z.toNat)) ∧ 0 ≤ y ∧ y < gs_C (gs z.toNat)) ∧ 0 ≤ v ∧ v < rs_S (rs (gs_r (gs z.toNat))) then r = some (.int (mI (gs_c (gs z.toNat) x.toNat y.toNat))) ∧ w' = mu_si w (m + 31) (256 * z.toNat + gs_C (gs z.toNat) * x.toNat + y.toNat) (mI v) else r = some (.int (mI (-1))) ∧ w' = w) := by
  have hk0 := hm.1
  have hng := hgr.1
  obtain ⟨hz1, hz2⟩ := id hz
  obtain ⟨r51, k51⟩ := mo_51 hm
  obtain ⟨r47, k47⟩ := mo_47 hm
  obtain ⟨r6, k6⟩ := mo_6 hm
  obtain ⟨hx1, hx2⟩ := id hx
  obtain ⟨hy1, hy2⟩ := id hy
  obtain ⟨hv1, hv2⟩ := hv
  refine mu_ofWA G M_X12_set [.ref m, .int (mI z), .int (mI x), .int (mI y), .int (mI v), mu_no, mu_no] (by decide) rfl (Nat.le_of_ble_eq_true rfl) ?_
  intro X E
  have B : mu_B X G cX12_set RX12 7 (mu_rm M_X12_set) := E.1
  show mu_WA X G 7 _ _ 0 0 0 _ []
  refine mu_al_0 B dX12_set_0 ?_
  refine mu_il_1 B dX12_set_1 ?_
  refine mu_il_2 B dX12_set_2 ?_
  refine mu_il_3 B dX12_set_3 ?_
  refine mu_eV3 B dX12_set_4 mX12_319 ⟨⟨by decide, by decide⟩, by decide, by decide⟩ (Nat.le_of_ble_eq_true rfl) (by assumption) (c_X12_isCell G hm hgr hz hx hy) ?_
  refine mu_if_eq (tgt := 31) B dX12_set_7 (by decide) (fun c7 => ?_) (fun c7 => ?_)
  · have z7 := mu_bf c7
    refine mu_iconst (v := mI (-1)) B dX12_set_31 rfl ?_
    refine mu_iret E rfl (by decide) (by decide) dX12_set_32 ?_
    first | (rw [if_neg (fun hh => z7 hh.1)]; exact ⟨rfl, rfl⟩) | (rw [if_neg (fun hh => by have := hh.2; rw [Int.toNat_natCast] at this; omega)]; exact ⟨rfl, rfl⟩)
  · have z7 := mu_bt c7
    obtain ⟨g, hg⟩ : ∃ g : Nat, z = g := ⟨z.toNat, by omega⟩
    subst hg
    obtain ⟨g1, g2, g3, g4, g5, g6⟩ := hgr.2.2 g (by omega)
    obtain ⟨⟨R1, R2, R3⟩, ⟨C1, C2, C3⟩⟩ : gs_sd (gs_R (gs g)) ∧ gs_sd (gs_C (gs g)) := ⟨g1.2.2.1, g1.2.2.2.1⟩
    rw [Int.toNat_natCast] at z7
    obtain ⟨i, hi⟩ : ∃ i : Nat, x = i := ⟨x.toNat, by omega⟩
    subst hi
    obtain ⟨j, hj⟩ : ∃ j : Nat, y = j := ⟨y.toNat, by omega⟩
    subst hj
    have hi : i < gs_R (gs g) := by omega
    have hj : j < gs_C (gs g) := by omega
    have hix := gs_ix g1.2.2.1 g1.2.2.2.1 hi hj
    obtain ⟨u1, u2, u3, u4, u5, u6⟩ := hru.2.2 (gs_r (gs g)) g1.1
    replace u6 := u6 g1.2.1
    have hS := rs_S_bd u1 g1.2.1
    have hnr := hru.1
    have hgr0 := g1.1
    refine mu_il_4 B dX12_set_10 ?_
    refine mu_if_lt (tgt := 31) B dX12_set_12 (by decide) (fun c12 => ?_) (fun c12 => ?_)
    · try rw [mI_lt0 ⟨by omega, by omega⟩] at c12
      refine mu_iconst (v := mI (-1)) B dX12_set_31 rfl ?_
      refine mu_iret E rfl (by decide) (by decide) dX12_set_32 ?_
      first | (rw [if_neg (fun hh => z7 hh.1)]; exact ⟨rfl, rfl⟩) | (rw [if_neg (fun hh => by have := hh.2; rw [Int.toNat_natCast] at this; omega)]; exact ⟨rfl, rfl⟩)
    · try rw [mI_lt0 ⟨by omega, by omega⟩] at c12
      refine mu_il_4 B dX12_set_15 ?_
      refine mu_al_0 B dX12_set_17 ?_
      refine mu_getR B dX12_set_18 fX12_20 rfl (by assumption) (by assumption) ?_
      refine mu_al_0 B dX12_set_21 ?_
      refine mu_getR B dX12_set_22 fX12_93 rfl (by assumption) (by assumption) ?_
      refine mu_il_1 B dX12_set_25 ?_
      refine mu_iald B dX12_set_26 (by assumption) (mI_inN (by omega) (by decide)) ?_
      rw [mI_clampN (by omega), g2]
      refine mu_iald B dX12_set_27 (by assumption) (mI_inN (by omega) (by decide)) ?_
      rw [mI_clampN (by omega), u6.1]
      refine mu_icmp_lt (tgt := 33) B dX12_set_28 (by decide) (fun c28 => ?_) (fun c28 => ?_)
      · try rw [mI_lt ⟨by omega, by omega⟩ ⟨by omega, by omega⟩] at c28
        refine mu_al_0 B dX12_set_33 ?_
        refine mu_il_1 B dX12_set_34 ?_
        refine mu_il_2 B dX12_set_35 ?_
        refine mu_il_3 B dX12_set_36 ?_
        refine mu_eV3 B dX12_set_37 mX12_323 ⟨⟨by decide, by decide⟩, by decide, by decide⟩ (Nat.le_of_ble_eq_true rfl) (by assumption) (c_X12_gridPlace G hm (i := i) (j := j) (by omega) g3 g4 ⟨by omega, by omega⟩ ⟨by omega, by omega⟩ (by omega) (by omega)) ?_
        rw [Nat.mod_eq_of_lt hi, Nat.mod_eq_of_lt hj]
        refine mu_is_5 B dX12_set_40 (by decide) rfl ?_
        refine mu_al_0 B dX12_set_42 ?_
        refine mu_getR B dX12_set_43 fX12_105 rfl (by assumption) (by assumption) ?_
        refine mu_il_5 B dX12_set_46 ?_
        refine mu_iald B dX12_set_48 (by assumption) (mI_inN (by omega) (by decide)) ?_
        rw [mI_clampN (by omega), g6 i j hi hj]
        refine mu_is_6 B dX12_set_49 (by decide) rfl ?_
        refine mu_al_0 B dX12_set_51 ?_
        refine mu_getR B dX12_set_52 fX12_105 rfl (by assumption) (by assumption) ?_
        refine mu_il_5 B dX12_set_55 ?_
        refine mu_il_4 B dX12_set_57 ?_
        refine mu_iast B dX12_set_59 (by assumption) (mI_inN (by omega) (by decide)) ?_
        rw [mI_clampN (by omega)]
        refine mu_il_6 B dX12_set_60 ?_
        refine mu_iret E rfl (by decide) (by decide) dX12_set_62 ?_
        rw [if_pos ⟨⟨by omega, by rw [Int.toNat_natCast]; omega, by rw [Int.toNat_natCast]; omega⟩, by rw [Int.toNat_natCast]; omega⟩]
        exact ⟨rfl, rfl⟩
      · try rw [mI_lt ⟨by omega, by omega⟩ ⟨by omega, by omega⟩] at c28
        refine mu_iconst (v := mI (-1)) B dX12_set_31 rfl ?_
        refine mu_iret E rfl (by decide) (by decide) dX12_set_32 ?_
        first | (rw [if_neg (fun hh => z7 hh.1)]; exact ⟨rfl, rfl⟩) | (rw [if_neg (fun hh => by have := hh.2; rw [Int.toNat_natCast] at this; omega)]; exact ⟨rfl, rfl⟩)

def gr_S (m ng : Nat) : Nat → Nat → Prop := fun q j => (q = m ∧ j = 46) ∨ (m + 27 ≤ q ∧ q ≤ m + 30 ∧ j = ng) ∨ (q = m + 31 ∧ 256 * ng ≤ j ∧ j < 256 * ng + 256)
def sp_gnew (gs : Nat → mu_GS) (ng r R C : Nat) : Nat → mu_GS := rs_up gs ng (r, R, C, 0, fun _ _ => 0)
theorem MGr.add {w w' : mu_W} {m nr : Nat} {rs : Nat → mu_RS} {ng : Nat} {gs : Nat → mu_GS} (h : MGr w m nr rs ng gs) (hng : ng < 8) {r R C : Nat} (hr : r < nr) (hq : rs_nb (rs r) = 0) (hS : 0 < rs_S (rs r)) (hR : gs_sd R) (hC : gs_sd C) (hF : mu_Fi (gr_S m ng) w w') (h1 : mu_iv w' m 46 = mI ((ng + 1 : Nat) : Int)) (h2 : mu_iv w' (m + 27) ng = mI r) (h3 : mu_iv w' (m + 28) ng = mI R) (h4 : mu_iv w' (m + 29) ng = mI C) (h5 : mu_iv w' (m + 30) ng = mI 0) (h6 : ∀ j, j < 256 → mu_iv w' (m + 31) (256 * ng + j) = mI 0) : MGr w' m nr rs (ng + 1) (sp_gnew gs ng r R C) := ⟨by omega, h1, fun g hg => by
  by_cases e : g = ng
  · subst e
    have e1 : sp_gnew gs g r R C g = (r, R, C, 0, fun _ _ => 0) := by unfold sp_gnew rs_up; rw [if_pos rfl]
    rw [e1]
    refine ⟨⟨hr, hq, hR, hC, by show 0 ≤ 1000000; decide, fun _ _ => hS⟩, h2, h3, h4, h5, fun i j hi hj => ?_⟩
    have hx := gs_ix hR hC hi hj
    rw [Nat.add_assoc]
    exact h6 _ (by show C * i + j < 256; omega)
  · have e1 : sp_gnew gs ng r R C g = gs g := by unfold sp_gnew rs_up; rw [if_neg e]
    rw [e1]
    obtain ⟨g1, g2, g3, g4, g5, g6⟩ := h.2.2 g (by omega)
    refine ⟨g1, hF.iv (by unfold gr_S; omega) g2, hF.iv (by unfold gr_S; omega) g3, hF.iv (by unfold gr_S; omega) g4, hF.iv (by unfold gr_S; omega) g5, fun i j hi hj => ?_⟩
    have hx := gs_ix g1.2.2.1 g1.2.2.2.1 hi hj
    exact hF.iv (by unfold gr_S; omega) (g6 i j hi hj)⟩
def gr_sd (x : Int) : Prop := 2 ≤ x ∧ x ≤ 16 ∧ x % 2 = 0
def gr_post (w : mu_W) (m nr : Nat) (rs : Nat → mu_RS) (ng : Nat) (gs : Nat → mu_GS) (z x y : Int) (r : Option Value) (w' : mu_W) : Prop :=
  if ¬ ((0 ≤ z ∧ z < nr) ∧ (2 ≤ x ∧ x ≤ 16 ∧ x % 2 = 0) ∧ 2 ≤ y ∧ y ≤ 16 ∧ y % 2 = 0) then r = some (.int (mI (-1))) ∧ w' = w
  else if ¬ rs_nb (rs z.toNat) = 0 then r = some (.int (mI (-2))) ∧ w' = w
  else if ng = 8 then r = some (.int (mI (-3))) ∧ w' = w
  else r = some (.int (mI ng)) ∧ MGr w' m nr rs (ng + 1) (sp_gnew gs ng z.toNat x.toNat y.toNat) ∧ mu_Fi (gr_S m ng) w w'

set_option maxHeartbeats 4000000 in
set_option maxRecDepth 100000 in
theorem c_X12_grid (G : mu_G) {w : mu_W} {m : Nat} (hm : mo_ok w m) {nr : Nat} {rs : Nat → mu_RS} (hru : MRu w m nr rs) {ng : Nat} {gs : Nat → mu_GS} (hgr : MGr w m nr rs ng gs) {z x y : Int} (hz : mi_ok z) (hx : mi_ok x) (hy : mi_ok y) : mu_Ct G M_X12_grid [.ref m, .int (mI z), .int (mI x), .int (mI y)] w (fun r w' => gr_post w m nr rs ng gs z x y r w') := by
  have hk0 := hm.1
  have hng := hgr.1
  have hnr := hru.1
  obtain ⟨hz1, hz2⟩ := id hz
  have h46 := hgr.2.1
  obtain ⟨hx1, hx2⟩ := id hx
  obtain ⟨hy1, hy2⟩ := id hy
  obtain ⟨r47, k47⟩ := mo_47 hm
  obtain ⟨r48, k48⟩ := mo_48 hm
  obtain ⟨r49, k49⟩ := mo_49 hm
  obtain ⟨r50, k50⟩ := mo_50 hm
  refine mu_ofWA G M_X12_grid [.ref m, .int (mI z), .int (mI x), .int (mI y), mu_no] (by decide) rfl (Nat.le_of_ble_eq_true rfl) ?_
  intro X E
  have B : mu_B X G cX12_grid RX12 5 (mu_rm M_X12_grid) := E.1
  have LN : ∀ (k x y : Nat), k < nr → rs_nb (rs k) = 0 → 0 < rs_S (rs k) → gs_sd x → gs_sd y → ng < 8 → ∀ q (s : mu_W), q ≤ 256 → (mu_Fi (gr_S m ng) w s ∧ mu_iv s m 46 = mI ng ∧ mu_iv s (m + 27) ng = mI k ∧ mu_iv s (m + 28) ng = mI x ∧ mu_iv s (m + 29) ng = mI y ∧ mu_iv s (m + 30) ng = mI 0 ∧ ∀ j, j < q → mu_iv s (m + 31) (256 * ng + j) = mI 0) → mu_WA X G 5 (mu_Q X G M_X12_grid (gr_post w m nr rs ng gs (k : Int) (x : Int) (y : Int))) s 0 0 110 [.ref m, .int (mI k), .int (mI x), .int (mI y), .int (mI q)] [] := by
    intro k x y hk h0 hS hx hy hng8
    refine mu_ind (256) (fun q (s : mu_W) => mu_WA X G 5 (mu_Q X G M_X12_grid (gr_post w m nr rs ng gs (k : Int) (x : Int) (y : Int))) s 0 0 110 [.ref m, .int (mI k), .int (mI x), .int (mI y), .int (mI q)] []) (fun q (s : mu_W) => mu_Fi (gr_S m ng) w s ∧ mu_iv s m 46 = mI ng ∧ mu_iv s (m + 27) ng = mI k ∧ mu_iv s (m + 28) ng = mI x ∧ mu_iv s (m + 29) ng = mI y ∧ mu_iv s (m + 30) ng = mI 0 ∧ ∀ j, j < q → mu_iv s (m + 31) (256 * ng + j) = mI 0) ?_
    rintro q w1 hq ⟨hF, h46, h27, h28, h29, h30, hz0⟩ ih
    have hm1 := hm.fi hF
    have hk1 := hm1.1
    obtain ⟨r51, k51⟩ := mo_51 hm1
    obtain ⟨x1, x2, x3⟩ := id hx
    obtain ⟨y1, y2, y3⟩ := id hy
    refine mu_il_4 B dX12_grid_110 ?_
    refine mu_sipush (v := mI 256) B dX12_grid_112 (by decide) ?_
    refine mu_icmp_ge (tgt := 141) B dX12_grid_115 (by decide) (fun c115 => ?_) (fun c115 => ?_)
    · try rw [mI_le ⟨by omega, by omega⟩ ⟨by omega, by omega⟩] at c115
      obtain rfl : q = 256 := by omega
      refine mu_al_0 B dX12_grid_141 ?_
      refine mu_dup B dX12_grid_142 rfl ?_
      refine mu_getI B dX12_grid_143 fX12_313 rfl (by assumption) ?_
      rw [h46]
      refine mu_iconst (v := mI 1) B dX12_grid_146 rfl ?_
      refine mu_iadd B dX12_grid_147 ?_
      try rw [mI_add]
      refine mu_putI B dX12_grid_148 fX12_313 fwX12_46 rfl (by assumption) ?_
      refine mu_al_0 B dX12_grid_151 ?_
      refine mu_getI B dX12_grid_152 fX12_313 rfl (by assumption) ?_
      rw [mu_iv_same]
      refine mu_iconst (v := mI 1) B dX12_grid_155 rfl ?_
      refine mu_isub B dX12_grid_156 ?_
      try rw [mI_sub]
      refine mu_iret E rfl (by decide) (by decide) dX12_grid_157 ?_
      unfold gr_post
      rw [if_neg (fun hh => hh ⟨by omega, by omega, by omega⟩), Int.toNat_natCast, Int.toNat_natCast, Int.toNat_natCast, if_neg (fun hh => hh h0), if_neg (by omega)]
      refine ⟨by congr 3; omega, hgr.add (by omega) hk h0 (by omega) hx hy (hF.si (Or.inl ⟨rfl, rfl⟩)) (by rw [mu_iv_same]; rfl) ?_ ?_ ?_ ?_ (fun j hj => ?_), hF.si (Or.inl ⟨rfl, rfl⟩)⟩
      · rw [mu_iv_oth _ _ (by omega)]; exact h27
      · rw [mu_iv_oth _ _ (by omega)]; exact h28
      · rw [mu_iv_oth _ _ (by omega)]; exact h29
      · rw [mu_iv_oth _ _ (by omega)]; exact h30
      · rw [mu_iv_oth _ _ (by omega)]; exact hz0 j hj
    · try rw [mI_le ⟨by omega, by omega⟩ ⟨by omega, by omega⟩] at c115
      refine mu_al_0 B dX12_grid_118 ?_
      refine mu_getR B dX12_grid_119 fX12_105 rfl (by assumption) (by assumption) ?_
      refine mu_sipush (v := mI 256) B dX12_grid_122 (by decide) ?_
      refine mu_al_0 B dX12_grid_125 ?_
      refine mu_getI B dX12_grid_126 fX12_313 rfl (by assumption) ?_
      rw [h46]
      refine mu_imul B dX12_grid_129 ?_
      try rw [mI_mul]
      refine mu_il_4 B dX12_grid_130 ?_
      refine mu_iadd B dX12_grid_132 ?_
      try rw [mI_add]
      rw [show (256 : Int) * (ng : Int) + (q : Int) = ((256 * ng + q : Nat) : Int) by omega]
      refine mu_iconst (v := mI 0) B dX12_grid_133 rfl ?_
      refine mu_iast B dX12_grid_134 (by assumption) (mI_inN (by omega) (by decide)) ?_
      rw [mI_clampN (by omega)]
      refine mu_inc_4 (c := mI 1) B dX12_grid_135 rfl (by decide) rfl ?_
      try rw [mI_add]
      refine mu_goto (tgt := 110) B dX12_grid_138 (by decide) ?_
      refine mu_to (ih (mu_si w1 (m + 31) (256 * ng + q) (mI 0)) (by omega) ⟨hF.si (Or.inr (Or.inr ⟨rfl, by omega, by omega⟩)), by rw [mu_iv_oth _ _ (by omega)]; exact h46, by rw [mu_iv_oth _ _ (by omega)]; exact h27, by rw [mu_iv_oth _ _ (by omega)]; exact h28, by rw [mu_iv_oth _ _ (by omega)]; exact h29, by rw [mu_iv_oth _ _ (by omega)]; exact h30, fun j hj => ?_⟩) rfl (by rw [show ((q + 1 : Nat) : Int) = (q : Int) + 1 by omega])
      by_cases e9 : j = q
      · rw [e9, mu_iv_same]
      · rw [mu_iv_oth _ _ (by omega)]; exact hz0 j (by omega)
  show mu_WA X G 5 _ _ 0 0 0 _ []
  refine mu_al_0 B dX12_grid_0 ?_
  refine mu_il_1 B dX12_grid_1 ?_
  refine mu_eV1 B dX12_grid_2 mX12_161 ⟨⟨by decide, by decide⟩, by decide, by decide⟩ (Nat.le_of_ble_eq_true rfl) (by assumption) (c_X12_isRule G hm (n := nr) hru.2.1 hru.1 hz) ?_
  refine mu_if_eq (tgt := 42) B dX12_grid_5 (by decide) (fun c5 => ?_) (fun c5 => ?_)
  · have z5 := mu_bf c5
    refine mu_iconst (v := mI (-1)) B dX12_grid_42 rfl ?_
    refine mu_iret E rfl (by decide) (by decide) dX12_grid_43 ?_
    unfold gr_post
    first | (rw [if_pos (fun hh => z5 hh.1)]; exact ⟨rfl, rfl⟩) | (rw [if_pos (fun hh => by have := hh.2; omega)]; exact ⟨rfl, rfl⟩)
  · have z5 := mu_bt c5
    refine mu_il_2 B dX12_grid_8 ?_
    refine mu_iconst (v := mI 2) B dX12_grid_9 rfl ?_
    refine mu_icmp_lt (tgt := 42) B dX12_grid_10 (by decide) (fun c10 => ?_) (fun c10 => ?_)
    · try rw [mI_lt ⟨by omega, by omega⟩ ⟨by omega, by omega⟩] at c10
      refine mu_iconst (v := mI (-1)) B dX12_grid_42 rfl ?_
      refine mu_iret E rfl (by decide) (by decide) dX12_grid_43 ?_
      unfold gr_post
      first | (rw [if_pos (fun hh => z5 hh.1)]; exact ⟨rfl, rfl⟩) | (rw [if_pos (fun hh => by have := hh.2; omega)]; exact ⟨rfl, rfl⟩)
    · try rw [mI_lt ⟨by omega, by omega⟩ ⟨by omega, by omega⟩] at c10
      refine mu_il_2 B dX12_grid_13 ?_
      refine mu_bipush (v := mI 16) B dX12_grid_14 (by decide) ?_
      refine mu_icmp_gt (tgt := 42) B dX12_grid_16 (by decide) (fun c16 => ?_) (fun c16 => ?_)
      · try rw [mI_lt ⟨by omega, by omega⟩ ⟨by omega, by omega⟩] at c16
        refine mu_iconst (v := mI (-1)) B dX12_grid_42 rfl ?_
        refine mu_iret E rfl (by decide) (by decide) dX12_grid_43 ?_
        unfold gr_post
        first | (rw [if_pos (fun hh => z5 hh.1)]; exact ⟨rfl, rfl⟩) | (rw [if_pos (fun hh => by have := hh.2; omega)]; exact ⟨rfl, rfl⟩)
      · try rw [mI_lt ⟨by omega, by omega⟩ ⟨by omega, by omega⟩] at c16
        refine mu_il_2 B dX12_grid_19 ?_
        refine mu_iconst (v := mI 2) B dX12_grid_20 rfl ?_
        refine mu_irem B dX12_grid_21 ?_ ?_
        · decide
        rw [mI_rem (by omega) (by omega) (by omega) (by omega)]
        refine mu_if_ne (tgt := 42) B dX12_grid_22 (by decide) (fun c22 => ?_) (fun c22 => ?_)
        · try rw [mI_eq0 ⟨by omega, by omega⟩] at c22
          refine mu_iconst (v := mI (-1)) B dX12_grid_42 rfl ?_
          refine mu_iret E rfl (by decide) (by decide) dX12_grid_43 ?_
          unfold gr_post
          first | (rw [if_pos (fun hh => z5 hh.1)]; exact ⟨rfl, rfl⟩) | (rw [if_pos (fun hh => by have := hh.2; omega)]; exact ⟨rfl, rfl⟩)
        · try rw [mI_eq0 ⟨by omega, by omega⟩] at c22
          refine mu_il_3 B dX12_grid_25 ?_
          refine mu_iconst (v := mI 2) B dX12_grid_26 rfl ?_
          refine mu_icmp_lt (tgt := 42) B dX12_grid_27 (by decide) (fun c27 => ?_) (fun c27 => ?_)
          · try rw [mI_lt ⟨by omega, by omega⟩ ⟨by omega, by omega⟩] at c27
            refine mu_iconst (v := mI (-1)) B dX12_grid_42 rfl ?_
            refine mu_iret E rfl (by decide) (by decide) dX12_grid_43 ?_
            unfold gr_post
            first | (rw [if_pos (fun hh => z5 hh.1)]; exact ⟨rfl, rfl⟩) | (rw [if_pos (fun hh => by have := hh.2; omega)]; exact ⟨rfl, rfl⟩)
          · try rw [mI_lt ⟨by omega, by omega⟩ ⟨by omega, by omega⟩] at c27
            refine mu_il_3 B dX12_grid_30 ?_
            refine mu_bipush (v := mI 16) B dX12_grid_31 (by decide) ?_
            refine mu_icmp_gt (tgt := 42) B dX12_grid_33 (by decide) (fun c33 => ?_) (fun c33 => ?_)
            · try rw [mI_lt ⟨by omega, by omega⟩ ⟨by omega, by omega⟩] at c33
              refine mu_iconst (v := mI (-1)) B dX12_grid_42 rfl ?_
              refine mu_iret E rfl (by decide) (by decide) dX12_grid_43 ?_
              unfold gr_post
              first | (rw [if_pos (fun hh => z5 hh.1)]; exact ⟨rfl, rfl⟩) | (rw [if_pos (fun hh => by have := hh.2; omega)]; exact ⟨rfl, rfl⟩)
            · try rw [mI_lt ⟨by omega, by omega⟩ ⟨by omega, by omega⟩] at c33
              refine mu_il_3 B dX12_grid_36 ?_
              refine mu_iconst (v := mI 2) B dX12_grid_37 rfl ?_
              refine mu_irem B dX12_grid_38 ?_ ?_
              · decide
              rw [mI_rem (by omega) (by omega) (by omega) (by omega)]
              refine mu_if_eq (tgt := 44) B dX12_grid_39 (by decide) (fun c39 => ?_) (fun c39 => ?_)
              · try rw [mI_eq0 ⟨by omega, by omega⟩] at c39
                obtain ⟨k, hk⟩ : ∃ k : Nat, z = k := ⟨z.toNat, by omega⟩
                subst hk
                obtain ⟨x, hx9⟩ : ∃ k : Nat, x = k := ⟨x.toNat, by omega⟩
                subst hx9
                obtain ⟨y, hy9⟩ : ∃ k : Nat, y = k := ⟨y.toNat, by omega⟩
                subst hy9
                obtain ⟨u1, u2, u3, u4, u5, u6⟩ := hru.2.2 k (by omega)
                have hnb := (rs_nb_bd u1).1
                refine mu_al_0 B dX12_grid_44 ?_
                refine mu_il_1 B dX12_grid_45 ?_
                refine mu_eV1 B dX12_grid_46 mX12_158 ⟨⟨by decide, by decide⟩, by decide, by decide⟩ (Nat.le_of_ble_eq_true rfl) (by assumption) (c_X12_isBlocks G hm (k := k) (a := (rs_nb (rs k) : Int)) u4 (by omega) ⟨by omega, by omega⟩) ?_
                refine mu_if_ne (tgt := 55) B dX12_grid_49 (by decide) (fun c49 => ?_) (fun c49 => ?_)
                · have z49 := mu_bt c49
                  have hS := rs_S_bd u1 (by omega)
                  refine mu_al_0 B dX12_grid_55 ?_
                  refine mu_getI B dX12_grid_56 fX12_313 rfl (by assumption) ?_
                  rw [h46]
                  refine mu_bipush (v := mI 8) B dX12_grid_59 (by decide) ?_
                  refine mu_icmp_ne (tgt := 67) B dX12_grid_61 (by decide) (fun c61 => ?_) (fun c61 => ?_)
                  · try rw [mI_eq ⟨by omega, by omega⟩ ⟨by omega, by omega⟩] at c61
                    refine mu_al_0 B dX12_grid_67 ?_
                    refine mu_getR B dX12_grid_68 fX12_93 rfl (by assumption) (by assumption) ?_
                    refine mu_al_0 B dX12_grid_71 ?_
                    refine mu_getI B dX12_grid_72 fX12_313 rfl (by assumption) ?_
                    rw [h46]
                    refine mu_il_1 B dX12_grid_75 ?_
                    refine mu_iast B dX12_grid_76 (by assumption) (mI_inN (by omega) (by decide)) ?_
                    rw [mI_clampN (by omega)]
                    refine mu_al_0 B dX12_grid_77 ?_
                    refine mu_getR B dX12_grid_78 fX12_96 rfl (by assumption) (by assumption) ?_
                    refine mu_al_0 B dX12_grid_81 ?_
                    refine mu_getI B dX12_grid_82 fX12_313 rfl (by assumption) ?_
                    rw [mu_iv_oth _ _ (by omega), h46]
                    refine mu_il_2 B dX12_grid_85 ?_
                    refine mu_iast B dX12_grid_86 (by assumption) (mI_inN (by omega) (by decide)) ?_
                    rw [mI_clampN (by omega)]
                    refine mu_al_0 B dX12_grid_87 ?_
                    refine mu_getR B dX12_grid_88 fX12_99 rfl (by assumption) (by assumption) ?_
                    refine mu_al_0 B dX12_grid_91 ?_
                    refine mu_getI B dX12_grid_92 fX12_313 rfl (by assumption) ?_
                    rw [mu_iv_oth _ _ (by omega), mu_iv_oth _ _ (by omega), h46]
                    refine mu_il_3 B dX12_grid_95 ?_
                    refine mu_iast B dX12_grid_96 (by assumption) (mI_inN (by omega) (by decide)) ?_
                    rw [mI_clampN (by omega)]
                    refine mu_al_0 B dX12_grid_97 ?_
                    refine mu_getR B dX12_grid_98 fX12_102 rfl (by assumption) (by assumption) ?_
                    refine mu_al_0 B dX12_grid_101 ?_
                    refine mu_getI B dX12_grid_102 fX12_313 rfl (by assumption) ?_
                    rw [mu_iv_oth _ _ (by omega), mu_iv_oth _ _ (by omega), mu_iv_oth _ _ (by omega), h46]
                    refine mu_iconst (v := mI 0) B dX12_grid_105 rfl ?_
                    refine mu_iast B dX12_grid_106 (by assumption) (mI_inN (by omega) (by decide)) ?_
                    rw [mI_clampN (by omega)]
                    refine mu_iconst (v := mI 0) B dX12_grid_107 rfl ?_
                    refine mu_is_4 B dX12_grid_108 (by decide) rfl ?_
                    refine LN k x y (by omega) (by omega) (by omega) ⟨by omega, by omega, by omega⟩ ⟨by omega, by omega, by omega⟩ (by omega) 0 _ (by decide) ⟨?_, ?_, ?_, ?_, ?_, ?_, fun j hj => absurd hj (Nat.not_lt_zero j)⟩
                    · exact ((((mu_Fi.refl _).si (Or.inr (Or.inl ⟨by omega, by omega, rfl⟩))).si (Or.inr (Or.inl ⟨by omega, by omega, rfl⟩))).si (Or.inr (Or.inl ⟨by omega, by omega, rfl⟩))).si (Or.inr (Or.inl ⟨by omega, by omega, rfl⟩))
                    · rw [mu_iv_oth _ _ (by omega), mu_iv_oth _ _ (by omega), mu_iv_oth _ _ (by omega), mu_iv_oth _ _ (by omega)]; exact h46
                    · rw [mu_iv_oth _ _ (by omega), mu_iv_oth _ _ (by omega), mu_iv_oth _ _ (by omega), mu_iv_same]
                    · rw [mu_iv_oth _ _ (by omega), mu_iv_oth _ _ (by omega), mu_iv_same]
                    · rw [mu_iv_oth _ _ (by omega), mu_iv_same]
                    · rw [mu_iv_same]
                  · try rw [mI_eq ⟨by omega, by omega⟩ ⟨by omega, by omega⟩] at c61
                    refine mu_bipush (v := mI (-3)) B dX12_grid_64 (by decide) ?_
                    refine mu_iret E rfl (by decide) (by decide) dX12_grid_66 ?_
                    unfold gr_post
                    rw [if_neg (fun hh => hh ⟨by omega, by omega, by omega⟩), Int.toNat_natCast, if_neg (fun hh => hh (by omega)), if_pos (by omega)]
                    exact ⟨rfl, rfl⟩
                · have z49 := mu_bf c49
                  refine mu_bipush (v := mI (-2)) B dX12_grid_52 (by decide) ?_
                  refine mu_iret E rfl (by decide) (by decide) dX12_grid_54 ?_
                  unfold gr_post
                  rw [if_neg (fun hh => hh ⟨by omega, by omega, by omega⟩), Int.toNat_natCast, if_pos (by omega)]
                  exact ⟨rfl, rfl⟩
              · try rw [mI_eq0 ⟨by omega, by omega⟩] at c39
                refine mu_iconst (v := mI (-1)) B dX12_grid_42 rfl ?_
                refine mu_iret E rfl (by decide) (by decide) dX12_grid_43 ?_
                unfold gr_post
                first | (rw [if_pos (fun hh => z5 hh.1)]; exact ⟨rfl, rfl⟩) | (rw [if_pos (fun hh => by have := hh.2; omega)]; exact ⟨rfl, rfl⟩)
