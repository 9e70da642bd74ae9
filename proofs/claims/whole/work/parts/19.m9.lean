/-! ===== the reference's fields ===== -/
abbrev mu_FS : Type := Nat × Int32 × (Nat → Nat → Nat)
def fs_r (f : mu_FS) : Nat := f.1
def fs_g (f : mu_FS) : Int32 := f.2.1
def fs_c (f : mu_FS) : Nat → Nat → Nat := f.2.2
def fs_ok (nr : Nat) (rs : Nat → mu_RS) (f : mu_FS) : Prop := fs_r f < nr ∧ rs_nb (rs (fs_r f)) ≠ 0 ∧ rs_bo (rs (fs_r f)) % 2 = 0 ∧ ∀ i j, fs_c f i j ≤ 1
def MFi (w : mu_W) (m nr : Nat) (rs : Nat → mu_RS) (nf : Nat) (fs : Nat → mu_FS) : Prop := nf ≤ 8 ∧ mu_iv w m 13 = mI nf ∧ ∀ f, f < nf → fs_ok nr rs (fs f) ∧ mu_iv w (m + 10) f = mI (fs_r (fs f)) ∧ mu_iv w (m + 11) f = fs_g (fs f) ∧ ∀ i j, i < 256 → j < 256 → mu_iv w (m + 9) (65536 * f + 256 * j + i) = mI (fs_c (fs f) i j)
theorem MFi.bd {w : mu_W} {m nr : Nat} {rs : Nat → mu_RS} {nf : Nat} {fs : Nat → mu_FS} (h : MFi w m nr rs nf fs) (hm : mo_ok w m) {f : Nat} (hf : f < nf) : Bd w (m + 9) 524288 (65536 * f) 256 256 (fs_c (fs f)) := ⟨(mo_14 hm).2, by decide, by have := h.1; omega, (h.2.2 f hf).2.2.2, (h.2.2 f hf).1.2.2.2⟩
theorem MFi.eqs {w w' : mu_W} {m nr : Nat} {rs : Nat → mu_RS} {nf : Nat} {fs : Nat → mu_FS} (h : MFi w m nr rs nf fs) (h1 : mu_iv w' m 13 = mu_iv w m 13) (h2 : ∀ f, f < nf → mu_iv w' (m + 10) f = mu_iv w (m + 10) f ∧ mu_iv w' (m + 11) f = mu_iv w (m + 11) f) (h3 : ∀ j, j < 65536 * nf → mu_iv w' (m + 9) j = mu_iv w (m + 9) j) : MFi w' m nr rs nf fs := ⟨h.1, h1.trans h.2.1, fun f hf => by
  obtain ⟨g1, g2, g3, g4⟩ := h.2.2 f hf
  exact ⟨g1, by rw [(h2 f hf).1]; exact g2, by rw [(h2 f hf).2]; exact g3, fun i j hi hj => by rw [h3 _ (by omega)]; exact g4 i j hi hj⟩⟩
/-- n steps are done: no alive cell within n of the rim -/
def sp_done (c : Nat → Nat → Nat) (n : Nat) : Prop := ∀ x y, x < 256 → y < 256 → c x y = 1 → n ≤ x ∧ n ≤ y ∧ x + n < 256 ∧ y + n < 256
theorem LKP.done {c : Nat → Nat → Nat} {L R U D : Int} {M n : Nat} (h : LKP c 256 0 L R U D M) : ((M : Int) = 0 ∨ (0 ≤ L - n ∧ 0 ≤ U - n ∧ R + n < 256 ∧ D + n < 256)) ↔ sp_done c n := by
  constructor
  · intro hh x y hx hy hc
    have h1 := h.2.1 x y hx (Or.inl hy) hc
    by_cases hM : M = 0
    · have := h.2.2.1 hM; omega
    · omega
  · intro hh
    by_cases hM : M = 0
    · exact Or.inl (by omega)
    · obtain ⟨a1, ⟨j1, b1, b2⟩, ⟨j2, b3, b4⟩, ⟨i1, b5, b6⟩, ⟨i2, b7, b8⟩⟩ := h.2.2.2 hM
      have e1 := hh _ _ (by omega) b1 b2
      have e2 := hh _ _ (by omega) b3 b4
      have e3 := hh _ _ b5 (by omega) b6
      have e4 := hh _ _ b7 (by omega) b8
      exact Or.inr (by omega)
def sp_its (nb bo st : Nat) : Nat → (Nat → Nat → Nat) → Nat → Nat → Nat
  | 0, c => c
  | n + 1, c => sp_stp nb bo st (sp_its nb bo st n c)
def fi_up (fs : Nat → mu_FS) (f : Nat) (g : Int32) (c : Nat → Nat → Nat) : Nat → mu_FS := rs_up fs f (fs_r (fs f), g, c)
theorem MFi.cell {w w' : mu_W} {m nr : Nat} {rs : Nat → mu_RS} {nf : Nat} {fs : Nat → mu_FS} (h : MFi w m nr rs nf fs) {f : Nat} (hf : f < nf) {g : Int32} {c : Nat → Nat → Nat} (hc : ∀ i j, c i j ≤ 1) (h1 : mu_iv w' m 13 = mu_iv w m 13) (h2 : ∀ q, q < nf → mu_iv w' (m + 10) q = mu_iv w (m + 10) q) (h3 : ∀ q, q < nf → q ≠ f → mu_iv w' (m + 11) q = mu_iv w (m + 11) q) (h4 : mu_iv w' (m + 11) f = g)
    (h5 : ∀ j, j < 65536 * nf → (j < 65536 * f ∨ 65536 * f + 65536 ≤ j) → mu_iv w' (m + 9) j = mu_iv w (m + 9) j) (h6 : ∀ i j, i < 256 → j < 256 → mu_iv w' (m + 9) (65536 * f + 256 * j + i) = mI (c i j)) : MFi w' m nr rs nf (fi_up fs f g c) := ⟨h.1, h1.trans h.2.1, fun q hq => by
  obtain ⟨g1, g2, g3, g4⟩ := h.2.2 q hq
  by_cases e : q = f
  · subst e
    have e1 : fi_up fs q g c q = (fs_r (fs q), g, c) := by unfold fi_up rs_up; rw [if_pos rfl]
    rw [e1]
    exact ⟨⟨g1.1, g1.2.1, g1.2.2.1, hc⟩, by rw [h2 q hq]; exact g2, h4, h6⟩
  · have e1 : fi_up fs f g c q = fs q := by unfold fi_up rs_up; rw [if_neg e]
    rw [e1]
    exact ⟨g1, by rw [h2 q hq]; exact g2, by rw [h3 q hq e]; exact g3, fun i j hi hj => by rw [h5 _ (by omega) (by omega)]; exact g4 i j hi hj⟩⟩
theorem cntR_of {c : Nat → Nat → Nat} {L R U D : Int} {M : Nat} (h : LKP c 256 0 L R U D M) : M = cntR c 256 := by rw [h.1, cntX, Nat.add_zero]

set_option maxHeartbeats 4000000 in
set_option maxRecDepth 100000 in
theorem c_X12_at (G : mu_G) {w : mu_W} {m : Nat} (hm : mo_ok w m) {nr : Nat} {rs : Nat → mu_RS} {nf : Nat} {fs : Nat → mu_FS} (hfi : MFi w m nr rs nf fs) {z x y : Int} (hz : mi_ok z) (hx : mi_ok x) (hy : mi_ok y) : mu_Ct G M_X12_at [.ref m, .int (mI z), .int (mI x), .int (mI y)] w (fun r w' => r = some (.int (if (0 ≤ z ∧ z < nf) ∧ (-128 ≤ x ∧ x < 128 ∧ -128 ≤ y ∧ y < 128) then mI (fs_c (fs z.toNat) (x + 128).toNat (y + 128).toNat) else mI (-1))) ∧ w' = w) := by
  have hk0 := hm.1
  have hnf := hfi.1
  obtain ⟨r14, k14⟩ := mo_14 hm
  obtain ⟨hz1, hz2⟩ := id hz
  obtain ⟨hx1, hx2⟩ := id hx
  obtain ⟨hy1, hy2⟩ := id hy
  refine mu_ofWA G M_X12_at [.ref m, .int (mI z), .int (mI x), .int (mI y)] (by decide) rfl (Nat.le_of_ble_eq_true rfl) ?_
  intro X E
  have B : mu_B X G cX12_at RX12 4 (mu_rm M_X12_at) := E.1
  show mu_WA X G 4 _ _ 0 0 0 _ []
  refine mu_al_0 B dX12_at_0 ?_
  refine mu_il_1 B dX12_at_1 ?_
  refine mu_eV1 B dX12_at_2 mX12_178 ⟨⟨by decide, by decide⟩, by decide, by decide⟩ (Nat.le_of_ble_eq_true rfl) (by assumption) (c_X12_isField G hm (n := nf) hfi.2.1 hfi.1 hz) ?_
  refine mu_if_eq (tgt := 17) B dX12_at_5 (by decide) (fun c5 => ?_) (fun c5 => ?_)
  · have z5 := mu_bf c5
    refine mu_iconst (v := mI (-1)) B dX12_at_17 rfl ?_
    refine mu_goto (tgt := 33) B dX12_at_18 (by decide) ?_
    refine mu_iret E rfl (by decide) (by decide) dX12_at_33 ?_
    refine ⟨?_, rfl⟩
    first | (rw [if_neg (fun hh => z5 hh.1)]) | (rw [if_neg (fun hh => z14 hh.2)]) | (rw [if_pos ⟨z5, z14⟩, show ((i : Int) - 128 + 128).toNat = i by omega, show ((j : Int) - 128 + 128).toNat = j by omega]; rfl)
  · have z5 := mu_bt c5
    refine mu_al_0 B dX12_at_8 ?_
    refine mu_il_2 B dX12_at_9 ?_
    refine mu_il_3 B dX12_at_10 ?_
    refine mu_eV2 B dX12_at_11 mX12_181 ⟨⟨by decide, by decide⟩, by decide, by decide⟩ (Nat.le_of_ble_eq_true rfl) (by assumption) (c_X12_isPlace G hx hy) ?_
    refine mu_if_ne (tgt := 21) B dX12_at_14 (by decide) (fun c14 => ?_) (fun c14 => ?_)
    · have z14 := mu_bt c14
      refine mu_al_0 B dX12_at_21 ?_
      refine mu_getR B dX12_at_22 fX12_36 rfl (by assumption) (by assumption) ?_
      refine mu_al_0 B dX12_at_25 ?_
      refine mu_il_1 B dX12_at_26 ?_
      refine mu_il_2 B dX12_at_27 ?_
      refine mu_il_3 B dX12_at_28 ?_
      refine mu_eV3 B dX12_at_29 mX12_185 ⟨⟨by decide, by decide⟩, by decide, by decide⟩ (Nat.le_of_ble_eq_true rfl) (by assumption) (c_X12_place G (f := z) (x := x) (y := y)) ?_
      obtain ⟨f, hf⟩ : ∃ f : Nat, z = f := ⟨z.toNat, by omega⟩
      subst hf
      obtain ⟨i, hi⟩ : ∃ i : Nat, x = (i : Int) - 128 := ⟨(x + 128).toNat, by omega⟩
      subst hi
      obtain ⟨j, hj⟩ : ∃ j : Nat, y = (j : Int) - 128 := ⟨(y + 128).toNat, by omega⟩
      subst hj
      have hf8 : f < nf := by omega
      have hcv := (hfi.2.2 f hf8).2.2.2 i j (by omega) (by omega)
      rw [show (65536 : Int) * (f : Int) + 256 * ((j : Int) - 128 + 128) + ((i : Int) - 128) + 128 = ((65536 * f + 256 * j + i : Nat) : Int) by omega]
      refine mu_bald B dX12_at_32 (by assumption) (mI_inN (by omega) (by decide)) ?_
      rw [mI_clampN (by omega), hcv]
      refine mu_iret E rfl (by decide) (by decide) dX12_at_33 ?_
      refine ⟨?_, rfl⟩
      first | (rw [if_neg (fun hh => z5 hh.1)]) | (rw [if_neg (fun hh => z14 hh.2)]) | (rw [if_pos ⟨z5, z14⟩, show ((i : Int) - 128 + 128).toNat = i by omega, show ((j : Int) - 128 + 128).toNat = j by omega]; rfl)
    · have z14 := mu_bf c14
      refine mu_iconst (v := mI (-1)) B dX12_at_17 rfl ?_
      refine mu_goto (tgt := 33) B dX12_at_18 (by decide) ?_
      refine mu_iret E rfl (by decide) (by decide) dX12_at_33 ?_
      refine ⟨?_, rfl⟩
      first | (rw [if_neg (fun hh => z5 hh.1)]) | (rw [if_neg (fun hh => z14 hh.2)]) | (rw [if_pos ⟨z5, z14⟩, show ((i : Int) - 128 + 128).toNat = i by omega, show ((j : Int) - 128 + 128).toNat = j by omega]; rfl)

set_option maxHeartbeats 4000000 in
set_option maxRecDepth 100000 in
theorem c_X12_put (G : mu_G) {w : mu_W} {m : Nat} (hm : mo_ok w m) {nr : Nat} {rs : Nat → mu_RS} {nf : Nat} {fs : Nat → mu_FS} (hfi : MFi w m nr rs nf fs) {z x y v : Int} (hz : mi_ok z) (hx : mi_ok x) (hy : mi_ok y) (hv : mi_ok v) : mu_Ct G M_X12_put [.ref m, .int (mI z), .int (mI x), .int (mI y), .int (mI v)] w (fun r w' => if (0 ≤ z ∧ z < nf) ∧ (-128 ≤ x ∧ x < 128 ∧ -128 ≤ y ∧ y < 128) ∧ 0 ≤ v ∧ v ≤ 1 then r = some (.int (mI (fs_c (fs z.toNat) (x + 128).toNat (y + 128).toNat))) ∧ w' = mu_si w (m + 9) (65536 * z.toNat + 256 * (y + 128).toNat + (x + 128).toNat) (mI v) else r = some (.int (mI (-1))) ∧ w' = w) := by
  have hk0 := hm.1
  have hnf := hfi.1
  obtain ⟨r14, k14⟩ := mo_14 hm
  obtain ⟨hz1, hz2⟩ := id hz
  obtain ⟨hx1, hx2⟩ := id hx
  obtain ⟨hy1, hy2⟩ := id hy
  obtain ⟨hv1, hv2⟩ := hv
  refine mu_ofWA G M_X12_put [.ref m, .int (mI z), .int (mI x), .int (mI y), .int (mI v), mu_no] (by decide) rfl (Nat.le_of_ble_eq_true rfl) ?_
  intro X E
  have B : mu_B X G cX12_put RX12 6 (mu_rm M_X12_put) := E.1
  show mu_WA X G 6 _ _ 0 0 0 _ []
  refine mu_al_0 B dX12_put_0 ?_
  refine mu_il_1 B dX12_put_1 ?_
  refine mu_eV1 B dX12_put_2 mX12_178 ⟨⟨by decide, by decide⟩, by decide, by decide⟩ (Nat.le_of_ble_eq_true rfl) (by assumption) (c_X12_isField G hm (n := nf) hfi.2.1 hfi.1 hz) ?_
  refine mu_if_eq (tgt := 28) B dX12_put_5 (by decide) (fun c5 => ?_) (fun c5 => ?_)
  · have z5 := mu_bf c5
    refine mu_iconst (v := mI (-1)) B dX12_put_28 rfl ?_
    refine mu_iret E rfl (by decide) (by decide) dX12_put_29 ?_
    first | (rw [if_neg (fun hh => z5 hh.1)]; exact ⟨rfl, rfl⟩) | (rw [if_neg (fun hh => z14 hh.2.1)]; exact ⟨rfl, rfl⟩) | (rw [if_neg (fun hh => by have := hh.2.2; omega)]; exact ⟨rfl, rfl⟩)
  · have z5 := mu_bt c5
    refine mu_al_0 B dX12_put_8 ?_
    refine mu_il_2 B dX12_put_9 ?_
    refine mu_il_3 B dX12_put_10 ?_
    refine mu_eV2 B dX12_put_11 mX12_181 ⟨⟨by decide, by decide⟩, by decide, by decide⟩ (Nat.le_of_ble_eq_true rfl) (by assumption) (c_X12_isPlace G hx hy) ?_
    refine mu_if_eq (tgt := 28) B dX12_put_14 (by decide) (fun c14 => ?_) (fun c14 => ?_)
    · have z14 := mu_bf c14
      refine mu_iconst (v := mI (-1)) B dX12_put_28 rfl ?_
      refine mu_iret E rfl (by decide) (by decide) dX12_put_29 ?_
      first | (rw [if_neg (fun hh => z5 hh.1)]; exact ⟨rfl, rfl⟩) | (rw [if_neg (fun hh => z14 hh.2.1)]; exact ⟨rfl, rfl⟩) | (rw [if_neg (fun hh => by have := hh.2.2; omega)]; exact ⟨rfl, rfl⟩)
    · have z14 := mu_bt c14
      refine mu_il_4 B dX12_put_17 ?_
      refine mu_if_lt (tgt := 28) B dX12_put_19 (by decide) (fun c19 => ?_) (fun c19 => ?_)
      · try rw [mI_lt0 ⟨by omega, by omega⟩] at c19
        refine mu_iconst (v := mI (-1)) B dX12_put_28 rfl ?_
        refine mu_iret E rfl (by decide) (by decide) dX12_put_29 ?_
        first | (rw [if_neg (fun hh => z5 hh.1)]; exact ⟨rfl, rfl⟩) | (rw [if_neg (fun hh => z14 hh.2.1)]; exact ⟨rfl, rfl⟩) | (rw [if_neg (fun hh => by have := hh.2.2; omega)]; exact ⟨rfl, rfl⟩)
      · try rw [mI_lt0 ⟨by omega, by omega⟩] at c19
        refine mu_il_4 B dX12_put_22 ?_
        refine mu_iconst (v := mI 1) B dX12_put_24 rfl ?_
        refine mu_icmp_le (tgt := 30) B dX12_put_25 (by decide) (fun c25 => ?_) (fun c25 => ?_)
        · try rw [mI_le ⟨by omega, by omega⟩ ⟨by omega, by omega⟩] at c25
          refine mu_al_0 B dX12_put_30 ?_
          refine mu_getR B dX12_put_31 fX12_36 rfl (by assumption) (by assumption) ?_
          refine mu_al_0 B dX12_put_34 ?_
          refine mu_il_1 B dX12_put_35 ?_
          refine mu_il_2 B dX12_put_36 ?_
          refine mu_il_3 B dX12_put_37 ?_
          refine mu_eV3 B dX12_put_38 mX12_185 ⟨⟨by decide, by decide⟩, by decide, by decide⟩ (Nat.le_of_ble_eq_true rfl) (by assumption) (c_X12_place G (f := z) (x := x) (y := y)) ?_
          obtain ⟨f, hf⟩ : ∃ f : Nat, z = f := ⟨z.toNat, by omega⟩
          subst hf
          obtain ⟨i, hi⟩ : ∃ i : Nat, x = (i : Int) - 128 := ⟨(x + 128).toNat, by omega⟩
          subst hi
          obtain ⟨j, hj⟩ : ∃ j : Nat, y = (j : Int) - 128 := ⟨(y + 128).toNat, by omega⟩
          subst hj
          have hf8 : f < nf := by omega
          have hcv := (hfi.2.2 f hf8).2.2.2 i j (by omega) (by omega)
          rw [show (65536 : Int) * (f : Int) + 256 * ((j : Int) - 128 + 128) + ((i : Int) - 128) + 128 = ((65536 * f + 256 * j + i : Nat) : Int) by omega]
          refine mu_bald B dX12_put_41 (by assumption) (mI_inN (by omega) (by decide)) ?_
          rw [mI_clampN (by omega), hcv]
          refine mu_is_5 B dX12_put_42 (by decide) rfl ?_
          refine mu_al_0 B dX12_put_44 ?_
          refine mu_getR B dX12_put_45 fX12_36 rfl (by assumption) (by assumption) ?_
          refine mu_al_0 B dX12_put_48 ?_
          refine mu_il_1 B dX12_put_49 ?_
          refine mu_il_2 B dX12_put_50 ?_
          refine mu_il_3 B dX12_put_51 ?_
          refine mu_eV3 B dX12_put_52 mX12_185 ⟨⟨by decide, by decide⟩, by decide, by decide⟩ (Nat.le_of_ble_eq_true rfl) (by assumption) (c_X12_place G (f := (f : Int)) (x := (i : Int) - 128) (y := (j : Int) - 128)) ?_
          rw [show (65536 : Int) * (f : Int) + 256 * ((j : Int) - 128 + 128) + ((i : Int) - 128) + 128 = ((65536 * f + 256 * j + i : Nat) : Int) by omega]
          refine mu_il_4 B dX12_put_55 ?_
          refine mu_i2b B dX12_put_57 rfl ?_
          refine mu_bast B dX12_put_58 (by assumption) (mI_inN (by omega) (by decide)) ?_
          rw [mI_clampN (by omega), show ((mI v).toInt8.toInt32).toInt8.toInt32 = mI v from by rcases (show v = 0 ∨ v = 1 by omega) with rfl | rfl <;> decide]
          refine mu_il_5 B dX12_put_59 ?_
          refine mu_iret E rfl (by decide) (by decide) dX12_put_61 ?_
          rw [if_pos ⟨z5, z14, by omega⟩, show ((i : Int) - 128 + 128).toNat = i by omega, show ((j : Int) - 128 + 128).toNat = j by omega]
          exact ⟨rfl, rfl⟩
        · try rw [mI_le ⟨by omega, by omega⟩ ⟨by omega, by omega⟩] at c25
          refine mu_iconst (v := mI (-1)) B dX12_put_28 rfl ?_
          refine mu_iret E rfl (by decide) (by decide) dX12_put_29 ?_
          first | (rw [if_neg (fun hh => z5 hh.1)]; exact ⟨rfl, rfl⟩) | (rw [if_neg (fun hh => z14 hh.2.1)]; exact ⟨rfl, rfl⟩) | (rw [if_neg (fun hh => by have := hh.2.2; omega)]; exact ⟨rfl, rfl⟩)

def go_S (m f : Nat) : Nat → Nat → Prop := fun q j => (q = m ∧ 19 ≤ j ∧ j ≤ 23) ∨ q = m + 12 ∨ (q = m + 9 ∧ 65536 * f ≤ j ∧ j < 65536 * f + 65536) ∨ (q = m + 11 ∧ j = f)
def sp_go (rs : Nat → mu_RS) (fs : Nat → mu_FS) (f n : Nat) : Nat → mu_FS := fi_up fs f (fs_g (fs f) + mI n) (sp_its (rs_nb (rs (fs_r (fs f)))) (rs_bo (rs (fs_r (fs f)))) (rs_st (rs (fs_r (fs f)))) n (fs_c (fs f)))
def go_post (w : mu_W) (m nr : Nat) (rs : Nat → mu_RS) (nf : Nat) (fs : Nat → mu_FS) (f n : Nat) (r : Option Value) (w' : mu_W) : Prop := mu_Fi (go_S m f) w w' ∧ (sp_done (fs_c (fs f)) n → r = some (.int (fs_g (fs f) + mI n)) ∧ MFi w' m nr rs nf (sp_go rs fs f n)) ∧ (¬ sp_done (fs_c (fs f)) n → r = some (.int (mI (-2))) ∧ MFi w' m nr rs nf fs)
theorem sp_its_le {nb bo st : Nat} {c : Nat → Nat → Nat} (h : ∀ i j, c i j ≤ 1) : ∀ n i j, sp_its nb bo st n c i j ≤ 1
  | 0, i, j => h i j
  | n + 1, i, j => by
    rw [sp_its]
    unfold sp_stp
    by_cases q : i < 256 ∧ j < 256
    · rw [if_pos q]; exact sp_af_le
    · rw [if_neg q]; decide

set_option maxHeartbeats 4000000 in
set_option maxRecDepth 100000 in
theorem c_X12_go2 (G : mu_G) {w : mu_W} {m : Nat} (hm : mo_ok w m) {nr : Nat} {rs : Nat → mu_RS} (hru : MRu w m nr rs) {nf : Nat} {fs : Nat → mu_FS} (hfi : MFi w m nr rs nf fs) {f n : Nat} (hf : f < nf) (hn : n ≤ 64) : mu_Ct G M_X12_go2 [.ref m, .int (mI f), .int (mI n)] w (fun r w' => go_post w m nr rs nf fs f n r w') := by
  have hk0 := hm.1
  have hnf := hfi.1
  have hBf := hfi.bd hm hf
  obtain ⟨r14, k14⟩ := mo_14 hm
  obtain ⟨g1, g2, g3, g4⟩ := hfi.2.2 f hf
  have hr8 := g1.1
  have hnr := hru.1
  refine mu_ofWA G M_X12_go2 [.ref m, .int (mI f), .int (mI n), mu_no] (by decide) rfl (Nat.le_of_ble_eq_true rfl) ?_
  intro X E
  have B : mu_B X G cX12_go2 RX12 4 (mu_rm M_X12_go2) := E.1
  have LG : sp_done (fs_c (fs f)) n → ∀ k (s : mu_W), k ≤ n → (mu_Fi (st_S m (m + 9) (65536 * f)) w s ∧ Bd s (m + 9) 524288 (65536 * f) 256 256 (sp_its (rs_nb (rs (fs_r (fs f)))) (rs_bo (rs (fs_r (fs f)))) (rs_st (rs (fs_r (fs f)))) k (fs_c (fs f)))) → mu_WA X G 4 (mu_Q X G M_X12_go2 (go_post w m nr rs nf fs f n)) s 0 0 25 [.ref m, .int (mI f), .int (mI n), .int (mI k)] [] := by
    intro hdn
    refine mu_ind n (fun k s => mu_WA X G 4 (mu_Q X G M_X12_go2 (go_post w m nr rs nf fs f n)) s 0 0 25 [.ref m, .int (mI f), .int (mI n), .int (mI k)] []) (fun k s => mu_Fi (st_S m (m + 9) (65536 * f)) w s ∧ Bd s (m + 9) 524288 (65536 * f) 256 256 (sp_its (rs_nb (rs (fs_r (fs f)))) (rs_bo (rs (fs_r (fs f)))) (rs_st (rs (fs_r (fs f)))) k (fs_c (fs f)))) ?_
    rintro k w1 hk ⟨hF, hB1⟩ ih
    have hm1 := hm.fi hF
    have hk1 := hm1.1
    obtain ⟨r14, k14⟩ := mo_14 hm1
    obtain ⟨r15, k15⟩ := mo_15 hm1
    obtain ⟨r16, k16⟩ := mo_16 hm1
    have hro : mu_iv w1 (m + 10) f = mI (fs_r (fs f)) := hF.iv (by unfold st_S; omega) g2
    have hge : mu_iv w1 (m + 11) f = fs_g (fs f) := hF.iv (by unfold st_S; omega) g3
    have hru1 : MRu w1 m nr rs := hru.eqs (hF.2.2.2 m 3 (by unfold st_S; omega)).1 (fun q r h5 h6 h7 => (hF.2.2.2 q r (by unfold st_S; omega)).1) (fun j hj => (hF.2.2.2 _ j (by unfold st_S; omega)).1) (fun j hj => (hF.2.2.2 _ j (by unfold st_S; omega)).1)
    refine mu_il_3 B dX12_go2_25 ?_
    refine mu_il_2 B dX12_go2_26 ?_
    refine mu_icmp_ge (tgt := 54) B dX12_go2_27 (by decide) (fun c27 => ?_) (fun c27 => ?_)
    · try rw [mI_le ⟨by omega, by omega⟩ ⟨by omega, by omega⟩] at c27
      obtain rfl : k = n := by omega
      refine mu_al_0 B dX12_go2_54 ?_
      refine mu_getR B dX12_go2_55 fX12_42 rfl (by assumption) (by assumption) ?_
      refine mu_il_1 B dX12_go2_58 ?_
      refine mu_dup2_11 B dX12_go2_59 rfl rfl ?_
      refine mu_iald B dX12_go2_60 (by assumption) (mI_inN (by omega) (by decide)) ?_
      rw [mI_clampN (by omega), hge]
      refine mu_il_2 B dX12_go2_61 ?_
      refine mu_iadd B dX12_go2_62 ?_
      refine mu_iast B dX12_go2_63 (by assumption) (mI_inN (by omega) (by decide)) ?_
      rw [mI_clampN (by omega)]
      refine mu_al_0 B dX12_go2_64 ?_
      refine mu_getR B dX12_go2_65 fX12_42 rfl (by assumption) (by assumption) ?_
      refine mu_il_1 B dX12_go2_68 ?_
      refine mu_iald B dX12_go2_69 (by assumption) (mI_inN (by omega) (by decide)) ?_
      rw [mI_clampN (by omega), mu_iv_same]
      refine mu_iret E rfl (by decide) (by decide) dX12_go2_70 ?_
      refine ⟨(hF.mono (fun q j h => ?_)).si (Or.inr (Or.inr (Or.inr ⟨rfl, rfl⟩))), fun _ => ⟨rfl, ?_⟩, fun hh => absurd hdn hh⟩
      · unfold st_S at h; unfold go_S; omega
      · refine hfi.cell hf (sp_its_le g1.2.2.2 k) ?_ ?_ ?_ (mu_iv_same _ _ _ _) ?_ ?_
        · rw [mu_iv_oth _ _ (by omega)]; exact (hF.2.2.2 m 13 (by unfold st_S; omega)).1
        · intro q hq; rw [mu_iv_oth _ _ (by omega)]; exact (hF.2.2.2 _ q (by unfold st_S; omega)).1
        · intro q hq hne; rw [mu_iv_oth _ _ (by omega)]; exact (hF.2.2.2 _ q (by unfold st_S; omega)).1
        · intro j hj hj2; rw [mu_iv_oth _ _ (by omega)]; exact (hF.2.2.2 _ j (by unfold st_S; omega)).1
        · intro i j hi hj; rw [mu_iv_oth _ _ (by omega)]; exact hB1.2.2.2.1 i j hi hj
    · try rw [mI_le ⟨by omega, by omega⟩ ⟨by omega, by omega⟩] at c27
      refine mu_al_0 B dX12_go2_30 ?_
      refine mu_al_0 B dX12_go2_31 ?_
      refine mu_getR B dX12_go2_32 fX12_39 rfl (by assumption) (by assumption) ?_
      refine mu_il_1 B dX12_go2_35 ?_
      refine mu_iald B dX12_go2_36 (by assumption) (mI_inN (by omega) (by decide)) ?_
      rw [mI_clampN (by omega), hro]
      refine mu_al_0 B dX12_go2_37 ?_
      refine mu_getR B dX12_go2_38 fX12_36 rfl (by assumption) (by assumption) ?_
      refine mu_ldc B kX12_45 dX12_go2_41 ?_
      refine mu_il_1 B dX12_go2_43 ?_
      refine mu_imul B dX12_go2_44 ?_
      try rw [mI_mul]
      rw [show (65536 : Int) * (f : Int) = ((65536 * f : Nat) : Int) by omega]
      refine mu_cV3 B dX12_go2_45 mX12_215 ⟨⟨by decide, by decide⟩, by decide, by decide⟩ (Nat.le_of_ble_eq_true rfl) (by assumption) (c_X12_step G hm1 hru1 g1.1 g1.2.1 g1.2.2.1 hB1 (by omega) (by omega)) (fun r45 w45 q45 => ?_)
      obtain ⟨rfl, hB2, hF2⟩ := q45
      refine mu_inc_3 (c := mI 1) B dX12_go2_48 rfl (by decide) rfl ?_
      try rw [mI_add]
      refine mu_goto (tgt := 25) B dX12_go2_51 (by decide) ?_
      refine mu_to (ih w45 (by omega) ⟨hF.trans hF2, hB2⟩) rfl (by rw [show ((k + 1 : Nat) : Int) = (k : Int) + 1 by omega])
  show mu_WA X G 4 _ _ 0 0 0 _ []
  refine mu_al_0 B dX12_go2_0 ?_
  refine mu_al_0 B dX12_go2_1 ?_
  refine mu_getR B dX12_go2_2 fX12_36 rfl (by assumption) (by assumption) ?_
  refine mu_ldc B kX12_45 dX12_go2_5 ?_
  refine mu_il_1 B dX12_go2_7 ?_
  refine mu_imul B dX12_go2_8 ?_
  try rw [mI_mul]
  rw [show (65536 : Int) * (f : Int) = ((65536 * f : Nat) : Int) by omega]
  refine mu_cV2 B dX12_go2_9 mX12_204 ⟨⟨by decide, by decide⟩, by decide, by decide⟩ (Nat.le_of_ble_eq_true rfl) (by assumption) (c_X12_look G hm hBf) (fun r9 w9 q9 => ?_)
  obtain ⟨rfl, L, R, U, D, M, hlk, ⟨h19, h20, h21, h22, h23⟩, hF9⟩ := q9
  have hk9 := (hm.fi hF9).1
  have hbd := hlk.bd
  have hMb : M ≤ 65536 := by rw [hlk.1]; have := cntR_le hBf.2.2.2.2 256; have := cntX_le hBf.2.2.2.2 256 0; omega
  have hdone := hlk.done (n := n)
  refine mu_al_0 B dX12_go2_12 ?_
  refine mu_il_2 B dX12_go2_13 ?_
  refine mu_eV1 B dX12_go2_14 mX12_212 ⟨⟨by decide, by decide⟩, by decide, by decide⟩ (Nat.le_of_ble_eq_true rfl) (by assumption) (c_X12_areDone G (hm.fi hF9) h19 h20 h21 h22 h23 (by omega) (k := (n : Int)) (by omega)) ?_
  refine mu_if_ne (tgt := 23) B dX12_go2_17 (by decide) (fun c17 => ?_) (fun c17 => ?_)
  · have z17 := mu_bt c17
    have hdn := hdone.mp z17
    refine mu_iconst (v := mI 0) B dX12_go2_23 rfl ?_
    refine mu_is_3 B dX12_go2_24 (by decide) rfl ?_
    exact LG hdn 0 w9 (Nat.zero_le _) ⟨hF9.mono (fun q j h => Or.inl h), hBf.fi hF9 (fun j hj => by unfold lk_S at hj; omega)⟩
  · have z17 := mu_bf c17
    have hdn : ¬ sp_done (fs_c (fs f)) n := fun q => z17 (hdone.mpr q)
    refine mu_bipush (v := mI (-2)) B dX12_go2_20 (by decide) ?_
    refine mu_iret E rfl (by decide) (by decide) dX12_go2_22 ?_
    refine ⟨hF9.mono (fun q j h => Or.inl h), fun hh => absurd hh hdn, fun _ => ⟨rfl, hfi.eqs (hF9.2.2.2 m 13 (by unfold lk_S; omega)).1 (fun q hq => ⟨(hF9.2.2.2 _ q (by unfold lk_S; omega)).1, (hF9.2.2.2 _ q (by unfold lk_S; omega)).1⟩) (fun j hj => (hF9.2.2.2 _ j (by unfold lk_S; omega)).1)⟩⟩

theorem pow6 {n : Nat} (h : n ≤ 6) : 2 ^ n ≤ 64 := Nat.le_trans (Nat.pow_le_pow_right (by decide) h) (by decide)
theorem go_int {w : mu_W} {m nr : Nat} {rs : Nat → mu_RS} {nf : Nat} {fs : Nat → mu_FS} {f n : Nat} {r : Option Value} {w' : mu_W} (h : go_post w m nr rs nf fs f n r w') : ∃ v : Int32, r = some (.int v) := by
  by_cases hd : sp_done (fs_c (fs f)) n
  · exact ⟨_, (h.2.1 hd).1⟩
  · exact ⟨_, (h.2.2 hd).1⟩

set_option maxHeartbeats 4000000 in
set_option maxRecDepth 100000 in
theorem c_X12_steps (G : mu_G) {w : mu_W} {m : Nat} (hm : mo_ok w m) {nr : Nat} {rs : Nat → mu_RS} (hru : MRu w m nr rs) {nf : Nat} {fs : Nat → mu_FS} (hfi : MFi w m nr rs nf fs) {z k : Int} (hz : mi_ok z) (hk : mi_ok k) : mu_Ct G M_X12_steps [.ref m, .int (mI z), .int (mI k)] w (fun r w' => if (0 ≤ z ∧ z < nf) ∧ 0 ≤ k ∧ k ≤ 64 then go_post w m nr rs nf fs z.toNat (k.toNat) r w' else r = some (.int (mI (-1))) ∧ w' = w) := by
  have hk0 := hm.1
  have hnf := hfi.1
  obtain ⟨hz1, hz2⟩ := id hz
  obtain ⟨hk1, hk2⟩ := hk
  refine mu_ofWA G M_X12_steps [.ref m, .int (mI z), .int (mI k)] (by decide) rfl (Nat.le_of_ble_eq_true rfl) ?_
  intro X E
  have B : mu_B X G cX12_steps RX12 3 (mu_rm M_X12_steps) := E.1
  show mu_WA X G 3 _ _ 0 0 0 _ []
  refine mu_al_0 B dX12_steps_0 ?_
  refine mu_il_1 B dX12_steps_1 ?_
  refine mu_eV1 B dX12_steps_2 mX12_178 ⟨⟨by decide, by decide⟩, by decide, by decide⟩ (Nat.le_of_ble_eq_true rfl) (by assumption) (c_X12_isField G hm (n := nf) hfi.2.1 hfi.1 hz) ?_
  refine mu_if_eq (tgt := 18) B dX12_steps_5 (by decide) (fun c5 => ?_) (fun c5 => ?_)
  · have z5 := mu_bf c5
    refine mu_iconst (v := mI (-1)) B dX12_steps_18 rfl ?_
    refine mu_goto (tgt := 28) B dX12_steps_19 (by decide) ?_
    refine mu_iret E rfl (by decide) (by decide) dX12_steps_28 ?_
    first | (rw [if_neg (fun hh => z5 hh.1)]; exact ⟨rfl, rfl⟩) | (rw [if_neg (fun hh => by have := hh.2; omega)]; exact ⟨rfl, rfl⟩) | (rw [if_pos ⟨z5, by omega⟩]; exact q25)
  · have z5 := mu_bt c5
    refine mu_il_2 B dX12_steps_8 ?_
    refine mu_if_lt (tgt := 18) B dX12_steps_9 (by decide) (fun c9 => ?_) (fun c9 => ?_)
    · try rw [mI_lt0 ⟨by omega, by omega⟩] at c9
      refine mu_iconst (v := mI (-1)) B dX12_steps_18 rfl ?_
      refine mu_goto (tgt := 28) B dX12_steps_19 (by decide) ?_
      refine mu_iret E rfl (by decide) (by decide) dX12_steps_28 ?_
      first | (rw [if_neg (fun hh => z5 hh.1)]; exact ⟨rfl, rfl⟩) | (rw [if_neg (fun hh => by have := hh.2; omega)]; exact ⟨rfl, rfl⟩) | (rw [if_pos ⟨z5, by omega⟩]; exact q25)
    · try rw [mI_lt0 ⟨by omega, by omega⟩] at c9
      refine mu_il_2 B dX12_steps_12 ?_
      refine mu_bipush (v := mI 64) B dX12_steps_13 (by decide) ?_
      refine mu_icmp_le (tgt := 22) B dX12_steps_15 (by decide) (fun c15 => ?_) (fun c15 => ?_)
      · try rw [mI_le ⟨by omega, by omega⟩ ⟨by omega, by omega⟩] at c15
        obtain ⟨f, hf⟩ : ∃ f : Nat, z = f := ⟨z.toNat, by omega⟩
        subst hf
        obtain ⟨n, hn⟩ : ∃ n : Nat, k = n := ⟨k.toNat, by omega⟩
        subst hn
        refine mu_al_0 B dX12_steps_22 ?_
        refine mu_il_1 B dX12_steps_23 ?_
        refine mu_il_2 B dX12_steps_24 ?_
        refine mu_cV2 B dX12_steps_25 mX12_219 ⟨⟨by decide, by decide⟩, by decide, by decide⟩ (Nat.le_of_ble_eq_true rfl) (by assumption) (c_X12_go2 G hm hru hfi (f := f) (n := n) (by omega) (by omega)) (fun r25 w25 q25 => ?_)
        obtain ⟨v9, rfl⟩ := go_int q25
        show mu_WA X G 3 _ w25 _ _ _ _ [.int v9]
        refine mu_iret E rfl (by decide) (by decide) dX12_steps_28 ?_
        first | (rw [if_neg (fun hh => z5 hh.1)]; exact ⟨rfl, rfl⟩) | (rw [if_neg (fun hh => by have := hh.2; omega)]; exact ⟨rfl, rfl⟩) | (rw [if_pos ⟨z5, by omega⟩]; exact q25)
      · try rw [mI_le ⟨by omega, by omega⟩ ⟨by omega, by omega⟩] at c15
        refine mu_iconst (v := mI (-1)) B dX12_steps_18 rfl ?_
        refine mu_goto (tgt := 28) B dX12_steps_19 (by decide) ?_
        refine mu_iret E rfl (by decide) (by decide) dX12_steps_28 ?_
        first | (rw [if_neg (fun hh => z5 hh.1)]; exact ⟨rfl, rfl⟩) | (rw [if_neg (fun hh => by have := hh.2; omega)]; exact ⟨rfl, rfl⟩) | (rw [if_pos ⟨z5, by omega⟩]; exact q25)

set_option maxHeartbeats 4000000 in
set_option maxRecDepth 100000 in
theorem c_X12_jump (G : mu_G) {w : mu_W} {m : Nat} (hm : mo_ok w m) {nr : Nat} {rs : Nat → mu_RS} (hru : MRu w m nr rs) {nf : Nat} {fs : Nat → mu_FS} (hfi : MFi w m nr rs nf fs) {z k : Int} (hz : mi_ok z) (hk : mi_ok k) : mu_Ct G M_X12_jump [.ref m, .int (mI z), .int (mI k)] w (fun r w' => if (0 ≤ z ∧ z < nf) ∧ 0 ≤ k ∧ k ≤ 6 then go_post w m nr rs nf fs z.toNat (2 ^ k.toNat) r w' else r = some (.int (mI (-1))) ∧ w' = w) := by
  have hk0 := hm.1
  have hnf := hfi.1
  obtain ⟨hz1, hz2⟩ := id hz
  obtain ⟨hk1, hk2⟩ := hk
  refine mu_ofWA G M_X12_jump [.ref m, .int (mI z), .int (mI k)] (by decide) rfl (Nat.le_of_ble_eq_true rfl) ?_
  intro X E
  have B : mu_B X G cX12_jump RX12 3 (mu_rm M_X12_jump) := E.1
  show mu_WA X G 3 _ _ 0 0 0 _ []
  refine mu_al_0 B dX12_jump_0 ?_
  refine mu_il_1 B dX12_jump_1 ?_
  refine mu_eV1 B dX12_jump_2 mX12_178 ⟨⟨by decide, by decide⟩, by decide, by decide⟩ (Nat.le_of_ble_eq_true rfl) (by assumption) (c_X12_isField G hm (n := nf) hfi.2.1 hfi.1 hz) ?_
  refine mu_if_eq (tgt := 18) B dX12_jump_5 (by decide) (fun c5 => ?_) (fun c5 => ?_)
  · have z5 := mu_bf c5
    refine mu_iconst (v := mI (-1)) B dX12_jump_18 rfl ?_
    refine mu_goto (tgt := 30) B dX12_jump_19 (by decide) ?_
    refine mu_iret E rfl (by decide) (by decide) dX12_jump_30 ?_
    first | (rw [if_neg (fun hh => z5 hh.1)]; exact ⟨rfl, rfl⟩) | (rw [if_neg (fun hh => by have := hh.2; omega)]; exact ⟨rfl, rfl⟩) | (rw [if_pos ⟨z5, by omega⟩]; exact q27)
  · have z5 := mu_bt c5
    refine mu_il_2 B dX12_jump_8 ?_
    refine mu_if_lt (tgt := 18) B dX12_jump_9 (by decide) (fun c9 => ?_) (fun c9 => ?_)
    · try rw [mI_lt0 ⟨by omega, by omega⟩] at c9
      refine mu_iconst (v := mI (-1)) B dX12_jump_18 rfl ?_
      refine mu_goto (tgt := 30) B dX12_jump_19 (by decide) ?_
      refine mu_iret E rfl (by decide) (by decide) dX12_jump_30 ?_
      first | (rw [if_neg (fun hh => z5 hh.1)]; exact ⟨rfl, rfl⟩) | (rw [if_neg (fun hh => by have := hh.2; omega)]; exact ⟨rfl, rfl⟩) | (rw [if_pos ⟨z5, by omega⟩]; exact q27)
    · try rw [mI_lt0 ⟨by omega, by omega⟩] at c9
      refine mu_il_2 B dX12_jump_12 ?_
      refine mu_bipush (v := mI 6) B dX12_jump_13 (by decide) ?_
      refine mu_icmp_le (tgt := 22) B dX12_jump_15 (by decide) (fun c15 => ?_) (fun c15 => ?_)
      · try rw [mI_le ⟨by omega, by omega⟩ ⟨by omega, by omega⟩] at c15
        obtain ⟨f, hf⟩ : ∃ f : Nat, z = f := ⟨z.toNat, by omega⟩
        subst hf
        obtain ⟨n, hn⟩ : ∃ n : Nat, k = n := ⟨k.toNat, by omega⟩
        subst hn
        have h64 := pow6 (n := n) (by omega)
        refine mu_al_0 B dX12_jump_22 ?_
        refine mu_il_1 B dX12_jump_23 ?_
        refine mu_iconst (v := mI 1) B dX12_jump_24 rfl ?_
        refine mu_il_2 B dX12_jump_25 ?_
        refine mu_ishl B dX12_jump_26 ?_
        rw [mI_shl _ _ (by omega), show (1 : Int) * 2 ^ n = ((2 ^ n : Nat) : Int) by simp]
        refine mu_cV2 B dX12_jump_27 mX12_219 ⟨⟨by decide, by decide⟩, by decide, by decide⟩ (Nat.le_of_ble_eq_true rfl) (by assumption) (c_X12_go2 G hm hru hfi (f := f) (n := 2 ^ n) (by omega) (by omega)) (fun r27 w27 q27 => ?_)
        obtain ⟨v9, rfl⟩ := go_int q27
        show mu_WA X G 3 _ w27 _ _ _ _ [.int v9]
        refine mu_iret E rfl (by decide) (by decide) dX12_jump_30 ?_
        first | (rw [if_neg (fun hh => z5 hh.1)]; exact ⟨rfl, rfl⟩) | (rw [if_neg (fun hh => by have := hh.2; omega)]; exact ⟨rfl, rfl⟩) | (rw [if_pos ⟨z5, by omega⟩]; exact q27)
      · try rw [mI_le ⟨by omega, by omega⟩ ⟨by omega, by omega⟩] at c15
        refine mu_iconst (v := mI (-1)) B dX12_jump_18 rfl ?_
        refine mu_goto (tgt := 30) B dX12_jump_19 (by decide) ?_
        refine mu_iret E rfl (by decide) (by decide) dX12_jump_30 ?_
        first | (rw [if_neg (fun hh => z5 hh.1)]; exact ⟨rfl, rfl⟩) | (rw [if_neg (fun hh => by have := hh.2; omega)]; exact ⟨rfl, rfl⟩) | (rw [if_pos ⟨z5, by omega⟩]; exact q27)
