/-! ===== the reference: a new field, an emptied one ===== -/
def fn_S (m nf : Nat) : Nat → Nat → Prop := fun q j => (q = m ∧ j = 13) ∨ (q = m + 9 ∧ 65536 * nf ≤ j ∧ j < 65536 * nf + 65536) ∨ (q = m + 10 ∧ j = nf) ∨ (q = m + 11 ∧ j = nf)
def sp_new (fs : Nat → mu_FS) (nf r : Nat) : Nat → mu_FS := rs_up fs nf (r, mI 0, fun _ _ => 0)
theorem MFi.add {w w' : mu_W} {m nr : Nat} {rs : Nat → mu_RS} {nf : Nat} {fs : Nat → mu_FS} (h : MFi w m nr rs nf fs) (hnf : nf < 8) {r : Nat} (hr : r < nr) (hq : rs_nb (rs r) ≠ 0 ∧ rs_bo (rs r) % 2 = 0) (hF : mu_Fi (fn_S m nf) w w') (h1 : mu_iv w' m 13 = mI ((nf + 1 : Nat) : Int)) (h2 : mu_iv w' (m + 10) nf = mI r) (h3 : mu_iv w' (m + 11) nf = mI 0) (h4 : ∀ j, j < 65536 → mu_iv w' (m + 9) (65536 * nf + j) = mI 0) : MFi w' m nr rs (nf + 1) (sp_new fs nf r) := ⟨by omega, h1, fun q hq2 => by
  by_cases e : q = nf
  · subst e
    have e1 : sp_new fs q r q = (r, mI 0, fun _ _ => 0) := by unfold sp_new rs_up; rw [if_pos rfl]
    rw [e1]
    exact ⟨⟨hr, hq.1, hq.2, fun _ _ => Nat.zero_le _⟩, h2, h3, fun i j hi hj => by rw [Nat.add_assoc]; exact h4 _ (by omega)⟩
  · have e1 : sp_new fs nf r q = fs q := by unfold sp_new rs_up; rw [if_neg e]
    obtain ⟨g1, g2, g3, g4⟩ := h.2.2 q (by omega)
    rw [e1]
    exact ⟨g1, hF.iv (by unfold fn_S; omega) g2, hF.iv (by unfold fn_S; omega) g3, fun i j hi hj => hF.iv (by unfold fn_S; omega) (g4 i j hi hj)⟩⟩
def fn_post (w : mu_W) (m nr : Nat) (rs : Nat → mu_RS) (nf : Nat) (fs : Nat → mu_FS) (z : Int) (r : Option Value) (w' : mu_W) : Prop :=
  if ¬ (0 ≤ z ∧ z < nr) then r = some (.int (mI (-1))) ∧ w' = w else if ¬ (rs_nb (rs z.toNat) ≠ 0 ∧ rs_bo (rs z.toNat) % 2 = 0) then r = some (.int (mI (-2))) ∧ w' = w else if 8 ≤ nf then r = some (.int (mI (-3))) ∧ w' = w else r = some (.int (mI nf)) ∧ MFi w' m nr rs (nf + 1) (sp_new fs nf z.toNat) ∧ mu_Fi (fn_S m nf) w w'

set_option maxHeartbeats 4000000 in
set_option maxRecDepth 100000 in
theorem c_X12_field (G : mu_G) {w : mu_W} {m : Nat} (hm : mo_ok w m) {nr : Nat} {rs : Nat → mu_RS} (hru : MRu w m nr rs) {nf : Nat} {fs : Nat → mu_FS} (hfi : MFi w m nr rs nf fs) {z : Int} (hz : mi_ok z) : mu_Ct G M_X12_field [.ref m, .int (mI z)] w (fun r w' => fn_post w m nr rs nf fs z r w') := by
  have hk0 := hm.1
  have hnf := hfi.1
  have hnr := hru.1
  obtain ⟨hz1, hz2⟩ := id hz
  refine mu_ofWA G M_X12_field [.ref m, .int (mI z), mu_no] (by decide) rfl (Nat.le_of_ble_eq_true rfl) ?_
  intro X E
  have B : mu_B X G cX12_field RX12 3 (mu_rm M_X12_field) := E.1
  have LN : ∀ (k : Nat), k < nr → (rs_nb (rs k) ≠ 0 ∧ rs_bo (rs k) % 2 = 0) → nf < 8 → ∀ q (s : mu_W), q ≤ 65536 → (mu_Fi (fun a j => a = m + 9 ∧ 65536 * nf ≤ j ∧ j < 65536 * nf + 65536) w s ∧ ∀ j, j < q → mu_iv s (m + 9) (65536 * nf + j) = mI 0) → mu_WA X G 3 (mu_Q X G M_X12_field (fn_post w m nr rs nf fs (k : Int))) s 0 0 35 [.ref m, .int (mI k), .int (mI q)] [] := by
    intro k hk hqu hnf8
    refine mu_ind 65536 (fun q s => mu_WA X G 3 (mu_Q X G M_X12_field (fn_post w m nr rs nf fs (k : Int))) s 0 0 35 [.ref m, .int (mI k), .int (mI q)] []) (fun q s => mu_Fi (fun a j => a = m + 9 ∧ 65536 * nf ≤ j ∧ j < 65536 * nf + 65536) w s ∧ ∀ j, j < q → mu_iv s (m + 9) (65536 * nf + j) = mI 0) ?_
    rintro q w1 hq ⟨hF0, hz0⟩ ih
    have hnf1 : mu_iv w1 m 13 = mI nf := hF0.iv (by omega) hfi.2.1
    have hF : mu_Fi (fn_S m nf) w w1 := hF0.mono (fun a j h => Or.inr (Or.inl h))
    have hm1 := hm.fi hF0
    have hk1 := hm1.1
    obtain ⟨r14, k14⟩ := mo_14 hm1
    obtain ⟨r15, k15⟩ := mo_15 hm1
    obtain ⟨r16, k16⟩ := mo_16 hm1
    refine mu_il_2 B dX12_field_35 ?_
    refine mu_ldc B kX12_45 dX12_field_36 ?_
    refine mu_icmp_ge (tgt := 62) B dX12_field_38 (by decide) (fun c38 => ?_) (fun c38 => ?_)
    · try rw [mI_le ⟨by omega, by omega⟩ ⟨by omega, by omega⟩] at c38
      obtain rfl : q = 65536 := by omega
      refine mu_al_0 B dX12_field_62 ?_
      refine mu_getR B dX12_field_63 fX12_39 rfl (by assumption) (by assumption) ?_
      refine mu_al_0 B dX12_field_66 ?_
      refine mu_getI B dX12_field_67 fX12_172 rfl (by assumption) ?_
      rw [hnf1]
      refine mu_il_1 B dX12_field_70 ?_
      refine mu_iast B dX12_field_71 (by assumption) (mI_inN (by omega) (by decide)) ?_
      rw [mI_clampN (by omega)]
      refine mu_al_0 B dX12_field_72 ?_
      refine mu_getR B dX12_field_73 fX12_42 rfl (by assumption) (by assumption) ?_
      refine mu_al_0 B dX12_field_76 ?_
      refine mu_getI B dX12_field_77 fX12_172 rfl (by assumption) ?_
      rw [mu_iv_oth _ _ (by omega), hnf1]
      refine mu_iconst (v := mI 0) B dX12_field_80 rfl ?_
      refine mu_iast B dX12_field_81 (by assumption) (mI_inN (by omega) (by decide)) ?_
      rw [mI_clampN (by omega)]
      refine mu_al_0 B dX12_field_82 ?_
      refine mu_dup B dX12_field_83 rfl ?_
      refine mu_getI B dX12_field_84 fX12_172 rfl (by assumption) ?_
      rw [mu_iv_oth _ _ (by omega), mu_iv_oth _ _ (by omega), hnf1]
      refine mu_iconst (v := mI 1) B dX12_field_87 rfl ?_
      refine mu_iadd B dX12_field_88 ?_
      try rw [mI_add]
      refine mu_putI B dX12_field_89 fX12_172 fwX12_13 rfl (by assumption) ?_
      refine mu_al_0 B dX12_field_92 ?_
      refine mu_getI B dX12_field_93 fX12_172 rfl (by assumption) ?_
      rw [mu_iv_same]
      refine mu_iconst (v := mI 1) B dX12_field_96 rfl ?_
      refine mu_isub B dX12_field_97 ?_
      try rw [mI_sub]
      rw [show (nf : Int) + 1 - 1 = nf by omega]
      refine mu_iret E rfl (by decide) (by decide) dX12_field_98 ?_
      unfold fn_post
      rw [if_neg (fun hh => hh ⟨by omega, by omega⟩), if_neg (fun hh => hh hqu), if_neg (by omega)]
      have hF9 := ((hF.si (a := m + 10) (k := nf) (x := mI k) (Or.inr (Or.inr (Or.inl ⟨rfl, rfl⟩)))).si (a := m + 11) (k := nf) (x := mI 0) (Or.inr (Or.inr (Or.inr ⟨rfl, rfl⟩)))).si (a := m) (k := 13) (x := mI ((nf : Int) + 1)) (Or.inl ⟨rfl, rfl⟩)
      refine ⟨rfl, hfi.add (by omega) (by omega) hqu hF9 (by rw [mu_iv_same]; rfl) ?_ ?_ ?_, hF9⟩
      · rw [mu_iv_oth _ _ (by omega), mu_iv_oth _ _ (by omega), mu_iv_same]; rfl
      · rw [mu_iv_oth _ _ (by omega), mu_iv_same]
      · intro j hj; rw [mu_iv_oth _ _ (by omega), mu_iv_oth _ _ (by omega), mu_iv_oth _ _ (by omega)]; exact hz0 j hj
    · try rw [mI_le ⟨by omega, by omega⟩ ⟨by omega, by omega⟩] at c38
      refine mu_al_0 B dX12_field_41 ?_
      refine mu_getR B dX12_field_42 fX12_36 rfl (by assumption) (by assumption) ?_
      refine mu_ldc B kX12_45 dX12_field_45 ?_
      refine mu_al_0 B dX12_field_47 ?_
      refine mu_getI B dX12_field_48 fX12_172 rfl (by assumption) ?_
      rw [hnf1]
      refine mu_imul B dX12_field_51 ?_
      try rw [mI_mul]
      refine mu_il_2 B dX12_field_52 ?_
      refine mu_iadd B dX12_field_53 ?_
      try rw [mI_add]
      rw [show (65536 : Int) * (nf : Int) + (q : Int) = ((65536 * nf + q : Nat) : Int) by omega]
      refine mu_iconst (v := mI 0) B dX12_field_54 rfl ?_
      refine mu_bast B dX12_field_55 (by assumption) (mI_inN (by omega) (by decide)) ?_
      rw [mI_clampN (by omega), show (mI 0).toInt8.toInt32 = mI 0 from by decide]
      refine mu_inc_2 (c := mI 1) B dX12_field_56 rfl (by decide) rfl ?_
      try rw [mI_add]
      refine mu_goto (tgt := 35) B dX12_field_59 (by decide) ?_
      refine mu_to (ih (mu_si w1 (m + 9) (65536 * nf + q) (mI 0)) (by omega) ⟨hF0.si ⟨rfl, by omega, by omega⟩, fun j hj => ?_⟩) rfl (by rw [show ((q + 1 : Nat) : Int) = (q : Int) + 1 by omega])
      by_cases e9 : j = q
      · rw [e9, mu_iv_same]
      · rw [mu_iv_oth _ _ (by omega)]; exact hz0 j (by omega)
  show mu_WA X G 3 _ _ 0 0 0 _ []
  refine mu_al_0 B dX12_field_0 ?_
  refine mu_il_1 B dX12_field_1 ?_
  refine mu_eV1 B dX12_field_2 mX12_161 ⟨⟨by decide, by decide⟩, by decide, by decide⟩ (Nat.le_of_ble_eq_true rfl) (by assumption) (c_X12_isRule G hm (n := nr) hru.2.1 hru.1 hz) ?_
  refine mu_if_ne (tgt := 10) B dX12_field_5 (by decide) (fun c5 => ?_) (fun c5 => ?_)
  · have z5 := mu_bt c5
    obtain ⟨k, hk⟩ : ∃ k : Nat, z = k := ⟨z.toNat, by omega⟩
    subst hk
    refine mu_al_0 B dX12_field_10 ?_
    refine mu_il_1 B dX12_field_11 ?_
    refine mu_eV1 B dX12_field_12 mX12_175 ⟨⟨by decide, by decide⟩, by decide, by decide⟩ (Nat.le_of_ble_eq_true rfl) (by assumption) (c_X12_isQuiet G hm hru (k := k) (by omega)) ?_
    refine mu_if_ne (tgt := 21) B dX12_field_15 (by decide) (fun c15 => ?_) (fun c15 => ?_)
    · have z15 := mu_bt c15
      refine mu_al_0 B dX12_field_21 ?_
      refine mu_getI B dX12_field_22 fX12_172 rfl (by assumption) ?_
      rw [hfi.2.1]
      refine mu_bipush (v := mI 8) B dX12_field_25 (by decide) ?_
      refine mu_icmp_ne (tgt := 33) B dX12_field_27 (by decide) (fun c27 => ?_) (fun c27 => ?_)
      · try rw [mI_eq ⟨by omega, by omega⟩ ⟨by omega, by omega⟩] at c27
        refine mu_iconst (v := mI 0) B dX12_field_33 rfl ?_
        refine mu_is_2 B dX12_field_34 (by decide) rfl ?_
        exact LN k (by omega) z15 (by omega) 0 w (by decide) ⟨mu_Fi.refl w, fun j hj => absurd hj (Nat.not_lt_zero j)⟩
      · try rw [mI_eq ⟨by omega, by omega⟩ ⟨by omega, by omega⟩] at c27
        refine mu_bipush (v := mI (-3)) B dX12_field_30 (by decide) ?_
        refine mu_iret E rfl (by decide) (by decide) dX12_field_32 ?_
        unfold fn_post
        rw [if_neg (fun hh => hh z5), Int.toNat_natCast, if_neg (fun hh => hh z15), if_pos (by omega)]
        exact ⟨rfl, rfl⟩
    · have z15 := mu_bf c15
      refine mu_bipush (v := mI (-2)) B dX12_field_18 (by decide) ?_
      refine mu_iret E rfl (by decide) (by decide) dX12_field_20 ?_
      unfold fn_post
      rw [if_neg (fun hh => hh z5), Int.toNat_natCast, if_pos z15]
      exact ⟨rfl, rfl⟩
  · have z5 := mu_bf c5
    refine mu_iconst (v := mI (-1)) B dX12_field_8 rfl ?_
    refine mu_iret E rfl (by decide) (by decide) dX12_field_9 ?_
    unfold fn_post
    rw [if_pos z5]
    exact ⟨rfl, rfl⟩

def em_S (m f : Nat) : Nat → Nat → Prop := fun q j => (q = m ∧ 19 ≤ j ∧ j ≤ 23) ∨ (q = m + 9 ∧ 65536 * f ≤ j ∧ j < 65536 * f + 65536) ∨ (q = m + 11 ∧ j = f)
def em_post (w : mu_W) (m nr : Nat) (rs : Nat → mu_RS) (nf : Nat) (fs : Nat → mu_FS) (z : Int) (r : Option Value) (w' : mu_W) : Prop :=
  if ¬ (0 ≤ z ∧ z < nf) then r = some (.int (mI (-1))) ∧ w' = w else r = some (.int (mI (cntR (fs_c (fs z.toNat)) 256))) ∧ MFi w' m nr rs nf (fi_up fs z.toNat (mI 0) (fun _ _ => 0)) ∧ mu_Fi (em_S m z.toNat) w w'

set_option maxHeartbeats 4000000 in
set_option maxRecDepth 100000 in
theorem c_X12_empty (G : mu_G) {w : mu_W} {m : Nat} (hm : mo_ok w m) {nr : Nat} {rs : Nat → mu_RS} {nf : Nat} {fs : Nat → mu_FS} (hfi : MFi w m nr rs nf fs) {z : Int} (hz : mi_ok z) : mu_Ct G M_X12_empty [.ref m, .int (mI z)] w (fun r w' => em_post w m nr rs nf fs z r w') := by
  have hk0 := hm.1
  have hnf := hfi.1
  obtain ⟨hz1, hz2⟩ := id hz
  refine mu_ofWA G M_X12_empty [.ref m, .int (mI z), mu_no] (by decide) rfl (Nat.le_of_ble_eq_true rfl) ?_
  intro X E
  have B : mu_B X G cX12_empty RX12 3 (mu_rm M_X12_empty) := E.1
  have LE : ∀ (f : Nat), f < nf → ∀ (L R U D : Int) (M : Nat), LKP (fs_c (fs f)) 256 0 L R U D M → ∀ q (s : mu_W), q ≤ 65536 → (mu_Fi (em_S m f) w s ∧ mu_iv s m 23 = mI M ∧ ∀ j, j < q → mu_iv s (m + 9) (65536 * f + j) = mI 0) → mu_WA X G 3 (mu_Q X G M_X12_empty (em_post w m nr rs nf fs (f : Int))) s 0 0 24 [.ref m, .int (mI f), .int (mI q)] [] := by
    intro f hf L R U D M hlk
    refine mu_ind 65536 (fun q s => mu_WA X G 3 (mu_Q X G M_X12_empty (em_post w m nr rs nf fs (f : Int))) s 0 0 24 [.ref m, .int (mI f), .int (mI q)] []) (fun q s => mu_Fi (em_S m f) w s ∧ mu_iv s m 23 = mI M ∧ ∀ j, j < q → mu_iv s (m + 9) (65536 * f + j) = mI 0) ?_
    rintro q w1 hq ⟨hF, h23, hz0⟩ ih
    have hm1 := hm.fi hF
    have hk1 := hm1.1
    obtain ⟨r14, k14⟩ := mo_14 hm1
    obtain ⟨r16, k16⟩ := mo_16 hm1
    refine mu_il_2 B dX12_empty_24 ?_
    refine mu_ldc B kX12_45 dX12_empty_25 ?_
    refine mu_icmp_ge (tgt := 48) B dX12_empty_27 (by decide) (fun c27 => ?_) (fun c27 => ?_)
    · try rw [mI_le ⟨by omega, by omega⟩ ⟨by omega, by omega⟩] at c27
      obtain rfl : q = 65536 := by omega
      refine mu_al_0 B dX12_empty_48 ?_
      refine mu_getR B dX12_empty_49 fX12_42 rfl (by assumption) (by assumption) ?_
      refine mu_il_1 B dX12_empty_52 ?_
      refine mu_iconst (v := mI 0) B dX12_empty_53 rfl ?_
      refine mu_iast B dX12_empty_54 (by assumption) (mI_inN (by omega) (by decide)) ?_
      rw [mI_clampN (by omega)]
      refine mu_al_0 B dX12_empty_55 ?_
      refine mu_getI B dX12_empty_56 fX12_201 rfl (by assumption) ?_
      rw [mu_iv_oth _ _ (by omega), h23]
      refine mu_iret E rfl (by decide) (by decide) dX12_empty_59 ?_
      unfold em_post
      rw [if_neg (fun hh => hh ⟨by omega, by omega⟩)]
      refine ⟨by rw [cntR_of hlk]; rfl, hfi.cell (f := f) (by omega) (fun _ _ => Nat.zero_le _) ?_ ?_ ?_ (mu_iv_same _ _ _ _) ?_ ?_, hF.si (Or.inr (Or.inr ⟨rfl, rfl⟩))⟩
      · rw [mu_iv_oth _ _ (by omega)]; exact (hF.2.2.2 m 13 (by unfold em_S; omega)).1
      · intro q hq; rw [mu_iv_oth _ _ (by omega)]; exact (hF.2.2.2 _ q (by unfold em_S; omega)).1
      · intro q hq hne; rw [mu_iv_oth _ _ (by omega)]; exact (hF.2.2.2 _ q (by unfold em_S; omega)).1
      · intro j hj hj2; rw [mu_iv_oth _ _ (by omega)]; exact (hF.2.2.2 _ j (by unfold em_S; omega)).1
      · intro i j hi hj; rw [mu_iv_oth _ _ (by omega), Nat.add_assoc]; exact hz0 _ (by omega)
    · try rw [mI_le ⟨by omega, by omega⟩ ⟨by omega, by omega⟩] at c27
      refine mu_al_0 B dX12_empty_30 ?_
      refine mu_getR B dX12_empty_31 fX12_36 rfl (by assumption) (by assumption) ?_
      refine mu_ldc B kX12_45 dX12_empty_34 ?_
      refine mu_il_1 B dX12_empty_36 ?_
      refine mu_imul B dX12_empty_37 ?_
      try rw [mI_mul]
      refine mu_il_2 B dX12_empty_38 ?_
      refine mu_iadd B dX12_empty_39 ?_
      try rw [mI_add]
      rw [show (65536 : Int) * (f : Int) + (q : Int) = ((65536 * f + q : Nat) : Int) by omega]
      refine mu_iconst (v := mI 0) B dX12_empty_40 rfl ?_
      refine mu_bast B dX12_empty_41 (by assumption) (mI_inN (by omega) (by decide)) ?_
      rw [mI_clampN (by omega), show (mI 0).toInt8.toInt32 = mI 0 from by decide]
      refine mu_inc_2 (c := mI 1) B dX12_empty_42 rfl (by decide) rfl ?_
      try rw [mI_add]
      refine mu_goto (tgt := 24) B dX12_empty_45 (by decide) ?_
      refine mu_to (ih (mu_si w1 (m + 9) (65536 * f + q) (mI 0)) (by omega) ⟨hF.si (Or.inr (Or.inl ⟨rfl, by omega, by omega⟩)), by rw [mu_iv_oth _ _ (by omega)]; exact h23, fun j hj => ?_⟩) rfl (by rw [show ((q + 1 : Nat) : Int) = (q : Int) + 1 by omega])
      by_cases e9 : j = q
      · rw [e9, mu_iv_same]
      · rw [mu_iv_oth _ _ (by omega)]; exact hz0 j (by omega)
  show mu_WA X G 3 _ _ 0 0 0 _ []
  refine mu_al_0 B dX12_empty_0 ?_
  refine mu_il_1 B dX12_empty_1 ?_
  refine mu_eV1 B dX12_empty_2 mX12_178 ⟨⟨by decide, by decide⟩, by decide, by decide⟩ (Nat.le_of_ble_eq_true rfl) (by assumption) (c_X12_isField G hm (n := nf) hfi.2.1 hfi.1 hz) ?_
  refine mu_if_ne (tgt := 10) B dX12_empty_5 (by decide) (fun c5 => ?_) (fun c5 => ?_)
  · have z5 := mu_bt c5
    obtain ⟨f, hf⟩ : ∃ f : Nat, z = f := ⟨z.toNat, by omega⟩
    subst hf
    have hBf := hfi.bd hm (f := f) (by omega)
    obtain ⟨r14, k14⟩ := mo_14 hm
    refine mu_al_0 B dX12_empty_10 ?_
    refine mu_al_0 B dX12_empty_11 ?_
    refine mu_getR B dX12_empty_12 fX12_36 rfl (by assumption) (by assumption) ?_
    refine mu_ldc B kX12_45 dX12_empty_15 ?_
    refine mu_il_1 B dX12_empty_17 ?_
    refine mu_imul B dX12_empty_18 ?_
    try rw [mI_mul]
    rw [show (65536 : Int) * (f : Int) = ((65536 * f : Nat) : Int) by omega]
    refine mu_cV2 B dX12_empty_19 mX12_204 ⟨⟨by decide, by decide⟩, by decide, by decide⟩ (Nat.le_of_ble_eq_true rfl) (by assumption) (c_X12_look G hm hBf) (fun r19 w19 q19 => ?_)
    obtain ⟨rfl, L, R, U, D, M, hlk, ⟨h19, h20, h21, h22, h23⟩, hF9⟩ := q19
    have hk9 := (hm.fi hF9).1
    refine mu_iconst (v := mI 0) B dX12_empty_22 rfl ?_
    refine mu_is_2 B dX12_empty_23 (by decide) rfl ?_
    exact LE f (by omega) L R U D M hlk 0 w19 (by decide) ⟨hF9.mono (fun q j h => Or.inl h), h23, fun j hj => absurd hj (Nat.not_lt_zero j)⟩
  · have z5 := mu_bf c5
    refine mu_iconst (v := mI (-1)) B dX12_empty_8 rfl ?_
    refine mu_iret E rfl (by decide) (by decide) dX12_empty_9 ?_
    unfold em_post
    rw [if_pos z5]
    exact ⟨rfl, rfl⟩

set_option maxHeartbeats 4000000 in
set_option maxRecDepth 100000 in
theorem c_X12_remove (G : mu_G) {w : mu_W} {m : Nat} (hm : mo_ok w m) {nf ng : Nat} (hf : mu_iv w m 13 = mI nf) (hg : mu_iv w m 46 = mI ng) (hf2 : nf ≤ 8) (hg2 : ng ≤ 8) {z : Int} (hz : mi_ok z) : mu_Ct G M_X12_remove [.ref m, .int (mI z)] w (fun r w' => if z = 1 then (if nf = 0 then r = some (.int (mI (-2))) ∧ w' = w else r = some (.int (mI ((nf : Int) - 1))) ∧ w' = mu_si w m 13 (mI ((nf : Int) - 1))) else if z = 2 then (if ng = 0 then r = some (.int (mI (-2))) ∧ w' = w else r = some (.int (mI ((ng : Int) - 1))) ∧ w' = mu_si w m 46 (mI ((ng : Int) - 1))) else r = some (.int (mI (-1))) ∧ w' = w) := by
  have hk0 := hm.1
  obtain ⟨hz1, hz2⟩ := hz
  refine mu_ofWA G M_X12_remove [.ref m, .int (mI z)] (by decide) rfl (Nat.le_of_ble_eq_true rfl) ?_
  intro X E
  have B : mu_B X G cX12_remove RX12 2 (mu_rm M_X12_remove) := E.1
  show mu_WA X G 2 _ _ 0 0 0 _ []
  refine mu_il_1 B dX12_remove_0 ?_
  refine mu_iconst (v := mI 1) B dX12_remove_1 rfl ?_
  refine mu_icmp_lt (tgt := 10) B dX12_remove_2 (by decide) (fun c2 => ?_) (fun c2 => ?_)
  · try rw [mI_lt ⟨by omega, by omega⟩ ⟨by omega, by omega⟩] at c2
    refine mu_iconst (v := mI (-1)) B dX12_remove_10 rfl ?_
    refine mu_iret E rfl (by decide) (by decide) dX12_remove_11 ?_
    first | (rw [if_pos (by omega), if_pos (by omega)]; exact ⟨rfl, rfl⟩) | (rw [if_pos (by omega), if_neg (by omega)]; exact ⟨rfl, rfl⟩) | (rw [if_neg (by omega), if_pos (by omega), if_pos (by omega)]; exact ⟨rfl, rfl⟩) | (rw [if_neg (by omega), if_pos (by omega), if_neg (by omega)]; exact ⟨rfl, rfl⟩) | (rw [if_neg (by omega), if_neg (by omega)]; exact ⟨rfl, rfl⟩) | omega
  · try rw [mI_lt ⟨by omega, by omega⟩ ⟨by omega, by omega⟩] at c2
    refine mu_il_1 B dX12_remove_5 ?_
    refine mu_iconst (v := mI 2) B dX12_remove_6 rfl ?_
    refine mu_icmp_le (tgt := 12) B dX12_remove_7 (by decide) (fun c7 => ?_) (fun c7 => ?_)
    · try rw [mI_le ⟨by omega, by omega⟩ ⟨by omega, by omega⟩] at c7
      refine mu_il_1 B dX12_remove_12 ?_
      refine mu_iconst (v := mI 1) B dX12_remove_13 rfl ?_
      refine mu_icmp_ne (tgt := 27) B dX12_remove_14 (by decide) (fun c14 => ?_) (fun c14 => ?_)
      · try rw [mI_eq ⟨by omega, by omega⟩ ⟨by omega, by omega⟩] at c14
        refine mu_al_0 B dX12_remove_27 ?_
        refine mu_getI B dX12_remove_28 fX12_313 rfl (by assumption) ?_
        rw [hg]
        refine mu_if_ne (tgt := 37) B dX12_remove_31 (by decide) (fun c31 => ?_) (fun c31 => ?_)
        · try rw [mI_eq0 ⟨by omega, by omega⟩] at c31
          refine mu_il_1 B dX12_remove_37 ?_
          refine mu_iconst (v := mI 1) B dX12_remove_38 rfl ?_
          refine mu_icmp_ne (tgt := 55) B dX12_remove_39 (by decide) (fun c39 => ?_) (fun c39 => ?_)
          · try rw [mI_eq ⟨by omega, by omega⟩ ⟨by omega, by omega⟩] at c39
            refine mu_al_0 B dX12_remove_55 ?_
            refine mu_dup B dX12_remove_56 rfl ?_
            refine mu_getI B dX12_remove_57 fX12_313 rfl (by assumption) ?_
            rw [hg]
            refine mu_iconst (v := mI 1) B dX12_remove_60 rfl ?_
            refine mu_isub B dX12_remove_61 ?_
            try rw [mI_sub]
            refine mu_putI B dX12_remove_62 fX12_313 fwX12_46 rfl (by assumption) ?_
            refine mu_il_1 B dX12_remove_65 ?_
            refine mu_iconst (v := mI 1) B dX12_remove_66 rfl ?_
            refine mu_icmp_ne (tgt := 77) B dX12_remove_67 (by decide) (fun c67 => ?_) (fun c67 => ?_)
            · try rw [mI_eq ⟨by omega, by omega⟩ ⟨by omega, by omega⟩] at c67
              first | (exfalso; omega) | (refine mu_al_0 B dX12_remove_77 ?_; refine mu_getI B dX12_remove_78 fX12_313 rfl (by assumption) ?_; rw [mu_iv_same]; refine mu_iret E rfl (by decide) (by decide) dX12_remove_81 ?_; rw [if_neg (by omega), if_pos (by omega), if_neg (by omega)]; exact ⟨rfl, rfl⟩)
            · try rw [mI_eq ⟨by omega, by omega⟩ ⟨by omega, by omega⟩] at c67
              first | (exfalso; omega) | (refine mu_al_0 B dX12_remove_70 ?_; refine mu_getI B dX12_remove_71 fX12_172 rfl (by assumption) ?_; rw [mu_iv_same]; refine mu_goto (tgt := 81) B dX12_remove_74 (by decide) ?_; refine mu_iret E rfl (by decide) (by decide) dX12_remove_81 ?_; rw [if_pos (by omega), if_neg (by omega)]; exact ⟨rfl, rfl⟩)
          · try rw [mI_eq ⟨by omega, by omega⟩ ⟨by omega, by omega⟩] at c39
            refine mu_al_0 B dX12_remove_42 ?_
            refine mu_dup B dX12_remove_43 rfl ?_
            refine mu_getI B dX12_remove_44 fX12_172 rfl (by assumption) ?_
            rw [hf]
            refine mu_iconst (v := mI 1) B dX12_remove_47 rfl ?_
            refine mu_isub B dX12_remove_48 ?_
            try rw [mI_sub]
            refine mu_putI B dX12_remove_49 fX12_172 fwX12_13 rfl (by assumption) ?_
            refine mu_goto (tgt := 65) B dX12_remove_52 (by decide) ?_
            refine mu_il_1 B dX12_remove_65 ?_
            refine mu_iconst (v := mI 1) B dX12_remove_66 rfl ?_
            refine mu_icmp_ne (tgt := 77) B dX12_remove_67 (by decide) (fun c67 => ?_) (fun c67 => ?_)
            · try rw [mI_eq ⟨by omega, by omega⟩ ⟨by omega, by omega⟩] at c67
              first | (exfalso; omega) | (refine mu_al_0 B dX12_remove_77 ?_; refine mu_getI B dX12_remove_78 fX12_313 rfl (by assumption) ?_; rw [mu_iv_same]; refine mu_iret E rfl (by decide) (by decide) dX12_remove_81 ?_; rw [if_neg (by omega), if_pos (by omega), if_neg (by omega)]; exact ⟨rfl, rfl⟩)
            · try rw [mI_eq ⟨by omega, by omega⟩ ⟨by omega, by omega⟩] at c67
              first | (exfalso; omega) | (refine mu_al_0 B dX12_remove_70 ?_; refine mu_getI B dX12_remove_71 fX12_172 rfl (by assumption) ?_; rw [mu_iv_same]; refine mu_goto (tgt := 81) B dX12_remove_74 (by decide) ?_; refine mu_iret E rfl (by decide) (by decide) dX12_remove_81 ?_; rw [if_pos (by omega), if_neg (by omega)]; exact ⟨rfl, rfl⟩)
        · try rw [mI_eq0 ⟨by omega, by omega⟩] at c31
          refine mu_bipush (v := mI (-2)) B dX12_remove_34 (by decide) ?_
          refine mu_iret E rfl (by decide) (by decide) dX12_remove_36 ?_
          first | (rw [if_pos (by omega), if_pos (by omega)]; exact ⟨rfl, rfl⟩) | (rw [if_pos (by omega), if_neg (by omega)]; exact ⟨rfl, rfl⟩) | (rw [if_neg (by omega), if_pos (by omega), if_pos (by omega)]; exact ⟨rfl, rfl⟩) | (rw [if_neg (by omega), if_pos (by omega), if_neg (by omega)]; exact ⟨rfl, rfl⟩) | (rw [if_neg (by omega), if_neg (by omega)]; exact ⟨rfl, rfl⟩) | omega
      · try rw [mI_eq ⟨by omega, by omega⟩ ⟨by omega, by omega⟩] at c14
        refine mu_al_0 B dX12_remove_17 ?_
        refine mu_getI B dX12_remove_18 fX12_172 rfl (by assumption) ?_
        rw [hf]
        refine mu_if_ne (tgt := 37) B dX12_remove_21 (by decide) (fun c21 => ?_) (fun c21 => ?_)
        · try rw [mI_eq0 ⟨by omega, by omega⟩] at c21
          refine mu_il_1 B dX12_remove_37 ?_
          refine mu_iconst (v := mI 1) B dX12_remove_38 rfl ?_
          refine mu_icmp_ne (tgt := 55) B dX12_remove_39 (by decide) (fun c39 => ?_) (fun c39 => ?_)
          · try rw [mI_eq ⟨by omega, by omega⟩ ⟨by omega, by omega⟩] at c39
            refine mu_al_0 B dX12_remove_55 ?_
            refine mu_dup B dX12_remove_56 rfl ?_
            refine mu_getI B dX12_remove_57 fX12_313 rfl (by assumption) ?_
            rw [hg]
            refine mu_iconst (v := mI 1) B dX12_remove_60 rfl ?_
            refine mu_isub B dX12_remove_61 ?_
            try rw [mI_sub]
            refine mu_putI B dX12_remove_62 fX12_313 fwX12_46 rfl (by assumption) ?_
            refine mu_il_1 B dX12_remove_65 ?_
            refine mu_iconst (v := mI 1) B dX12_remove_66 rfl ?_
            refine mu_icmp_ne (tgt := 77) B dX12_remove_67 (by decide) (fun c67 => ?_) (fun c67 => ?_)
            · try rw [mI_eq ⟨by omega, by omega⟩ ⟨by omega, by omega⟩] at c67
              first | (exfalso; omega) | (refine mu_al_0 B dX12_remove_77 ?_; refine mu_getI B dX12_remove_78 fX12_313 rfl (by assumption) ?_; rw [mu_iv_same]; refine mu_iret E rfl (by decide) (by decide) dX12_remove_81 ?_; rw [if_neg (by omega), if_pos (by omega), if_neg (by omega)]; exact ⟨rfl, rfl⟩)
            · try rw [mI_eq ⟨by omega, by omega⟩ ⟨by omega, by omega⟩] at c67
              first | (exfalso; omega) | (refine mu_al_0 B dX12_remove_70 ?_; refine mu_getI B dX12_remove_71 fX12_172 rfl (by assumption) ?_; rw [mu_iv_same]; refine mu_goto (tgt := 81) B dX12_remove_74 (by decide) ?_; refine mu_iret E rfl (by decide) (by decide) dX12_remove_81 ?_; rw [if_pos (by omega), if_neg (by omega)]; exact ⟨rfl, rfl⟩)
          · try rw [mI_eq ⟨by omega, by omega⟩ ⟨by omega, by omega⟩] at c39
            refine mu_al_0 B dX12_remove_42 ?_
            refine mu_dup B dX12_remove_43 rfl ?_
            refine mu_getI B dX12_remove_44 fX12_172 rfl (by assumption) ?_
            rw [hf]
            refine mu_iconst (v := mI 1) B dX12_remove_47 rfl ?_
            refine mu_isub B dX12_remove_48 ?_
            try rw [mI_sub]
            refine mu_putI B dX12_remove_49 fX12_172 fwX12_13 rfl (by assumption) ?_
            refine mu_goto (tgt := 65) B dX12_remove_52 (by decide) ?_
            refine mu_il_1 B dX12_remove_65 ?_
            refine mu_iconst (v := mI 1) B dX12_remove_66 rfl ?_
            refine mu_icmp_ne (tgt := 77) B dX12_remove_67 (by decide) (fun c67 => ?_) (fun c67 => ?_)
            · try rw [mI_eq ⟨by omega, by omega⟩ ⟨by omega, by omega⟩] at c67
              first | (exfalso; omega) | (refine mu_al_0 B dX12_remove_77 ?_; refine mu_getI B dX12_remove_78 fX12_313 rfl (by assumption) ?_; rw [mu_iv_same]; refine mu_iret E rfl (by decide) (by decide) dX12_remove_81 ?_; rw [if_neg (by omega), if_pos (by omega), if_neg (by omega)]; exact ⟨rfl, rfl⟩)
            · try rw [mI_eq ⟨by omega, by omega⟩ ⟨by omega, by omega⟩] at c67
              first | (exfalso; omega) | (refine mu_al_0 B dX12_remove_70 ?_; refine mu_getI B dX12_remove_71 fX12_172 rfl (by assumption) ?_; rw [mu_iv_same]; refine mu_goto (tgt := 81) B dX12_remove_74 (by decide) ?_; refine mu_iret E rfl (by decide) (by decide) dX12_remove_81 ?_; rw [if_pos (by omega), if_neg (by omega)]; exact ⟨rfl, rfl⟩)
        · try rw [mI_eq0 ⟨by omega, by omega⟩] at c21
          refine mu_goto (tgt := 34) B dX12_remove_24 (by decide) ?_
          refine mu_bipush (v := mI (-2)) B dX12_remove_34 (by decide) ?_
          refine mu_iret E rfl (by decide) (by decide) dX12_remove_36 ?_
          first | (rw [if_pos (by omega), if_pos (by omega)]; exact ⟨rfl, rfl⟩) | (rw [if_pos (by omega), if_neg (by omega)]; exact ⟨rfl, rfl⟩) | (rw [if_neg (by omega), if_pos (by omega), if_pos (by omega)]; exact ⟨rfl, rfl⟩) | (rw [if_neg (by omega), if_pos (by omega), if_neg (by omega)]; exact ⟨rfl, rfl⟩) | (rw [if_neg (by omega), if_neg (by omega)]; exact ⟨rfl, rfl⟩) | omega
    · try rw [mI_le ⟨by omega, by omega⟩ ⟨by omega, by omega⟩] at c7
      refine mu_iconst (v := mI (-1)) B dX12_remove_10 rfl ?_
      refine mu_iret E rfl (by decide) (by decide) dX12_remove_11 ?_
      first | (rw [if_pos (by omega), if_pos (by omega)]; exact ⟨rfl, rfl⟩) | (rw [if_pos (by omega), if_neg (by omega)]; exact ⟨rfl, rfl⟩) | (rw [if_neg (by omega), if_pos (by omega), if_pos (by omega)]; exact ⟨rfl, rfl⟩) | (rw [if_neg (by omega), if_pos (by omega), if_neg (by omega)]; exact ⟨rfl, rfl⟩) | (rw [if_neg (by omega), if_neg (by omega)]; exact ⟨rfl, rfl⟩) | omega
