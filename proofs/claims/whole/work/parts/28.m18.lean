/-! ===== the reference: boards of the searches ===== -/
def sm_S (m : Nat) : Nat → Nat → Prop := fun q j => (q = m ∧ (j = 40 ∨ j = 41)) ∨ q = m + 23 ∨ q = m + 24
/-- the pattern p laid as far as row i, column j -/
def sp_lyp (R C p i j : Nat) : Nat → Nat → Nat := fun x y => if (2 ≤ x ∧ x < C + 2 ∧ 2 ≤ y ∧ y < R + 2) ∧ (y < i + 2 ∨ (y = i + 2 ∧ x < j + 2)) then p / 2 ^ ((y - 2) * C + (x - 2)) % 2 else 0
def sp_lay (R C p : Nat) : Nat → Nat → Nat := fun x y => if 2 ≤ x ∧ x < C + 2 ∧ 2 ≤ y ∧ y < R + 2 then p / 2 ^ ((y - 2) * C + (x - 2)) % 2 else 0
theorem sp_lyp_end (R C p : Nat) : sp_lyp R C p R 0 = sp_lay R C p := by
  funext x y
  unfold sp_lyp sp_lay
  by_cases h : 2 ≤ x ∧ x < C + 2 ∧ 2 ≤ y ∧ y < R + 2
  · rw [if_pos ⟨h, by omega⟩, if_pos h]
  · rw [if_neg (fun q => h q.1), if_neg h]
theorem sp_lyp_row (R C p i : Nat) : sp_lyp R C p i C = sp_lyp R C p (i + 1) 0 := by
  funext x y
  unfold sp_lyp
  by_cases h : (2 ≤ x ∧ x < C + 2 ∧ 2 ≤ y ∧ y < R + 2) ∧ (y < i + 2 ∨ (y = i + 2 ∧ x < C + 2))
  · rw [if_pos h, if_pos ⟨h.1, by omega⟩]
  · rw [if_neg h, if_neg (fun q => h ⟨q.1, by omega⟩)]
theorem sp_lyp_0 (R C p : Nat) : sp_lyp R C p 0 0 = fun _ _ => 0 := by
  funext x y
  unfold sp_lyp
  rw [if_neg (by omega)]
theorem sp_lay_le (R C p x y : Nat) : sp_lay R C p x y ≤ 1 := by
  unfold sp_lay
  by_cases h : 2 ≤ x ∧ x < C + 2 ∧ 2 ≤ y ∧ y < R + 2
  · rw [if_pos h]; omega
  · rw [if_neg h]; omega
def SmW (w : mu_W) (m W H : Nat) : Prop := mu_iv w m 40 = mI W ∧ mu_iv w m 41 = mI H
def ly_post (w : mu_W) (m R C p : Nat) (r : Option Value) (w' : mu_W) : Prop := r = none ∧ mu_Fi (sm_S m) w w' ∧ SmW w' m (C + 4) (R + 4) ∧ Bd w' (m + 23) 400 0 (C + 4) (R + 4) (sp_lay R C p)
theorem wh_ix {W H i j : Nat} (hi : i < W) (hj : j < H) : W * j + i < W * H := by
  have h1 : W * (j + 1) ≤ W * H := Nat.mul_le_mul_left W (by omega)
  rw [Nat.mul_add] at h1
  omega

set_option maxHeartbeats 4000000 in
set_option maxRecDepth 100000 in
theorem c_X12_lay (G : mu_G) {w : mu_W} {m : Nat} (hm : mo_ok w m) {R C p : Nat} (hR : R ≤ 16) (hC : C ≤ 16) (hRC : R * C ≤ 16) (hp : p < 2147483648) : mu_Ct G M_X12_lay [.ref m, .int (mI R), .int (mI C), .int (mI p)] w (ly_post w m R C p) := by
  have hk0 := hm.1
  have hWH : (C + 4) * (R + 4) ≤ 400 := Nat.mul_le_mul (show C + 4 ≤ 20 by omega) (show R + 4 ≤ 20 by omega)
  refine mu_ofWA G M_X12_lay [.ref m, .int (mI R), .int (mI C), .int (mI p), mu_no, mu_no] (by decide) rfl (Nat.le_of_ble_eq_true rfl) ?_
  intro X E
  have B : mu_B X G cX12_lay RX12 6 (mu_rm M_X12_lay) := E.1
  have LI : ∀ i (s : mu_W), i ≤ R → (mu_Fi (sm_S m) w s ∧ SmW s m (C + 4) (R + 4) ∧ ∀ x y, x < C + 4 → y < R + 4 → mu_iv s (m + 23) ((C + 4) * y + x) = mI (sp_lyp R C p i 0 x y)) → mu_WA X G 6 (mu_Q X G M_X12_lay (ly_post w m R C p)) s 0 0 48 [.ref m, .int (mI R), .int (mI C), .int (mI p), .int (mI i), mu_no] [] := by
    refine mu_ind (R) (fun i (s : mu_W) => mu_WA X G 6 (mu_Q X G M_X12_lay (ly_post w m R C p)) s 0 0 48 [.ref m, .int (mI R), .int (mI C), .int (mI p), .int (mI i), mu_no] []) (fun i (s : mu_W) => mu_Fi (sm_S m) w s ∧ SmW s m (C + 4) (R + 4) ∧ ∀ x y, x < C + 4 → y < R + 4 → mu_iv s (m + 23) ((C + 4) * y + x) = mI (sp_lyp R C p i 0 x y)) ?_
    rintro i w1 hi ⟨hF, hW, hcl⟩ ihi
    have hm1 := hm.fi hF
    have hk1 := hm1.1
    obtain ⟨r38, k38⟩ := mo_38 hm1
    obtain ⟨h40, h41⟩ := hW
    refine mu_il_4 B dX12_lay_48 ?_
    refine mu_il_1 B dX12_lay_50 ?_
    refine mu_icmp_ge (tgt := 106) B dX12_lay_51 (by decide) (fun c51 => ?_) (fun c51 => ?_)
    · try rw [mI_le ⟨by omega, by omega⟩ ⟨by omega, by omega⟩] at c51
      obtain rfl : R = i := by omega
      refine mu_vret E rfl (by decide) (by decide) dX12_lay_106 ?_
      refine ⟨rfl, hF, ⟨h40, h41⟩, k38, by decide, by omega, fun x y hx hy => ?_, sp_lay_le R C p⟩
      have := hcl x y hx hy
      rw [sp_lyp_end] at this
      rw [Nat.zero_add]
      exact this
    · try rw [mI_le ⟨by omega, by omega⟩ ⟨by omega, by omega⟩] at c51
      have hi9 : i < R := by omega
      refine mu_iconst (v := mI 0) B dX12_lay_54 rfl ?_
      refine mu_is_5 B dX12_lay_55 (by decide) rfl ?_
      have LJ : ∀ j (s : mu_W), j ≤ C → (mu_Fi (sm_S m) w s ∧ SmW s m (C + 4) (R + 4) ∧ ∀ x y, x < C + 4 → y < R + 4 → mu_iv s (m + 23) ((C + 4) * y + x) = mI (sp_lyp R C p i j x y)) → mu_WA X G 6 (mu_Q X G M_X12_lay (ly_post w m R C p)) s 0 0 57 [.ref m, .int (mI R), .int (mI C), .int (mI p), .int (mI i), .int (mI j)] [] := by
        refine mu_ind (C) (fun j (s : mu_W) => mu_WA X G 6 (mu_Q X G M_X12_lay (ly_post w m R C p)) s 0 0 57 [.ref m, .int (mI R), .int (mI C), .int (mI p), .int (mI i), .int (mI j)] []) (fun j (s : mu_W) => mu_Fi (sm_S m) w s ∧ SmW s m (C + 4) (R + 4) ∧ ∀ x y, x < C + 4 → y < R + 4 → mu_iv s (m + 23) ((C + 4) * y + x) = mI (sp_lyp R C p i j x y)) ?_
        rintro j w1 hj ⟨hF, hW, hcl⟩ ihj
        have hm1 := hm.fi hF
        have hk1 := hm1.1
        obtain ⟨r38, k38⟩ := mo_38 hm1
        obtain ⟨h40, h41⟩ := hW
        refine mu_il_5 B dX12_lay_57 ?_
        refine mu_il_2 B dX12_lay_59 ?_
        refine mu_icmp_ge (tgt := 100) B dX12_lay_60 (by decide) (fun c60 => ?_) (fun c60 => ?_)
        · try rw [mI_le ⟨by omega, by omega⟩ ⟨by omega, by omega⟩] at c60
          obtain rfl : C = j := by omega
          refine mu_inc_4 (c := mI 1) B dX12_lay_100 rfl (by decide) rfl ?_
          rw [mI_add]
          refine mu_goto (tgt := 48) B dX12_lay_103 (by decide) ?_
          refine mu_fg (ihi w1 (by omega) ⟨hF, ⟨h40, h41⟩, by rw [← sp_lyp_row]; exact hcl⟩) rfl (by rw [show ((i + 1 : Nat) : Int) = (i : Int) + 1 by omega]; exact ⟨Or.inl rfl, Or.inl rfl, Or.inl rfl, Or.inl rfl, Or.inl rfl, Or.inr rfl, trivial⟩)
        · try rw [mI_le ⟨by omega, by omega⟩ ⟨by omega, by omega⟩] at c60
          have hj9 : j < C := by omega
          have hij : i * C + j < 16 := by have := Nat.mul_le_mul_right C (show i + 1 ≤ R by omega); rw [Nat.add_mul] at this; omega
          have hx9 : (C + 4) * (i + 2) + (j + 2) < 400 := Nat.lt_of_lt_of_le (wh_ix (W := C + 4) (H := R + 4) (by omega) (by omega)) hWH
          refine mu_al_0 B dX12_lay_63 ?_
          refine mu_getR B dX12_lay_64 fX12_80 rfl (by assumption) (by assumption) ?_
          refine mu_al_0 B dX12_lay_67 ?_
          refine mu_getI B dX12_lay_68 fX12_273 rfl (by assumption) ?_
          rw [h40]
          refine mu_il_4 B dX12_lay_71 ?_
          refine mu_iconst (v := mI 2) B dX12_lay_73 rfl ?_
          refine mu_iadd B dX12_lay_74 ?_
          try rw [mI_add]
          try rw [mI_add]
          rw [show (i : Int) + 2 = ((i + 2 : Nat) : Int) by omega]
          refine mu_imul B dX12_lay_75 ?_
          try rw [mI_mul]
          try rw [mI_mul]
          rw [← Int.natCast_mul]
          refine mu_il_5 B dX12_lay_76 ?_
          refine mu_iadd B dX12_lay_78 ?_
          try rw [mI_add]
          refine mu_iconst (v := mI 2) B dX12_lay_79 rfl ?_
          refine mu_iadd B dX12_lay_80 ?_
          try rw [mI_add]
          try rw [mI_add]
          rw [show (((C + 4) * (i + 2) : Nat) : Int) + (j : Int) + 2 = (((C + 4) * (i + 2) + (j + 2) : Nat) : Int) by omega]
          refine mu_il_3 B dX12_lay_81 ?_
          refine mu_il_4 B dX12_lay_82 ?_
          refine mu_il_2 B dX12_lay_84 ?_
          refine mu_imul B dX12_lay_85 ?_
          try rw [mI_mul]
          try rw [mI_mul]
          rw [← Int.natCast_mul]
          refine mu_il_5 B dX12_lay_86 ?_
          refine mu_iadd B dX12_lay_88 ?_
          try rw [mI_add]
          try rw [mI_add]
          rw [← Int.natCast_add]
          refine mu_ishr B dX12_lay_89 ?_
          rw [mI_shr _ ⟨by omega, by omega⟩ _ (by omega)]
          refine mu_iconst (v := mI 1) B dX12_lay_90 rfl ?_
          refine mu_iand B dX12_lay_91 ?_
          rw [mI_and _ (m := mI 1) 1 (by decide) (by decide)]
          rw [show (p : Int) / 2 ^ (i * C + j) % 2 ^ 1 = ((p / 2 ^ (i * C + j) % 2 : Nat) : Int) by rw [Int.natCast_emod, Int.natCast_ediv, Int.natCast_pow]; rfl]
          have hb9 : p / 2 ^ (i * C + j) % 2 ≤ 1 := by omega
          generalize hbe : p / 2 ^ (i * C + j) % 2 = b at hb9 ⊢
          refine mu_i2b B dX12_lay_92 rfl ?_
          rw [m01 hb9]
          refine mu_bast B dX12_lay_93 (by assumption) (mI_inN (by omega) (by decide)) ?_
          rw [mI_clampN (by omega), m01 hb9]
          refine mu_inc_5 (c := mI 1) B dX12_lay_94 rfl (by decide) rfl ?_
          try rw [mI_add]
          refine mu_goto (tgt := 57) B dX12_lay_97 (by decide) ?_
          refine mu_to (ihj _ (by omega) ⟨hF.si (Or.inr (Or.inl rfl)), ⟨(mu_iv_oth _ _ (by omega)).trans h40, (mu_iv_oth _ _ (by omega)).trans h41⟩, fun x y hx hy => ?_⟩) rfl (by rw [show ((j + 1 : Nat) : Int) = (j : Int) + 1 by omega])
          by_cases e9 : x = j + 2 ∧ y = i + 2
          · rw [e9.1, e9.2, mu_iv_same]
            unfold sp_lyp
            rw [if_pos ⟨by omega, by omega⟩, Nat.add_sub_cancel, Nat.add_sub_cancel, hbe]
          · rw [mu_iv_oth _ _ (fun hh => e9 (by have := gs_inj hx (show j + 2 < C + 4 by omega) hh.2; omega)), hcl x y hx hy]
            unfold sp_lyp
            by_cases e8 : (2 ≤ x ∧ x < C + 2 ∧ 2 ≤ y ∧ y < R + 2) ∧ (y < i + 2 ∨ (y = i + 2 ∧ x < j + 2))
            · rw [if_pos e8, if_pos ⟨e8.1, by omega⟩]
            · rw [if_neg e8, if_neg (fun q => e8 ⟨q.1, by omega⟩)]
      exact LJ 0 w1 (Nat.zero_le _) ⟨hF, ⟨h40, h41⟩, hcl⟩
  have LZ : ∀ k (s : mu_W), k ≤ (C + 4) * (R + 4) → (mu_Fi (sm_S m) w s ∧ SmW s m (C + 4) (R + 4) ∧ ∀ j, j < k → mu_iv s (m + 23) j = mI 0) → mu_WA X G 6 (mu_Q X G M_X12_lay (ly_post w m R C p)) s 0 0 17 [.ref m, .int (mI R), .int (mI C), .int (mI p), .int (mI k), mu_no] [] := by
    refine mu_ind ((C + 4) * (R + 4)) (fun k (s : mu_W) => mu_WA X G 6 (mu_Q X G M_X12_lay (ly_post w m R C p)) s 0 0 17 [.ref m, .int (mI R), .int (mI C), .int (mI p), .int (mI k), mu_no] []) (fun k (s : mu_W) => mu_Fi (sm_S m) w s ∧ SmW s m (C + 4) (R + 4) ∧ ∀ j, j < k → mu_iv s (m + 23) j = mI 0) ?_
    rintro k w1 hk ⟨hF, hW, hz0⟩ ih
    have hm1 := hm.fi hF
    have hk1 := hm1.1
    obtain ⟨r38, k38⟩ := mo_38 hm1
    obtain ⟨h40, h41⟩ := hW
    refine mu_il_4 B dX12_lay_17 ?_
    refine mu_al_0 B dX12_lay_19 ?_
    refine mu_getI B dX12_lay_20 fX12_273 rfl (by assumption) ?_
    rw [h40]
    refine mu_al_0 B dX12_lay_23 ?_
    refine mu_getI B dX12_lay_24 fX12_276 rfl (by assumption) ?_
    rw [h41]
    refine mu_imul B dX12_lay_27 ?_
    try rw [mI_mul]
    try rw [mI_mul]
    rw [← Int.natCast_mul]
    refine mu_icmp_ge (tgt := 45) B dX12_lay_28 (by decide) (fun c28 => ?_) (fun c28 => ?_)
    · try rw [mI_le ⟨by omega, by omega⟩ ⟨by omega, by omega⟩] at c28
      obtain rfl : (C + 4) * (R + 4) = k := by omega
      refine mu_iconst (v := mI 0) B dX12_lay_45 rfl ?_
      refine mu_is_4 B dX12_lay_46 (by decide) rfl ?_
      refine LI 0 w1 (Nat.zero_le _) ⟨hF, ⟨h40, h41⟩, fun x y hx hy => ?_⟩
      rw [sp_lyp_0]
      exact hz0 _ (wh_ix hx hy)
    · try rw [mI_le ⟨by omega, by omega⟩ ⟨by omega, by omega⟩] at c28
      refine mu_al_0 B dX12_lay_31 ?_
      refine mu_getR B dX12_lay_32 fX12_80 rfl (by assumption) (by assumption) ?_
      refine mu_il_4 B dX12_lay_35 ?_
      refine mu_iconst (v := mI 0) B dX12_lay_37 rfl ?_
      refine mu_bast B dX12_lay_38 (by assumption) (mI_inN (by omega) (by decide)) ?_
      rw [mI_clampN (by omega)]
      refine mu_inc_4 (c := mI 1) B dX12_lay_39 rfl (by decide) rfl ?_
      try rw [mI_add]
      refine mu_goto (tgt := 17) B dX12_lay_42 (by decide) ?_
      refine mu_fg (ih _ (by omega) ⟨hF.si (Or.inr (Or.inl rfl)), ⟨(mu_iv_oth _ _ (by omega)).trans h40, (mu_iv_oth _ _ (by omega)).trans h41⟩, fun j hj => ?_⟩) rfl (by rw [show ((k + 1 : Nat) : Int) = (k : Int) + 1 by omega]; exact ⟨Or.inl rfl, Or.inl rfl, Or.inl rfl, Or.inl rfl, Or.inl rfl, Or.inr rfl, trivial⟩)
      by_cases e9 : j = k
      · rw [e9, mu_iv_same]; rfl
      · rw [mu_iv_oth _ _ (by omega)]; exact hz0 j (by omega)
  show mu_WA X G 6 _ _ 0 0 0 _ []
  refine mu_al_0 B dX12_lay_0 ?_
  refine mu_il_2 B dX12_lay_1 ?_
  refine mu_iconst (v := mI 4) B dX12_lay_2 rfl ?_
  refine mu_iadd B dX12_lay_3 ?_
  try rw [mI_add]
  refine mu_putI B dX12_lay_4 fX12_273 fwX12_40 rfl (by assumption) ?_
  refine mu_al_0 B dX12_lay_7 ?_
  refine mu_il_1 B dX12_lay_8 ?_
  refine mu_iconst (v := mI 4) B dX12_lay_9 rfl ?_
  refine mu_iadd B dX12_lay_10 ?_
  try rw [mI_add]
  refine mu_putI B dX12_lay_11 fX12_276 fwX12_41 rfl (by assumption) ?_
  refine mu_iconst (v := mI 0) B dX12_lay_14 rfl ?_
  refine mu_is_4 B dX12_lay_15 (by decide) rfl ?_
  refine mu_fg (LZ 0 _ (Nat.zero_le _) ⟨((mu_Fi.refl _).si (Or.inl ⟨rfl, Or.inl rfl⟩)).si (Or.inl ⟨rfl, Or.inr rfl⟩), ⟨(mu_iv_oth _ _ (by omega)).trans ((mu_iv_same _ _ _ _).trans (by congr 1)), (mu_iv_same _ _ _ _).trans (by congr 1)⟩, fun j hj => absurd hj (Nat.not_lt_zero j)⟩) rfl (⟨Or.inl rfl, Or.inl rfl, Or.inl rfl, Or.inl rfl, Or.inl rfl, Or.inr rfl, trivial⟩)

def sp_ss (W H nb bo st : Nat) (c : Nat → Nat → Nat) : Nat → Nat → Nat := fun x y => if x < W ∧ y < H then sp_af W H c nb bo st x y else 0
theorem sp_ss_le {W H nb bo st : Nat} {c : Nat → Nat → Nat} (x y : Nat) : sp_ss W H nb bo st c x y ≤ 1 := by
  unfold sp_ss
  by_cases h : x < W ∧ y < H
  · rw [if_pos h]; exact sp_af_le
  · rw [if_neg h]; omega
def ss_post (w : mu_W) (m W H : Nat) (c : Nat → Nat → Nat) (r : Option Value) (w' : mu_W) : Prop := r = none ∧ mu_Fi (sm_S m) w w' ∧ SmW w' m W H ∧ Bd w' (m + 23) 400 0 W H c
theorem sm_ru {w w' : mu_W} {m nr : Nat} {rs : Nat → mu_RS} (h : MRu w m nr rs) (hF : mu_Fi (sm_S m) w w') : MRu w' m nr rs := h.eqs (hF.2.2.2 _ _ (by unfold sm_S; omega)).1 (fun a r h1 h2 _ => (hF.2.2.2 _ _ (by unfold sm_S; omega)).1) (fun j _ => (hF.2.2.2 _ _ (by unfold sm_S; omega)).1) (fun j _ => (hF.2.2.2 _ _ (by unfold sm_S; omega)).1)

set_option maxHeartbeats 4000000 in
set_option maxRecDepth 100000 in
theorem c_X12_smallStep (G : mu_G) {w : mu_W} {m : Nat} (hm : mo_ok w m) {nr : Nat} {rs : Nat → mu_RS} (hru : MRu w m nr rs) {k : Nat} (hk : k < nr) (hq : rs_nb (rs k) ≠ 0) {W H : Nat} (hW : SmW w m W H) {c : Nat → Nat → Nat} (hB : Bd w (m + 23) 400 0 W H c) (hWH0 : 0 < W ∧ 0 < H) : mu_Ct G M_X12_smallStep [.ref m, .int (mI k)] w (ss_post w m W H (sp_ss W H (rs_nb (rs k)) (rs_bo (rs k)) (rs_st (rs k)) c)) := by
  have hk0 := hm.1
  have hWH : W * H ≤ 400 := by have := hB.2.2.1; omega
  have hW9 : W ≤ 400 := Nat.le_trans (Nat.le_mul_of_pos_right W hWH0.2) hWH
  have hH9 : H ≤ 400 := Nat.le_trans (Nat.le_mul_of_pos_left H hWH0.1) hWH
  refine mu_ofWA G M_X12_smallStep [.ref m, .int (mI k), mu_no, mu_no] (by decide) rfl (Nat.le_of_ble_eq_true rfl) ?_
  intro X E
  have B : mu_B X G cX12_smallStep RX12 4 (mu_rm M_X12_smallStep) := E.1
  show mu_WA X G 4 _ _ 0 0 0 _ []
  refine mu_iconst (v := mI 0) B dX12_smallStep_0 rfl ?_
  refine mu_is_2 B dX12_smallStep_1 (by decide) rfl ?_
  have LC : ∀ q (s : mu_W), q ≤ W * H → ((mu_iv s m 40 = mI W ∧ mu_iv s m 41 = mI H) ∧ mu_Fi (sm_S m) w s ∧ (∀ j, j < W * H → mu_iv s (m + 24) j = mI (sp_af W H c (rs_nb (rs k)) (rs_bo (rs k)) (rs_st (rs k)) ((j % W : Nat) : Int) ((j / W : Nat) : Int))) ∧ ∀ j, j < q → mu_iv s (m + 23) j = mI (sp_af W H c (rs_nb (rs k)) (rs_bo (rs k)) (rs_st (rs k)) ((j % W : Nat) : Int) ((j / W : Nat) : Int))) → mu_WA X G 4 (mu_Q X G M_X12_smallStep (ss_post w m W H (sp_ss W H (rs_nb (rs k)) (rs_bo (rs k)) (rs_st (rs k)) c))) s 0 0 68 [.ref m, .int (mI k), .int (mI q), mu_no] [] := by
    refine mu_ind (W * H) (fun q (s : mu_W) => mu_WA X G 4 (mu_Q X G M_X12_smallStep (ss_post w m W H (sp_ss W H (rs_nb (rs k)) (rs_bo (rs k)) (rs_st (rs k)) c))) s 0 0 68 [.ref m, .int (mI k), .int (mI q), mu_no] []) (fun q (s : mu_W) => (mu_iv s m 40 = mI W ∧ mu_iv s m 41 = mI H) ∧ mu_Fi (sm_S m) w s ∧ (∀ j, j < W * H → mu_iv s (m + 24) j = mI (sp_af W H c (rs_nb (rs k)) (rs_bo (rs k)) (rs_st (rs k)) ((j % W : Nat) : Int) ((j / W : Nat) : Int))) ∧ ∀ j, j < q → mu_iv s (m + 23) j = mI (sp_af W H c (rs_nb (rs k)) (rs_bo (rs k)) (rs_st (rs k)) ((j % W : Nat) : Int) ((j / W : Nat) : Int))) ?_
    rintro q w1 hq9 ⟨⟨h40, h41⟩, hF, h24, hcp⟩ ihq
    have hm1 := hm.fi hF
    have hk1 := hm1.1
    obtain ⟨r38, k38⟩ := mo_38 hm1
    obtain ⟨r39, k39⟩ := mo_39 hm1
    refine mu_il_2 B dX12_smallStep_68 ?_
    refine mu_al_0 B dX12_smallStep_69 ?_
    refine mu_getI B dX12_smallStep_70 fX12_273 rfl (by assumption) ?_
    rw [h40]
    refine mu_al_0 B dX12_smallStep_73 ?_
    refine mu_getI B dX12_smallStep_74 fX12_276 rfl (by assumption) ?_
    rw [h41]
    refine mu_imul B dX12_smallStep_77 ?_
    try rw [mI_mul]
    try rw [mI_mul]
    rw [← Int.natCast_mul]
    refine mu_icmp_ge (tgt := 99) B dX12_smallStep_78 (by decide) (fun c78 => ?_) (fun c78 => ?_)
    · try rw [mI_le ⟨by omega, by omega⟩ ⟨by omega, by omega⟩] at c78
      obtain rfl : W * H = q := by omega
      refine mu_vret E rfl (by decide) (by decide) dX12_smallStep_99 ?_
      refine ⟨rfl, hF, ⟨h40, h41⟩, k38, by decide, by omega, fun x y hx hy => ?_, sp_ss_le⟩
      have e1 := hcp (W * y + x) (wh_ix hx hy)
      rw [Nat.mul_add_mod, Nat.mod_eq_of_lt hx, Nat.mul_add_div (by omega), Nat.div_eq_of_lt hx, Nat.add_zero] at e1
      rw [Nat.zero_add, e1]
      unfold sp_ss
      rw [if_pos ⟨hx, hy⟩]
      rfl
    · try rw [mI_le ⟨by omega, by omega⟩ ⟨by omega, by omega⟩] at c78
      refine mu_al_0 B dX12_smallStep_81 ?_
      refine mu_getR B dX12_smallStep_82 fX12_80 rfl (by assumption) (by assumption) ?_
      refine mu_il_2 B dX12_smallStep_85 ?_
      refine mu_al_0 B dX12_smallStep_86 ?_
      refine mu_getR B dX12_smallStep_87 fX12_83 rfl (by assumption) (by assumption) ?_
      refine mu_il_2 B dX12_smallStep_90 ?_
      refine mu_bald B dX12_smallStep_91 (by assumption) (mI_inN (by omega) (by decide)) ?_
      rw [mI_clampN (by omega), h24 q (by omega)]
      have ha9 : sp_af W H c (rs_nb (rs k)) (rs_bo (rs k)) (rs_st (rs k)) ((q % W : Nat) : Int) ((q / W : Nat) : Int) ≤ 1 := sp_af_le
      generalize hae : sp_af W H c (rs_nb (rs k)) (rs_bo (rs k)) (rs_st (rs k)) ((q % W : Nat) : Int) ((q / W : Nat) : Int) = v at ha9 ⊢
      refine mu_bast B dX12_smallStep_92 (by assumption) (mI_inN (by omega) (by decide)) ?_
      rw [mI_clampN (by omega), m01 ha9]
      refine mu_inc_2 (c := mI 1) B dX12_smallStep_93 rfl (by decide) rfl ?_
      try rw [mI_add]
      refine mu_goto (tgt := 68) B dX12_smallStep_96 (by decide) ?_
      refine mu_fg (ihq _ (by omega) ⟨⟨(mu_iv_oth _ _ (by omega)).trans h40, (mu_iv_oth _ _ (by omega)).trans h41⟩, hF.si (Or.inr (Or.inl rfl)), fun j hj => (mu_iv_oth _ _ (by omega)).trans (h24 j hj), fun j hj => ?_⟩) rfl (by rw [show ((q + 1 : Nat) : Int) = (q : Int) + 1 by omega]; exact ⟨Or.inl rfl, Or.inl rfl, Or.inl rfl, Or.inr rfl, trivial⟩)
      by_cases e9 : j = q
      · rw [e9, mu_iv_same, hae]
      · rw [mu_iv_oth _ _ (by omega)]; exact hcp j (by omega)
  have LY : ∀ y (s : mu_W), y ≤ H → (mu_Fi (fun q _ => q = m + 24) w s ∧ ∀ i j, i < W → (j < y ∨ (j = y ∧ i < 0)) → mu_iv s (m + 24) (W * j + i) = mI (sp_af W H c (rs_nb (rs k)) (rs_bo (rs k)) (rs_st (rs k)) i j)) → mu_WA X G 4 (mu_Q X G M_X12_smallStep (ss_post w m W H (sp_ss W H (rs_nb (rs k)) (rs_bo (rs k)) (rs_st (rs k)) c))) s 0 0 2 [.ref m, .int (mI k), .int (mI y), mu_no] [] := by
    refine mu_ind (H) (fun y (s : mu_W) => mu_WA X G 4 (mu_Q X G M_X12_smallStep (ss_post w m W H (sp_ss W H (rs_nb (rs k)) (rs_bo (rs k)) (rs_st (rs k)) c))) s 0 0 2 [.ref m, .int (mI k), .int (mI y), mu_no] []) (fun y (s : mu_W) => mu_Fi (fun q _ => q = m + 24) w s ∧ ∀ i j, i < W → (j < y ∨ (j = y ∧ i < 0)) → mu_iv s (m + 24) (W * j + i) = mI (sp_af W H c (rs_nb (rs k)) (rs_bo (rs k)) (rs_st (rs k)) i j)) ?_
    rintro y w1 hy ⟨hF, hcl⟩ ihy
    have hm1 := hm.fi hF
    have hk1 := hm1.1
    obtain ⟨r38, k38⟩ := mo_38 hm1
    obtain ⟨r39, k39⟩ := mo_39 hm1
    have h40 := hF.iv (by omega) hW.1
    have h41 := hF.iv (by omega) hW.2
    refine mu_il_2 B dX12_smallStep_2 ?_
    refine mu_al_0 B dX12_smallStep_3 ?_
    refine mu_getI B dX12_smallStep_4 fX12_276 rfl (by assumption) ?_
    rw [h41]
    refine mu_icmp_ge (tgt := 66) B dX12_smallStep_7 (by decide) (fun c7 => ?_) (fun c7 => ?_)
    · try rw [mI_le ⟨by omega, by omega⟩ ⟨by omega, by omega⟩] at c7
      obtain rfl : H = y := by omega
      refine mu_iconst (v := mI 0) B dX12_smallStep_66 rfl ?_
      refine mu_is_2 B dX12_smallStep_67 (by decide) rfl ?_
      refine mu_fg (LC 0 w1 (Nat.zero_le _) ⟨⟨h40, h41⟩, hF.mono (fun q j hh => Or.inr (Or.inr hh)), fun j hj => ?_, fun j hj => absurd hj (Nat.not_lt_zero j)⟩) rfl (⟨Or.inl rfl, Or.inl rfl, Or.inl rfl, Or.inr rfl, trivial⟩)
      obtain ⟨e1, e2, e3⟩ := gs_kk (R := H) (C := W) (k := j) (by rw [Nat.mul_comm]; exact hj)
      have := hcl (j % W) (j / W) e2 (by omega)
      rw [e3] at this
      exact this
    · try rw [mI_le ⟨by omega, by omega⟩ ⟨by omega, by omega⟩] at c7
      have hy9 : y < H := by omega
      refine mu_iconst (v := mI 0) B dX12_smallStep_10 rfl ?_
      refine mu_is_3 B dX12_smallStep_11 (by decide) rfl ?_
      have LX : ∀ x (s : mu_W), x ≤ W → (mu_Fi (fun q _ => q = m + 24) w s ∧ ∀ i j, i < W → (j < y ∨ (j = y ∧ i < x)) → mu_iv s (m + 24) (W * j + i) = mI (sp_af W H c (rs_nb (rs k)) (rs_bo (rs k)) (rs_st (rs k)) i j)) → mu_WA X G 4 (mu_Q X G M_X12_smallStep (ss_post w m W H (sp_ss W H (rs_nb (rs k)) (rs_bo (rs k)) (rs_st (rs k)) c))) s 0 0 12 [.ref m, .int (mI k), .int (mI y), .int (mI x)] [] := by
        refine mu_ind (W) (fun x (s : mu_W) => mu_WA X G 4 (mu_Q X G M_X12_smallStep (ss_post w m W H (sp_ss W H (rs_nb (rs k)) (rs_bo (rs k)) (rs_st (rs k)) c))) s 0 0 12 [.ref m, .int (mI k), .int (mI y), .int (mI x)] []) (fun x (s : mu_W) => mu_Fi (fun q _ => q = m + 24) w s ∧ ∀ i j, i < W → (j < y ∨ (j = y ∧ i < x)) → mu_iv s (m + 24) (W * j + i) = mI (sp_af W H c (rs_nb (rs k)) (rs_bo (rs k)) (rs_st (rs k)) i j)) ?_
        rintro x w1 hx ⟨hF, hcl⟩ ihx
        have hm1 := hm.fi hF
        have hk1 := hm1.1
        obtain ⟨r38, k38⟩ := mo_38 hm1
        obtain ⟨r39, k39⟩ := mo_39 hm1
        have h40 := hF.iv (by omega) hW.1
        have h41 := hF.iv (by omega) hW.2
        have hB1 := hB.fi hF (fun j => by omega)
        have hru1 := sm_ru hru (hF.mono (fun q j hh => Or.inr (Or.inr hh)))
        refine mu_il_3 B dX12_smallStep_12 ?_
        refine mu_al_0 B dX12_smallStep_13 ?_
        refine mu_getI B dX12_smallStep_14 fX12_273 rfl (by assumption) ?_
        rw [h40]
        refine mu_icmp_ge (tgt := 60) B dX12_smallStep_17 (by decide) (fun c17 => ?_) (fun c17 => ?_)
        · try rw [mI_le ⟨by omega, by omega⟩ ⟨by omega, by omega⟩] at c17
          obtain rfl : W = x := by omega
          refine mu_inc_2 (c := mI 1) B dX12_smallStep_60 rfl (by decide) rfl ?_
          rw [mI_add]
          refine mu_goto (tgt := 2) B dX12_smallStep_63 (by decide) ?_
          refine mu_fg (ihy w1 (by omega) ⟨hF, fun i j hi hj => hcl i j hi (by omega)⟩) rfl (by rw [show ((y + 1 : Nat) : Int) = (y : Int) + 1 by omega]; exact ⟨Or.inl rfl, Or.inl rfl, Or.inl rfl, Or.inr rfl, trivial⟩)
        · try rw [mI_le ⟨by omega, by omega⟩ ⟨by omega, by omega⟩] at c17
          have hx9 : W * y + x < W * H := wh_ix (by omega) (by omega)
          refine mu_al_0 B dX12_smallStep_20 ?_
          refine mu_getR B dX12_smallStep_21 fX12_83 rfl (by assumption) (by assumption) ?_
          refine mu_al_0 B dX12_smallStep_24 ?_
          refine mu_getI B dX12_smallStep_25 fX12_273 rfl (by assumption) ?_
          rw [h40]
          refine mu_il_2 B dX12_smallStep_28 ?_
          refine mu_imul B dX12_smallStep_29 ?_
          try rw [mI_mul]
          try rw [mI_mul]
          rw [← Int.natCast_mul]
          refine mu_il_3 B dX12_smallStep_30 ?_
          refine mu_iadd B dX12_smallStep_31 ?_
          try rw [mI_add]
          try rw [mI_add]
          rw [← Int.natCast_add]
          refine mu_al_0 B dX12_smallStep_32 ?_
          refine mu_il_1 B dX12_smallStep_33 ?_
          refine mu_al_0 B dX12_smallStep_34 ?_
          refine mu_getR B dX12_smallStep_35 fX12_80 rfl (by assumption) (by assumption) ?_
          refine mu_iconst (v := mI 0) B dX12_smallStep_38 rfl ?_
          refine mu_al_0 B dX12_smallStep_39 ?_
          refine mu_getI B dX12_smallStep_40 fX12_273 rfl (by assumption) ?_
          rw [h40]
          refine mu_al_0 B dX12_smallStep_43 ?_
          refine mu_getI B dX12_smallStep_44 fX12_276 rfl (by assumption) ?_
          rw [h41]
          refine mu_il_3 B dX12_smallStep_47 ?_
          refine mu_il_2 B dX12_smallStep_48 ?_
          refine mu_eV7 B dX12_smallStep_49 mX12_208 ⟨⟨by decide, by decide⟩, by decide, by decide⟩ (Nat.le_of_ble_eq_true rfl) (by assumption) (c_X12_after G hm1 hru1 hk hq (fr := 0) (W := W) (H := H) hB1 (by omega) (by omega) (x := (x : Int)) (y := (y : Int)) (by omega) (by omega)) ?_
          have ha9 : sp_af W H c (rs_nb (rs k)) (rs_bo (rs k)) (rs_st (rs k)) (x : Int) (y : Int) ≤ 1 := sp_af_le
          generalize hae : sp_af W H c (rs_nb (rs k)) (rs_bo (rs k)) (rs_st (rs k)) (x : Int) (y : Int) = v at ha9 ⊢
          refine mu_i2b B dX12_smallStep_52 rfl ?_
          rw [m01 ha9]
          refine mu_bast B dX12_smallStep_53 (by assumption) (mI_inN (by omega) (by decide)) ?_
          rw [mI_clampN (by omega), m01 ha9]
          refine mu_inc_3 (c := mI 1) B dX12_smallStep_54 rfl (by decide) rfl ?_
          try rw [mI_add]
          refine mu_goto (tgt := 12) B dX12_smallStep_57 (by decide) ?_
          refine mu_to (ihx _ (by omega) ⟨hF.si rfl, fun i j hi hj => ?_⟩) rfl (by rw [show ((x + 1 : Nat) : Int) = (x : Int) + 1 by omega])
          by_cases e9 : i = x ∧ j = y
          · rw [e9.1, e9.2, mu_iv_same, hae]
          · rw [mu_iv_oth _ _ (fun hh => e9 (by have := gs_inj hi (show x < W by omega) hh.2; omega))]; exact hcl i j hi (by omega)
      exact LX 0 w1 (Nat.zero_le _) ⟨hF, fun i j hi hj => hcl i j hi (by omega)⟩
  refine mu_fg (LY 0 w (Nat.zero_le _) ⟨mu_Fi.refl _, fun i j hi hj => absurd hj (by omega)⟩) rfl (⟨Or.inl rfl, Or.inl rfl, Or.inl rfl, Or.inr rfl, trivial⟩)
