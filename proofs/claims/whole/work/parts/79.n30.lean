/-! ===== the class's grids: forward and back ===== -/
def gS (a : Nat) : Nat → Nat → Prop := fun q j => (q = a ∧ j = 5) ∨ q = a + 1
theorem rv_v1 {r : mu_RS} (h : sp_rev (rs_N r) (rs_be r)) : rv_v r = mI 1 := by unfold rv_v; rw [if_pos h]
theorem rv_v0 {r : mu_RS} (h : ¬ sp_rev (rs_N r) (rs_be r)) : rv_v r = mI 0 := by unfold rv_v; rw [if_neg h]
/-- a grid of the class: the object at a, its rule at rr -/
def CGx (w : mu_W) (a rr S R C n : Nat) (c : Nat → Nat → Nat) : Prop := CGo w a ∧ mu_rv w a 1 = some rr ∧ CGf w a S R C n ∧ CGc w a R C c
def gfw_post (w : mu_W) (a S R C n m : Nat) (c : Nat → Nat → Nat) (r : Option Value) (w' : mu_W) : Prop := r = some (.int (mI m)) ∧ mu_Fi (gS a) w w' ∧ CGf w' a S R C m ∧ CGc w' a R C c

set_option maxHeartbeats 4000000 in
set_option maxRecDepth 100000 in
theorem c_X3_forward (G : mu_G) {w : mu_W} {a : Nat} (ho : CGo w a) {S R C n : Nat} (hf : CGf w a S R C n) (hS : 2 ≤ S ∧ S ≤ 4) (hR : gs_sd R) (hC : gs_sd C) {c : Nat → Nat → Nat} (hb : CGc w a R C c) (hc : ∀ i j, c i j < S) {rr : Nat} {ru : mu_RS} (hru : CRu w rr ru) (hrr : mu_rv w a 1 = some rr) (hrS : rs_S ru = S) (hr0 : rs_nb ru = 0) (hap2 : rr + 2 ≠ a + 1) {m : Nat} (hm : m ≤ 1000) (hn : n ≤ 1000000) : mu_Ct G M_X3_forward [.ref a, .int (mI m)] w (gfw_post w a S R C n (n + m) (sp_fw (rs_be ru) S R C n c m)) := by
  obtain ⟨ka, r0, k1⟩ := id ho
  obtain ⟨R1, R2, R3⟩ := id hR
  obtain ⟨C1, C2, C3⟩ := id hC
  obtain ⟨ur, _, _, u5, k5, u6, k6, _, _, ⟨uok, u1, u2, u3, u4, _⟩, _, ube, urv, _⟩ := id hru
  have hbd := rs_S_bd uok hr0
  rw [hrS] at hbd
  have hNN : rs_N ru = S * S * S * S := by unfold rs_N; rw [hrS]
  have h256 := (s4_le hS).2
  have nr : ∀ q, rr ≤ q → mu_kd w q ≠ some (3, 0) → q ≠ a := fun q _ hq e => hq (by rw [e]; exact ka)
  have ne2 : rr + 2 ≠ a := fun e => by rw [e, ka] at k5; simp at k5
  have ne3 : rr + 3 ≠ a := fun e => by rw [e, ka] at k6; simp at k6
  have hn2 : rr + 2 ≠ a + 1 := hap2
  refine mu_ofWA G M_X3_forward [.ref a, .int (mI m), mu_no] (by decide) rfl (Nat.le_of_ble_eq_true rfl) ?_
  intro X E
  have B : mu_B X G cX3_forward RX3 3 (mu_rm M_X3_forward) := E.1
  have LF : ∀ k (s : mu_W), k ≤ m → (mu_Fi (gS a) w s ∧ CGf s a S R C (n + k) ∧ CGc s a R C (sp_fw (rs_be ru) S R C n c k)) → mu_WA X G 3 (mu_Q X G M_X3_forward (gfw_post w a S R C n (n + m) (sp_fw (rs_be ru) S R C n c m))) s 0 0 2 [.ref a, .int (mI m), .int (mI k)] [] := by
    refine mu_ind (m) (fun k (s : mu_W) => mu_WA X G 3 (mu_Q X G M_X3_forward (gfw_post w a S R C n (n + m) (sp_fw (rs_be ru) S R C n c m))) s 0 0 2 [.ref a, .int (mI m), .int (mI k)] []) (fun k (s : mu_W) => mu_Fi (gS a) w s ∧ CGf s a S R C (n + k) ∧ CGc s a R C (sp_fw (rs_be ru) S R C n c k)) ?_
    intro k s hk ⟨hFs, hfs, hbs⟩ ih
    have kas := hFs.kd ka
    refine mu_il_2 B dX3_forward_2 ?_
    refine mu_il_1 B dX3_forward_3 ?_
    refine mu_icmp_ge (tgt := 47) B dX3_forward_4 (by decide) (fun c4 => ?_) (fun c4 => ?_)
    · try rw [mI_le ⟨by omega, by omega⟩ ⟨by omega, by omega⟩] at c4
      try rw [mI_le ⟨by omega, by omega⟩ ⟨by omega, by omega⟩] at c4
      obtain rfl : m = k := by omega
      refine mu_al_0 B dX3_forward_47 ?_
      refine mu_getI B dX3_forward_48 fX3_31 rfl kas ?_
      rw [hfs.2.2.2]
      refine mu_iret E rfl (by decide) (by decide) dX3_forward_51 ?_
      exact ⟨rfl, hFs, hfs, hbs⟩
    · try rw [mI_le ⟨by omega, by omega⟩ ⟨by omega, by omega⟩] at c4
      refine mu_al_0 B dX3_forward_7 ?_
      refine mu_getR B dX3_forward_8 fX3_13 rfl kas (hFs.rv hrr) ?_
      refine mu_ifnull B dX3_forward_11 ?_
      refine mu_al_0 B dX3_forward_14 ?_
      refine mu_al_0 B dX3_forward_15 ?_
      refine mu_getR B dX3_forward_16 fX3_13 rfl kas (hFs.rv hrr) ?_
      refine mu_getRN B dX3_forward_19 fX3_54 rfl (hFs.kd ur) (hFs.rv u5) ?_
      refine mu_al_0 B dX3_forward_22 ?_
      refine mu_getI B dX3_forward_23 fX3_31 rfl kas ?_
      rw [hfs.2.2.2]
      refine mu_iconst (v := mI 1) B dX3_forward_26 rfl ?_
      refine mu_iand B dX3_forward_27 ?_
      rw [mI_and _ (m := mI 1) 1 (by decide) (by decide)]
      rw [show ((n + k : Nat) : Int) % 2 ^ 1 = (((n + k) % 2 : Nat) : Int) by omega]
      refine mu_cV2 B dX3_forward_28 mX3_57 ⟨⟨by decide, by decide⟩, by decide, by decide⟩ (Nat.le_of_ble_eq_true rfl) kas (c_X3_turnBlocks G (ho.fi hFs) hfs hS hR hC hbs (sp_fw_lt (by omega) hc k) (tt := rr + 2) (TN := rs_N ru) (hFs.kd k5) hn2 (by omega) (by omega) (tab := rs_be ru) (fun b hb9 => hFs.iv (fun q9 => by rcases q9 with q9 | q9; exact ne2 q9.1; exact hn2 q9) (ube b (by omega))) hbd.2.2 (off := (n + k) % 2) (by omega)) (fun r28 w28 q28 => ?_)
      obtain ⟨rfl, hF4, hb4⟩ := q28
      have hf4 := hfs.fi hF4 (fun j _ _ hh => by omega)
      refine mu_al_0 B dX3_forward_31 ?_
      refine mu_dup B dX3_forward_32 rfl ?_
      refine mu_getI B dX3_forward_33 fX3_31 rfl (hF4.kd kas) ?_
      rw [hf4.2.2.2]
      refine mu_iconst (v := mI 1) B dX3_forward_36 rfl ?_
      refine mu_iadd B dX3_forward_37 ?_
      try rw [mI_add]
      try rw [mI_add]
      rw [show ((n + k : Nat) : Int) + 1 = ((n + (k + 1) : Nat) : Int) by omega]
      refine mu_putI B dX3_forward_38 fX3_31 fwX3_5 rfl (hF4.kd kas) ?_
      refine mu_inc_2 (c := mI 1) B dX3_forward_41 rfl (by decide) rfl ?_
      try rw [mI_add]
      refine mu_goto (tgt := 2) B dX3_forward_44 (by decide) ?_
      refine mu_to (ih _ (by omega) ⟨(hFs.trans (hF4.mono (fun q j hh => Or.inr hh))).si (Or.inl ⟨rfl, rfl⟩), ⟨?_, ?_, ?_, mu_iv_same _ _ _ _⟩, ?_⟩) rfl (by rw [show ((k + 1 : Nat) : Int) = (k : Int) + 1 by omega])
      · rw [mu_iv_oth _ _ (by omega)]; exact hf4.1
      · rw [mu_iv_oth _ _ (by omega)]; exact hf4.2.1
      · rw [mu_iv_oth _ _ (by omega)]; exact hf4.2.2.1
      · exact hb4.fi (S := fun q j => q = a) ((mu_Fi.refl _).si rfl) (fun j hh => by omega)
  show mu_WA X G 3 _ _ 0 0 0 _ []
  refine mu_iconst (v := mI 0) B dX3_forward_0 rfl ?_
  refine mu_is_2 B dX3_forward_1 (by decide) rfl ?_
  exact LF 0 w (Nat.zero_le _) ⟨mu_Fi.refl _, hf, hb⟩

set_option maxHeartbeats 4000000 in
set_option maxRecDepth 100000 in
theorem c_X3_back (G : mu_G) {w : mu_W} {a : Nat} (ho : CGo w a) {S R C n : Nat} (hf : CGf w a S R C n) (hS : 2 ≤ S ∧ S ≤ 4) (hR : gs_sd R) (hC : gs_sd C) {c : Nat → Nat → Nat} (hb : CGc w a R C c) (hc : ∀ i j, c i j < S) {rr : Nat} {ru : mu_RS} (hru : CRu w rr ru) (hrr : mu_rv w a 1 = some rr) (hrS : rs_S ru = S) (hr0 : rs_nb ru = 0) (hap3 : rr + 3 ≠ a + 1) (hrev : sp_rev (rs_N ru) (rs_be ru)) {m : Nat} (hm : m ≤ n) (hn : n ≤ 1000000) : mu_Ct G M_X3_back [.ref a, .int (mI m)] w (gfw_post w a S R C n (n - m) (sp_bw (sp_inv (rs_be ru) (rs_N ru)) S R C n c m)) := by
  obtain ⟨ka, r0, k1⟩ := id ho
  obtain ⟨R1, R2, R3⟩ := id hR
  obtain ⟨C1, C2, C3⟩ := id hC
  obtain ⟨ur, _, _, u5, k5, u6, k6, _, _, ⟨uok, u1, u2, u3, u4, _⟩, _, ube, urv, _⟩ := id hru
  have hbd := rs_S_bd uok hr0
  rw [hrS] at hbd
  have hNN : rs_N ru = S * S * S * S := by unfold rs_N; rw [hrS]
  have h256 := (s4_le hS).2
  have nr : ∀ q, rr ≤ q → mu_kd w q ≠ some (3, 0) → q ≠ a := fun q _ hq e => hq (by rw [e]; exact ka)
  have ne2 : rr + 2 ≠ a := fun e => by rw [e, ka] at k5; simp at k5
  have ne3 : rr + 3 ≠ a := fun e => by rw [e, ka] at k6; simp at k6
  have hn3 : rr + 3 ≠ a + 1 := hap3
  have hio : ∀ b, b < rs_N ru → mu_iv w (rr + 3) b = mI (sp_inv (rs_be ru) (rs_N ru) b) := by
    rcases urv with ⟨_, _, h9⟩ | ⟨lo, hi, ⟨h1, h2, h3, _⟩, _⟩
    · exact h9
    · exact absurd h3 (hrev lo hi h1 h2)
  have hil : ∀ b, b < S * S * S * S → sp_inv (rs_be ru) (rs_N ru) b < S * S * S * S := fun b hb9 => by
    have h8 := (sp_inv_at hrev (fun k hk => by rw [hNN] at hk ⊢; exact hbd.2.2 k hk) (b := b) (by omega)).1
    omega
  refine mu_ofWA G M_X3_back [.ref a, .int (mI m), mu_no] (by decide) rfl (Nat.le_of_ble_eq_true rfl) ?_
  intro X E
  have B : mu_B X G cX3_back RX3 3 (mu_rm M_X3_back) := E.1
  have LB : ∀ k (s : mu_W), k ≤ m → (mu_Fi (gS a) w s ∧ CGf s a S R C (n - k) ∧ CGc s a R C (sp_bw (sp_inv (rs_be ru) (rs_N ru)) S R C n c k)) → mu_WA X G 3 (mu_Q X G M_X3_back (gfw_post w a S R C n (n - m) (sp_bw (sp_inv (rs_be ru) (rs_N ru)) S R C n c m))) s 0 0 2 [.ref a, .int (mI m), .int (mI k)] [] := by
    refine mu_ind (m) (fun k (s : mu_W) => mu_WA X G 3 (mu_Q X G M_X3_back (gfw_post w a S R C n (n - m) (sp_bw (sp_inv (rs_be ru) (rs_N ru)) S R C n c m))) s 0 0 2 [.ref a, .int (mI m), .int (mI k)] []) (fun k (s : mu_W) => mu_Fi (gS a) w s ∧ CGf s a S R C (n - k) ∧ CGc s a R C (sp_bw (sp_inv (rs_be ru) (rs_N ru)) S R C n c k)) ?_
    intro k s hk ⟨hFs, hfs, hbs⟩ ih
    have kas := hFs.kd ka
    refine mu_il_2 B dX3_back_2 ?_
    refine mu_il_1 B dX3_back_3 ?_
    refine mu_icmp_ge (tgt := 47) B dX3_back_4 (by decide) (fun c4 => ?_) (fun c4 => ?_)
    · try rw [mI_le ⟨by omega, by omega⟩ ⟨by omega, by omega⟩] at c4
      try rw [mI_le ⟨by omega, by omega⟩ ⟨by omega, by omega⟩] at c4
      obtain rfl : m = k := by omega
      refine mu_al_0 B dX3_back_47 ?_
      refine mu_getI B dX3_back_48 fX3_31 rfl kas ?_
      rw [hfs.2.2.2]
      refine mu_iret E rfl (by decide) (by decide) dX3_back_51 ?_
      exact ⟨rfl, hFs, hfs, hbs⟩
    · try rw [mI_le ⟨by omega, by omega⟩ ⟨by omega, by omega⟩] at c4
      refine mu_al_0 B dX3_back_7 ?_
      refine mu_getR B dX3_back_8 fX3_13 rfl kas (hFs.rv hrr) ?_
      refine mu_ifnull B dX3_back_11 ?_
      refine mu_al_0 B dX3_back_14 ?_
      refine mu_dup B dX3_back_15 rfl ?_
      refine mu_getI B dX3_back_16 fX3_31 rfl kas ?_
      rw [hfs.2.2.2]
      refine mu_iconst (v := mI 1) B dX3_back_19 rfl ?_
      refine mu_isub B dX3_back_20 ?_
      try rw [mI_sub]
      try rw [mI_sub]
      rw [show ((n - k : Nat) : Int) - 1 = ((n - (k + 1) : Nat) : Int) by omega]
      refine mu_putI B dX3_back_21 fX3_31 fwX3_5 rfl kas ?_
      have hF3 : mu_Fi (gS a) w (mu_si s a 5 (mI ((n - (k + 1) : Nat) : Int))) := hFs.si (Or.inl ⟨rfl, rfl⟩)
      have hf3 : CGf (mu_si s a 5 (mI ((n - (k + 1) : Nat) : Int))) a S R C (n - (k + 1)) := ⟨by rw [mu_iv_oth _ _ (by omega)]; exact hfs.1, by rw [mu_iv_oth _ _ (by omega)]; exact hfs.2.1, by rw [mu_iv_oth _ _ (by omega)]; exact hfs.2.2.1, mu_iv_same _ _ _ _⟩
      have hb3 : CGc (mu_si s a 5 (mI ((n - (k + 1) : Nat) : Int))) a R C (sp_bw (sp_inv (rs_be ru) (rs_N ru)) S R C n c k) := hbs.fi (S := fun q j => q = a) ((mu_Fi.refl _).si rfl) (fun j hh => by omega)
      generalize mu_si s a 5 (mI ((n - (k + 1) : Nat) : Int)) = s3 at hF3 hf3 hb3 ⊢
      have ka3 := hF3.kd ka
      refine mu_al_0 B dX3_back_24 ?_
      refine mu_al_0 B dX3_back_25 ?_
      refine mu_getR B dX3_back_26 fX3_13 rfl ka3 (hF3.rv hrr) ?_
      refine mu_getRN B dX3_back_29 fX3_60 rfl (hF3.kd ur) (hF3.rv u6) ?_
      refine mu_al_0 B dX3_back_32 ?_
      refine mu_getI B dX3_back_33 fX3_31 rfl ka3 ?_
      rw [hf3.2.2.2]
      refine mu_iconst (v := mI 1) B dX3_back_36 rfl ?_
      refine mu_iand B dX3_back_37 ?_
      rw [mI_and _ (m := mI 1) 1 (by decide) (by decide)]
      rw [show ((n - (k + 1) : Nat) : Int) % 2 ^ 1 = (((n - (k + 1)) % 2 : Nat) : Int) by omega]
      refine mu_cV2 B dX3_back_38 mX3_57 ⟨⟨by decide, by decide⟩, by decide, by decide⟩ (Nat.le_of_ble_eq_true rfl) ka3 (c_X3_turnBlocks G (ho.fi hF3) hf3 hS hR hC hb3 (sp_bw_lt (by omega) hc k) (tt := rr + 3) (TN := rs_N ru) (hF3.kd k6) hn3 (by omega) (by omega) (tab := (sp_inv (rs_be ru) (rs_N ru))) (fun b hb9 => hF3.iv (fun q9 => by rcases q9 with q9 | q9; exact ne3 q9.1; exact hn3 q9) (hio b (by omega))) hil (off := (n - (k + 1)) % 2) (by omega)) (fun r38 w38 q38 => ?_)
      obtain ⟨rfl, hF4, hb4⟩ := q38
      have hf4 := hf3.fi hF4 (fun j _ _ hh => by omega)
      refine mu_inc_2 (c := mI 1) B dX3_back_41 rfl (by decide) rfl ?_
      try rw [mI_add]
      refine mu_goto (tgt := 2) B dX3_back_44 (by decide) ?_
      exact mu_to (ih _ (by omega) ⟨hF3.trans (hF4.mono (fun q j hh => Or.inr hh)), hf4, hb4⟩) rfl (by rw [show ((k + 1 : Nat) : Int) = (k : Int) + 1 by omega])
  show mu_WA X G 3 _ _ 0 0 0 _ []
  refine mu_iconst (v := mI 0) B dX3_back_0 rfl ?_
  refine mu_is_2 B dX3_back_1 (by decide) rfl ?_
  exact LB 0 w (Nat.zero_le _) ⟨mu_Fi.refl _, hf, hb⟩

set_option maxHeartbeats 4000000 in
set_option maxRecDepth 100000 in
theorem c_X3_canGoBack (G : mu_G) {w : mu_W} {a : Nat} (ho : CGo w a) {S R C n : Nat} (hf : CGf w a S R C n) (hS : 2 ≤ S ∧ S ≤ 4) (hR : gs_sd R) (hC : gs_sd C) {rr : Nat} {ru : mu_RS} (hru : CRu w rr ru) (hrr : mu_rv w a 1 = some rr) (hrS : rs_S ru = S) (hr0 : rs_nb ru = 0) (hn : n ≤ 1000000) {m : Nat} (hm : m ≤ 1000) : mu_Ct G M_X3_canGoBack [.ref a, .int (mI m)] w (fun r w' => ((sp_rev (rs_N ru) (rs_be ru) ∧ m ≤ n → r = some (.int (mI 1))) ∧ (¬ (sp_rev (rs_N ru) (rs_be ru) ∧ m ≤ n) → r = some (.int (mI 0)))) ∧ w' = w) := by
  obtain ⟨ka, r0, k1⟩ := id ho
  refine mu_ofWA G M_X3_canGoBack [.ref a, .int (mI m)] (by decide) rfl (Nat.le_of_ble_eq_true rfl) ?_
  intro X E
  have B : mu_B X G cX3_canGoBack RX3 2 (mu_rm M_X3_canGoBack) := E.1
  show mu_WA X G 2 _ _ 0 0 0 _ []
  refine mu_al_0 B dX3_canGoBack_0 ?_
  refine mu_getR B dX3_canGoBack_1 fX3_13 rfl (by assumption) hrr ?_
  refine mu_ifnull B dX3_canGoBack_4 ?_
  refine mu_al_0 B dX3_canGoBack_7 ?_
  refine mu_getR B dX3_canGoBack_8 fX3_13 rfl (by assumption) hrr ?_
  refine mu_eV0 B dX3_canGoBack_11 mX3_50 ⟨⟨by decide, by decide⟩, by decide, by decide⟩ (Nat.le_of_ble_eq_true rfl) hru.1 (c_X4_isReversible G hru) ?_
  refine mu_if_eq (tgt := 29) B dX3_canGoBack_14 (by decide) (fun c14 => ?_) (fun c14 => ?_)
  · have hnr : ¬ sp_rev (rs_N ru) (rs_be ru) := fun q => by rw [rv_v1 q] at c14; exact absurd c14 (by decide)
    refine mu_iconst (v := mI 0) B dX3_canGoBack_29 rfl ?_
    refine mu_zret E rfl (by decide) (by decide) dX3_canGoBack_30 (by decide) ?_
    first
      | exact ⟨⟨fun q => absurd q.1 hnr, fun _ => rfl⟩, rfl⟩
      | exact ⟨⟨fun _ => rfl, fun q => absurd ⟨hyr, by omega⟩ q⟩, rfl⟩
      | exact ⟨⟨fun q => absurd q.2 (by omega), fun _ => rfl⟩, rfl⟩
  · have hyr : sp_rev (rs_N ru) (rs_be ru) := Classical.byContradiction (fun q => c14 (by rw [rv_v0 q]; rfl))
    refine mu_al_0 B dX3_canGoBack_17 ?_
    refine mu_getI B dX3_canGoBack_18 fX3_31 rfl (by assumption) ?_
    rw [hf.2.2.2]
    refine mu_il_1 B dX3_canGoBack_21 ?_
    refine mu_icmp_lt (tgt := 29) B dX3_canGoBack_22 (by decide) (fun c22 => ?_) (fun c22 => ?_)
    · try rw [mI_lt ⟨by omega, by omega⟩ ⟨by omega, by omega⟩] at c22
      refine mu_iconst (v := mI 0) B dX3_canGoBack_29 rfl ?_
      refine mu_zret E rfl (by decide) (by decide) dX3_canGoBack_30 (by decide) ?_
      first
        | exact ⟨⟨fun q => absurd q.1 hnr, fun _ => rfl⟩, rfl⟩
        | exact ⟨⟨fun _ => rfl, fun q => absurd ⟨hyr, by omega⟩ q⟩, rfl⟩
        | exact ⟨⟨fun q => absurd q.2 (by omega), fun _ => rfl⟩, rfl⟩
    · try rw [mI_lt ⟨by omega, by omega⟩ ⟨by omega, by omega⟩] at c22
      refine mu_iconst (v := mI 1) B dX3_canGoBack_25 rfl ?_
      refine mu_goto (tgt := 30) B dX3_canGoBack_26 (by decide) ?_
      refine mu_zret E rfl (by decide) (by decide) dX3_canGoBack_30 (by decide) ?_
      first
        | exact ⟨⟨fun q => absurd q.1 hnr, fun _ => rfl⟩, rfl⟩
        | exact ⟨⟨fun _ => rfl, fun q => absurd ⟨hyr, by omega⟩ q⟩, rfl⟩
        | exact ⟨⟨fun q => absurd q.2 (by omega), fun _ => rfl⟩, rfl⟩

set_option maxHeartbeats 4000000 in
set_option maxRecDepth 100000 in
theorem c_X3_begin (G : mu_G) {w : mu_W} {a : Nat} (ho : CGo w a) {rr : Nat} {ru : mu_RS} (hru : CRu w rr ru) {R C : Nat} : mu_Ct G M_X3_begin [.ref a, .ref rr, .int (mI R), .int (mI C)] w (fun r w' => r = none ∧ mu_Fr (fun q j => (q = a ∧ 1 ≤ j ∧ j ≤ 5) ∨ q = a + 1) w w' ∧ mu_rv w' a 1 = some rr ∧ CGf w' a (rs_S ru) R C 0 ∧ ∀ j, j < 256 → mu_iv w' (a + 1) j = mI 0) := by
  obtain ⟨ka, r0, k1⟩ := id ho
  refine mu_ofWA G M_X3_begin [.ref a, .ref rr, .int (mI R), .int (mI C)] (by decide) rfl (Nat.le_of_ble_eq_true rfl) ?_
  intro X E
  have B : mu_B X G cX3_begin RX3 4 (mu_rm M_X3_begin) := E.1
  show mu_WA X G 4 _ _ 0 0 0 _ []
  refine mu_al_0 B dX3_begin_0 ?_
  refine mu_al_1 B dX3_begin_1 ?_
  refine mu_putR B dX3_begin_2 fX3_13 fwX3_1 rfl rfl (by assumption) ?_
  refine mu_al_0 B dX3_begin_5 ?_
  refine mu_al_1 B dX3_begin_6 ?_
  refine mu_getIN B dX3_begin_7 fX3_17 rfl (by exact hru.1) ?_
  rw [show mu_iv (mu_sr w a 1 (some rr)) rr 4 = mI (rs_S ru) from hru.2.2.2.2.2.2.2.2.2.1.2.2.2.2.1]
  refine mu_putI B dX3_begin_10 fX3_22 fwX3_2 rfl (by exact ka) ?_
  refine mu_al_0 B dX3_begin_13 ?_
  refine mu_il_2 B dX3_begin_14 ?_
  refine mu_putI B dX3_begin_15 fX3_25 fwX3_3 rfl (by exact ka) ?_
  refine mu_al_0 B dX3_begin_18 ?_
  refine mu_il_3 B dX3_begin_19 ?_
  refine mu_putI B dX3_begin_20 fX3_28 fwX3_4 rfl (by exact ka) ?_
  refine mu_al_0 B dX3_begin_23 ?_
  refine mu_iconst (v := mI 0) B dX3_begin_24 rfl ?_
  refine mu_putI B dX3_begin_25 fX3_31 fwX3_5 rfl (by exact ka) ?_
  refine mu_al_0 B dX3_begin_28 ?_
  refine mu_getR B dX3_begin_29 fX3_9 rfl (by exact ka) (by simp only [mu_rv_si, mu_rv_sr]; rw [if_neg (by omega)]; exact r0) ?_
  refine mu_iconst (v := mI 0) B dX3_begin_32 rfl ?_
  refine mu_cS2 B dX3_begin_33 mX3_34 ⟨⟨by decide, by decide⟩, by decide, by decide⟩ (Nat.le_of_ble_eq_true rfl) (c_J7_fillI G (N := 256) (by exact k1) (by decide)) (fun r33 w33 q33 => ?_)
  obtain ⟨rfl, hF, hz⟩ := q33
  refine mu_vret E rfl (by decide) (by decide) dX3_begin_36 ?_
  have hFr : mu_Fr (fun q j => (q = a ∧ 1 ≤ j ∧ j ≤ 5) ∨ q = a + 1) w w33 := (((((mu_Fr.refl _).sr (Or.inl ⟨rfl, by decide, by decide⟩) _).si (Or.inl ⟨rfl, by decide, by decide⟩) _).si (Or.inl ⟨rfl, by decide, by decide⟩) _).si (Or.inl ⟨rfl, by decide, by decide⟩) _ |>.si (Or.inl ⟨rfl, by decide, by decide⟩) _).trans (hF.fr.mono (fun q j hh => Or.inr hh))
  refine ⟨rfl, hFr, ?_, ⟨?_, ?_, ?_, ?_⟩, hz⟩
  · exact hF.rv (by exact if_pos ⟨rfl, rfl⟩)
  · exact hF.iv (fun q => by omega) (by simp [mu_iv_si])
  · exact hF.iv (fun q => by omega) (by simp [mu_iv_si])
  · exact hF.iv (fun q => by omega) (by simp [mu_iv_si])
  · exact hF.iv (fun q => by omega) (by simp [mu_iv_si])
