/-! ===== the class reads runs: blanks and counts ===== -/
def rt_S (e : Nat) : Nat → Nat → Prop := fun a j => a = e ∧ j < 5
/-- the reader at e, the tape at t, the place p -/
def CRr (w0 : mu_W) (e t n : Nat) (tp : Nat → Nat) (w : mu_W) (p : Nat) : Prop := mu_kd w e = some (6, 0) ∧ CT w t n tp ∧ mu_iv w e 0 = mI p ∧ p ≤ n ∧ mu_Fi (rt_S e) w0 w
theorem CRr.ne {w0 w : mu_W} {e t n p : Nat} {tp : Nat → Nat} (h : CRr w0 e t n tp w p) : e ≠ t ∧ e ≠ t + 1 := ⟨fun q => by have h1 := h.1; rw [q] at h1; have := h1.symm.trans h.2.1.1; simp at this, fun q => by have h1 := h.1; rw [q] at h1; have := h1.symm.trans h.2.1.2.2.1; simp at this⟩
theorem CRr.ct {w0 w : mu_W} {e t n p k : Nat} {tp : Nat → Nat} {x : Int32} (h : CRr w0 e t n tp w p) : CT (mu_si w e k x) t n tp := h.2.1.fi (S := fun a j => a = e) ((mu_Fi.refl _).si rfl) (fun q => h.ne.1 q.symm) (fun j q => h.ne.2 q.symm)
theorem CRr.si {w0 w : mu_W} {e t n p k : Nat} {tp : Nat → Nat} {x : Int32} (h : CRr w0 e t n tp w p) (hk : 1 ≤ k ∧ k < 5) : CRr w0 e t n tp (mu_si w e k x) p := ⟨h.1, h.ct, by rw [mu_iv_oth _ _ (by omega)]; exact h.2.2.1, h.2.2.2.1, h.2.2.2.2.si ⟨rfl, hk.2⟩⟩
theorem CRr.at {w0 w : mu_W} {e t n p p' : Nat} {tp : Nat → Nat} (h : CRr w0 e t n tp w p) (hp : p' ≤ n) : CRr w0 e t n tp (mu_si w e 0 (mI p')) p' := ⟨h.1, h.ct, mu_iv_same _ _ _ _, hp, h.2.2.2.2.si ⟨rfl, by decide⟩⟩
theorem tb_n (n : Nat) (tp : Nat → Nat) {i : Nat} (h : n ≤ i) : tb n tp i = -1 := by unfold tb; rw [if_neg (by omega)]
def sb_post (w0 : mu_W) (e t n : Nat) (tp : Nat → Nat) (w : mu_W) (p : Nat) (r : Option Value) (w' : mu_W) : Prop := r = none ∧ CRr w0 e t n tp w' (sk (tb n tp) p) ∧ ∀ j, 1 ≤ j → mu_iv w' e j = mu_iv w e j
def tk_ok (b : Nat → Int) (p : Nat) : Prop := tk_nd b p = 0 ∨ (b p ≠ 48 ∧ 1 ≤ tk_nd b p ∧ tk_nd b p ≤ 3 ∧ 2 ≤ tk_v b p (tk_nd b p) ∧ tk_v b p (tk_nd b p) < 1000)
def tc_post (w0 : mu_W) (e t n : Nat) (tp : Nat → Nat) (w : mu_W) (p : Nat) (r : Option Value) (w' : mu_W) : Prop := r = none ∧ (∀ j, 3 ≤ j → mu_iv w' e j = mu_iv w e j) ∧ ((tk_ok (tb n tp) p ∧ CRr w0 e t n tp w' (p + tk_nd (tb n tp) p) ∧ mu_iv w' e 1 = mI (tk_v (tb n tp) p (tk_nd (tb n tp) p)) ∧ mu_iv w' e 2 = mu_iv w e 2) ∨ (∃ f p' : Nat, f ≤ 2003 ∧ tkn (tb n tp) p = ((f : Int), p, 0, 0) ∧ CRr w0 e t n tp w' p' ∧ mu_iv w' e 2 = mI f))
theorem tkn_0 {b : Nat → Int} {p : Nat} (h : b p = 48) : tkn b p = ((p : Int), p, 0, 0) := by
  unfold tkn
  have h1 : tk_nd b p ≠ 0 := by
    unfold tk_nd
    rw [if_neg (by omega)]
    split <;> (try split) <;> (try split) <;> omega
  rw [if_neg h1, if_pos h]
theorem tkn_4 {b : Nat → Int} {p : Nat} (h : tk_nd b p = 4) (h0 : b p ≠ 48) : tkn b p = (((p + 3 : Nat) : Int), p, 0, 0) := by
  unfold tkn
  rw [h, if_neg (by decide), if_neg h0, if_pos rfl]
theorem tkn_1 {b : Nat → Int} {p d : Nat} (h : tk_nd b p = d) (hd : 1 ≤ d ∧ d ≤ 3) (h0 : b p ≠ 48) (hv : tk_v b p d < 2) : tkn b p = (((p + d - 1 : Nat) : Int), p, 0, 0) := by
  unfold tkn
  rw [h, if_neg (by omega), if_neg h0, if_neg (by omega), if_pos hv]

set_option maxHeartbeats 4000000 in
set_option maxRecDepth 100000 in
theorem c_X6_isBlank (G : mu_G) {w : mu_W} {z : Int} (hz : mi_ok z) : mu_Ct G M_X6_isBlank [.int (mI z)] w (fun r w' => r = some (.int (if z = 10 ∨ z = 32 then mI 1 else mI 0)) ∧ w' = w) := by
  obtain ⟨hz1, hz2⟩ := hz
  refine mu_ofWA G M_X6_isBlank [.int (mI z)] (by decide) rfl (Nat.le_of_ble_eq_true rfl) ?_
  intro X E
  have B : mu_B X G cX6_isBlank RX6 1 (mu_rm M_X6_isBlank) := E.1
  show mu_WA X G 1 _ _ 0 0 0 _ []
  refine mu_il_0 B dX6_isBlank_0 ?_
  refine mu_bipush (v := mI 10) B dX6_isBlank_1 (by decide) ?_
  refine mu_icmp_eq (tgt := 12) B dX6_isBlank_3 (by decide) (fun c3 => ?_) (fun c3 => ?_)
  · try rw [mI_eq ⟨by omega, by omega⟩ ⟨by omega, by omega⟩] at c3
    refine mu_iconst (v := mI 1) B dX6_isBlank_12 rfl ?_
    refine mu_goto (tgt := 17) B dX6_isBlank_13 (by decide) ?_
    refine mu_zret E rfl (by decide) (by decide) dX6_isBlank_17 (by decide) ?_
    refine ⟨?_, rfl⟩
    first | rw [if_pos (by omega)] | rw [if_neg (by omega)]
  · try rw [mI_eq ⟨by omega, by omega⟩ ⟨by omega, by omega⟩] at c3
    refine mu_il_0 B dX6_isBlank_6 ?_
    refine mu_bipush (v := mI 32) B dX6_isBlank_7 (by decide) ?_
    refine mu_icmp_ne (tgt := 16) B dX6_isBlank_9 (by decide) (fun c9 => ?_) (fun c9 => ?_)
    · try rw [mI_eq ⟨by omega, by omega⟩ ⟨by omega, by omega⟩] at c9
      refine mu_iconst (v := mI 0) B dX6_isBlank_16 rfl ?_
      refine mu_zret E rfl (by decide) (by decide) dX6_isBlank_17 (by decide) ?_
      refine ⟨?_, rfl⟩
      first | rw [if_pos (by omega)] | rw [if_neg (by omega)]
    · try rw [mI_eq ⟨by omega, by omega⟩ ⟨by omega, by omega⟩] at c9
      refine mu_iconst (v := mI 1) B dX6_isBlank_12 rfl ?_
      refine mu_goto (tgt := 17) B dX6_isBlank_13 (by decide) ?_
      refine mu_zret E rfl (by decide) (by decide) dX6_isBlank_17 (by decide) ?_
      refine ⟨?_, rfl⟩
      first | rw [if_pos (by omega)] | rw [if_neg (by omega)]

set_option maxHeartbeats 4000000 in
set_option maxRecDepth 100000 in
theorem c_X6_goesOn (G : mu_G) {w : mu_W} {z : Int} (hz : mi_ok z) : mu_Ct G M_X6_goesOn [.int (mI z)] w (fun r w' => r = some (.int (if 0 < z ∧ z ≠ 33 then mI 1 else mI 0)) ∧ w' = w) := by
  obtain ⟨hz1, hz2⟩ := hz
  refine mu_ofWA G M_X6_goesOn [.int (mI z)] (by decide) rfl (Nat.le_of_ble_eq_true rfl) ?_
  intro X E
  have B : mu_B X G cX6_goesOn RX6 1 (mu_rm M_X6_goesOn) := E.1
  show mu_WA X G 1 _ _ 0 0 0 _ []
  refine mu_il_0 B dX6_goesOn_0 ?_
  refine mu_if_le (tgt := 14) B dX6_goesOn_1 (by decide) (fun c1 => ?_) (fun c1 => ?_)
  · try rw [mI_le0 ⟨by omega, by omega⟩] at c1
    refine mu_iconst (v := mI 0) B dX6_goesOn_14 rfl ?_
    refine mu_zret E rfl (by decide) (by decide) dX6_goesOn_15 (by decide) ?_
    refine ⟨?_, rfl⟩
    first | rw [if_pos (by omega)] | rw [if_neg (by omega)]
  · try rw [mI_le0 ⟨by omega, by omega⟩] at c1
    refine mu_il_0 B dX6_goesOn_4 ?_
    refine mu_bipush (v := mI 33) B dX6_goesOn_5 (by decide) ?_
    refine mu_icmp_eq (tgt := 14) B dX6_goesOn_7 (by decide) (fun c7 => ?_) (fun c7 => ?_)
    · try rw [mI_eq ⟨by omega, by omega⟩ ⟨by omega, by omega⟩] at c7
      refine mu_iconst (v := mI 0) B dX6_goesOn_14 rfl ?_
      refine mu_zret E rfl (by decide) (by decide) dX6_goesOn_15 (by decide) ?_
      refine ⟨?_, rfl⟩
      first | rw [if_pos (by omega)] | rw [if_neg (by omega)]
    · try rw [mI_eq ⟨by omega, by omega⟩ ⟨by omega, by omega⟩] at c7
      refine mu_iconst (v := mI 1) B dX6_goesOn_10 rfl ?_
      refine mu_goto (tgt := 15) B dX6_goesOn_11 (by decide) ?_
      refine mu_zret E rfl (by decide) (by decide) dX6_goesOn_15 (by decide) ?_
      refine ⟨?_, rfl⟩
      first | rw [if_pos (by omega)] | rw [if_neg (by omega)]

set_option maxHeartbeats 4000000 in
set_option maxRecDepth 100000 in
theorem c_X6_restart (G : mu_G) {w : mu_W} {e k : Nat} (hk : mu_kd w e = some (6, k)) : mu_Ct G M_X6_restart [.ref e] w (fun r w' => r = none ∧ w' = mu_si (mu_si w e 0 (mI 0)) e 2 (mI (-1))) := by
  refine mu_ofWA G M_X6_restart [.ref e] (by decide) rfl (Nat.le_of_ble_eq_true rfl) ?_
  intro X E
  have B : mu_B X G cX6_restart RX6 1 (mu_rm M_X6_restart) := E.1
  show mu_WA X G 1 _ _ 0 0 0 _ []
  refine mu_al_0 B dX6_restart_0 ?_
  refine mu_iconst (v := mI 0) B dX6_restart_1 rfl ?_
  refine mu_putI B dX6_restart_2 fX6_26 fwX6_0 rfl (by assumption) ?_
  refine mu_al_0 B dX6_restart_5 ?_
  refine mu_iconst (v := mI (-1)) B dX6_restart_6 rfl ?_
  refine mu_putI B dX6_restart_7 fX6_34 fwX6_2 rfl (by assumption) ?_
  refine mu_vret E rfl (by decide) (by decide) dX6_restart_10 ?_
  exact ⟨rfl, rfl⟩

set_option maxHeartbeats 4000000 in
set_option maxRecDepth 100000 in
theorem c_X6_skipBlanks (G : mu_G) {w : mu_W} {w0 : mu_W} {e t n p : Nat} {tp : Nat → Nat} (h : CRr w0 e t n tp w p) : mu_Ct G M_X6_skipBlanks [.ref e, .ref t] w (sb_post w0 e t n tp w p) := by
  refine mu_ofWA G M_X6_skipBlanks [.ref e, .ref t] (by decide) rfl (Nat.le_of_ble_eq_true rfl) ?_
  intro X E
  have B : mu_B X G cX6_skipBlanks RX6 2 (mu_rm M_X6_skipBlanks) := E.1
  have LS : ∀ q : mu_W × Nat, (CRr w0 e t n tp q.1 q.2 ∧ sk (tb n tp) q.2 = sk (tb n tp) p ∧ ∀ j, 1 ≤ j → mu_iv q.1 e j = mu_iv w e j) → mu_WA X G 2 (mu_Q X G M_X6_skipBlanks (sb_post w0 e t n tp w p)) q.1 0 0 0 [.ref e, .ref t] [] := by
    refine mu_wf (fun q : mu_W × Nat => n - q.2) (fun q => mu_WA X G 2 (mu_Q X G M_X6_skipBlanks (sb_post w0 e t n tp w p)) q.1 0 0 0 [.ref e, .ref t] []) (fun q => (CRr w0 e t n tp q.1 q.2 ∧ sk (tb n tp) q.2 = sk (tb n tp) p ∧ ∀ j, 1 ≤ j → mu_iv q.1 e j = mu_iv w e j)) ?_
    intro ⟨s, p1⟩ ⟨h1, hsk, hiv⟩ ih
    dsimp only at h1 hsk hiv ih ⊢
    have ke := h1.1
    have hp1 := h1.2.2.2.1
    have hn2 := h1.2.1.2.2.2.1.1
    have hbb := tb_bd h1.2.1.2.2.2.1 p1
    refine mu_al_0 B dX6_skipBlanks_0 ?_
    refine mu_getI B dX6_skipBlanks_1 fX6_26 rfl (by assumption) ?_
    rw [h1.2.2.1]
    refine mu_al_1 B dX6_skipBlanks_4 ?_
    refine mu_eV0 B dX6_skipBlanks_5 mX6_30 ⟨⟨by decide, by decide⟩, by decide, by decide⟩ (Nat.le_of_ble_eq_true rfl) h1.2.1.1 (c_X10_size G h1.2.1) ?_
    refine mu_icmp_ge (tgt := 38) B dX6_skipBlanks_8 (by decide) (fun c8 => ?_) (fun c8 => ?_)
    · try rw [mI_le ⟨by omega, by omega⟩ ⟨by omega, by omega⟩] at c8
      refine mu_vret E rfl (by decide) (by decide) dX6_skipBlanks_38 ?_
      refine ⟨rfl, ?_, hiv⟩
      rw [← hsk]
      first
        | (rw [sk_stop z22]; exact h1)
        | (rw [sk_stop (by rw [tb_n n tp (i := p1) (by omega)]; omega)]; exact h1)
    · try rw [mI_le ⟨by omega, by omega⟩ ⟨by omega, by omega⟩] at c8
      refine mu_al_1 B dX6_skipBlanks_11 ?_
      refine mu_al_0 B dX6_skipBlanks_12 ?_
      refine mu_getI B dX6_skipBlanks_13 fX6_26 rfl (by assumption) ?_
      rw [h1.2.2.1]
      refine mu_eV1 B dX6_skipBlanks_16 mX6_37 ⟨⟨by decide, by decide⟩, by decide, by decide⟩ (Nat.le_of_ble_eq_true rfl) h1.2.1.1 (c_X10_byteAt G h1.2.1 (i := p1) (by omega)) ?_
      refine mu_eS1 B dX6_skipBlanks_19 mX6_41 ⟨⟨by decide, by decide⟩, by decide, by decide⟩ (Nat.le_of_ble_eq_true rfl) (c_X6_isBlank G (z := tb n tp p1) ⟨by omega, by omega⟩) ?_
      refine mu_if_eq (tgt := 38) B dX6_skipBlanks_22 (by decide) (fun c22 => ?_) (fun c22 => ?_)
      · have z22 := mu_bf c22
        refine mu_vret E rfl (by decide) (by decide) dX6_skipBlanks_38 ?_
        refine ⟨rfl, ?_, hiv⟩
        rw [← hsk]
        first
          | (rw [sk_stop z22]; exact h1)
          | (rw [sk_stop (by rw [tb_n n tp (i := p1) (by omega)]; omega)]; exact h1)
      · have z22 := mu_bt c22
        refine mu_al_0 B dX6_skipBlanks_25 ?_
        refine mu_dup B dX6_skipBlanks_26 rfl ?_
        refine mu_getI B dX6_skipBlanks_27 fX6_26 rfl (by assumption) ?_
        rw [h1.2.2.1]
        refine mu_iconst (v := mI 1) B dX6_skipBlanks_30 rfl ?_
        refine mu_iadd B dX6_skipBlanks_31 ?_
        try rw [mI_add]
        try rw [mI_add]
        rw [show (p1 : Int) + 1 = ((p1 + 1 : Nat) : Int) by omega]
        refine mu_putI B dX6_skipBlanks_32 fX6_26 fwX6_0 rfl (by assumption) ?_
        refine mu_goto (tgt := 0) B dX6_skipBlanks_35 (by decide) ?_
        have hin := tb_in (n := n) (tp := tp) (i := p1) (by omega)
        exact ih (mu_si s e 0 (mI ((p1 + 1 : Nat) : Int)), p1 + 1) ⟨h1.at (p' := p1 + 1) (by omega), (sk_blank (by omega) z22).symm.trans hsk, fun j hj => (mu_iv_oth _ _ (by omega)).trans (hiv j hj)⟩ (by show n - (p1 + 1) < n - p1; omega)
  show mu_WA X G 2 _ _ 0 0 0 _ []
  exact LS (w, p) ⟨h, rfl, fun _ _ => rfl⟩

set_option maxHeartbeats 4000000 in
set_option maxRecDepth 100000 in
theorem c_X6_takeCount (G : mu_G) {w : mu_W} {w0 : mu_W} {e t n p : Nat} {tp : Nat → Nat} (h : CRr w0 e t n tp w p) : mu_Ct G M_X6_takeCount [.ref e, .ref t] w (tc_post w0 e t n tp w p) := by
  have ke0 := h.1
  refine mu_ofWA G M_X6_takeCount [.ref e, .ref t, mu_no, mu_no] (by decide) rfl (Nat.le_of_ble_eq_true rfl) ?_
  intro X E
  have B : mu_B X G cX6_takeCount RX6 4 (mu_rm M_X6_takeCount) := E.1
  have LT : ∀ d (s : mu_W), d ≤ (3 : Nat) → (CRr w0 e t n tp s (p + d) ∧ (∀ j, 2 ≤ j → mu_iv s e j = mu_iv w e j) ∧ mu_iv s e 1 = mI (tk_v (tb n tp) p d) ∧ (∀ i, i < d → 48 ≤ tb n tp (p + i) ∧ tb n tp (p + i) ≤ 57) ∧ (1 ≤ d → tb n tp p ≠ 48) ∧ ((d = 0 → tk_v (tb n tp) p d = 0) ∧ (d = 1 → 1 ≤ tk_v (tb n tp) p d) ∧ (d = 2 → 10 ≤ tk_v (tb n tp) p d) ∧ (d = 3 → 100 ≤ tk_v (tb n tp) p d))) → mu_WA X G 4 (mu_Q X G M_X6_takeCount (tc_post w0 e t n tp w p)) s 0 0 10 [.ref e, .ref t, .int (mI p), mu_no] [] := by
    refine mu_ind ((3 : Nat)) (fun d (s : mu_W) => mu_WA X G 4 (mu_Q X G M_X6_takeCount (tc_post w0 e t n tp w p)) s 0 0 10 [.ref e, .ref t, .int (mI p), mu_no] []) (fun d (s : mu_W) => CRr w0 e t n tp s (p + d) ∧ (∀ j, 2 ≤ j → mu_iv s e j = mu_iv w e j) ∧ mu_iv s e 1 = mI (tk_v (tb n tp) p d) ∧ (∀ i, i < d → 48 ≤ tb n tp (p + i) ∧ tb n tp (p + i) ≤ 57) ∧ (1 ≤ d → tb n tp p ≠ 48) ∧ ((d = 0 → tk_v (tb n tp) p d = 0) ∧ (d = 1 → 1 ≤ tk_v (tb n tp) p d) ∧ (d = 2 → 10 ≤ tk_v (tb n tp) p d) ∧ (d = 3 → 100 ≤ tk_v (tb n tp) p d))) ?_
    intro d s hd3 ⟨h1, hiv, hv, hall, hfirst, hlow⟩ ih
    have ke := h1.1
    have hp1 := h1.2.2.2.1
    have hn2 := h1.2.1.2.2.2.1.1
    have hbb := tb_bd h1.2.1.2.2.2.1 (p + d)
    have hv3 := tk_v3 hd3 hall
    have hv2 : d ≤ 2 → tk_v (tb n tp) p d < 100 := fun q => by
      have g1 := tk_v_le hall
      have g2 : 10 ^ d ≤ 10 ^ 2 := Nat.pow_le_pow_right (by decide) q
      omega
    have K98 : ∀ (x : Value), ¬ (48 ≤ tb n tp (p + d) ∧ tb n tp (p + d) ≤ 57) → mu_WA X G 4 (mu_Q X G M_X6_takeCount (tc_post w0 e t n tp w p)) s 0 0 98 [.ref e, .ref t, .int (mI p), x] [] := by
      intro x hnd
      refine mu_al_0 B dX6_takeCount_98 ?_
      refine mu_getI B dX6_takeCount_99 fX6_26 rfl (by assumption) ?_
      rw [h1.2.2.1]
      refine mu_il_2 B dX6_takeCount_102 ?_
      refine mu_icmp_le (tgt := 124) B dX6_takeCount_103 (by decide) (fun c103 => ?_) (fun c103 => ?_)
      · try rw [mI_le ⟨by omega, by omega⟩ ⟨by omega, by omega⟩] at c103
        refine mu_vret E rfl (by decide) (by decide) dX6_takeCount_124 ?_
        first
          | (exfalso; omega)
          | (refine ⟨rfl, fun j hj => (mu_iv_oth _ _ (by omega)).trans (hiv j (by omega)), Or.inr ⟨p + d - 1, p + d, by omega, tkn_1 (tk_ndd (by omega) hd3 hall hnd) ⟨by omega, hd3⟩ (hfirst (by omega)) (by omega), h1.si ⟨by decide, by decide⟩, mu_iv_same _ _ _ _⟩⟩; done)
          | (have e9 : d = 0 := by omega
             subst e9
             have e0 := tk_nd0 (b := tb n tp) (p := p) hnd
             refine ⟨rfl, fun j hj => hiv j (by omega), Or.inl ⟨Or.inl e0, ?_, ?_, hiv 2 (by decide)⟩⟩
             · rw [e0]; exact h1
             · rw [e0]; exact hv)
          | (have e0 := tk_ndd (by omega) hd3 hall hnd
             refine ⟨rfl, fun j hj => hiv j (by omega), Or.inl ⟨Or.inr ⟨hfirst (by omega), ?_⟩, ?_, ?_, hiv 2 (by decide)⟩⟩
             · rw [e0]; exact ⟨by omega, hd3, by omega, by omega⟩
             · rw [e0]; exact h1
             · rw [e0]; exact hv)
      · try rw [mI_le ⟨by omega, by omega⟩ ⟨by omega, by omega⟩] at c103
        refine mu_al_0 B dX6_takeCount_106 ?_
        refine mu_getI B dX6_takeCount_107 fX6_47 rfl (by assumption) ?_
        rw [hv]
        refine mu_iconst (v := mI 2) B dX6_takeCount_110 rfl ?_
        refine mu_icmp_ge (tgt := 124) B dX6_takeCount_111 (by decide) (fun c111 => ?_) (fun c111 => ?_)
        · try rw [mI_le ⟨by omega, by omega⟩ ⟨by omega, by omega⟩] at c111
          refine mu_vret E rfl (by decide) (by decide) dX6_takeCount_124 ?_
          first
            | (exfalso; omega)
            | (refine ⟨rfl, fun j hj => (mu_iv_oth _ _ (by omega)).trans (hiv j (by omega)), Or.inr ⟨p + d - 1, p + d, by omega, tkn_1 (tk_ndd (by omega) hd3 hall hnd) ⟨by omega, hd3⟩ (hfirst (by omega)) (by omega), h1.si ⟨by decide, by decide⟩, mu_iv_same _ _ _ _⟩⟩; done)
            | (have e9 : d = 0 := by omega
               subst e9
               have e0 := tk_nd0 (b := tb n tp) (p := p) hnd
               refine ⟨rfl, fun j hj => hiv j (by omega), Or.inl ⟨Or.inl e0, ?_, ?_, hiv 2 (by decide)⟩⟩
               · rw [e0]; exact h1
               · rw [e0]; exact hv)
            | (have e0 := tk_ndd (by omega) hd3 hall hnd
               refine ⟨rfl, fun j hj => hiv j (by omega), Or.inl ⟨Or.inr ⟨hfirst (by omega), ?_⟩, ?_, ?_, hiv 2 (by decide)⟩⟩
               · rw [e0]; exact ⟨by omega, hd3, by omega, by omega⟩
               · rw [e0]; exact h1
               · rw [e0]; exact hv)
        · try rw [mI_le ⟨by omega, by omega⟩ ⟨by omega, by omega⟩] at c111
          refine mu_al_0 B dX6_takeCount_114 ?_
          refine mu_al_0 B dX6_takeCount_115 ?_
          refine mu_getI B dX6_takeCount_116 fX6_26 rfl (by assumption) ?_
          rw [h1.2.2.1]
          refine mu_iconst (v := mI 1) B dX6_takeCount_119 rfl ?_
          refine mu_isub B dX6_takeCount_120 ?_
          try rw [mI_sub]
          try rw [mI_sub]
          rw [show ((p + d : Nat) : Int) - 1 = ((p + d - 1 : Nat) : Int) by omega]
          refine mu_putI B dX6_takeCount_121 fX6_34 fwX6_2 rfl (by assumption) ?_
          refine mu_vret E rfl (by decide) (by decide) dX6_takeCount_124 ?_
          first
            | (exfalso; omega)
            | (refine ⟨rfl, fun j hj => (mu_iv_oth _ _ (by omega)).trans (hiv j (by omega)), Or.inr ⟨p + d - 1, p + d, by omega, tkn_1 (tk_ndd (by omega) hd3 hall hnd) ⟨by omega, hd3⟩ (hfirst (by omega)) (by omega), h1.si ⟨by decide, by decide⟩, mu_iv_same _ _ _ _⟩⟩; done)
            | (have e9 : d = 0 := by omega
               subst e9
               have e0 := tk_nd0 (b := tb n tp) (p := p) hnd
               refine ⟨rfl, fun j hj => hiv j (by omega), Or.inl ⟨Or.inl e0, ?_, ?_, hiv 2 (by decide)⟩⟩
               · rw [e0]; exact h1
               · rw [e0]; exact hv)
            | (have e0 := tk_ndd (by omega) hd3 hall hnd
               refine ⟨rfl, fun j hj => hiv j (by omega), Or.inl ⟨Or.inr ⟨hfirst (by omega), ?_⟩, ?_, ?_, hiv 2 (by decide)⟩⟩
               · rw [e0]; exact ⟨by omega, hd3, by omega, by omega⟩
               · rw [e0]; exact h1
               · rw [e0]; exact hv)
    refine mu_al_0 B dX6_takeCount_10 ?_
    refine mu_getI B dX6_takeCount_11 fX6_26 rfl (by assumption) ?_
    rw [h1.2.2.1]
    refine mu_al_1 B dX6_takeCount_14 ?_
    refine mu_eV0 B dX6_takeCount_15 mX6_30 ⟨⟨by decide, by decide⟩, by decide, by decide⟩ (Nat.le_of_ble_eq_true rfl) h1.2.1.1 (c_X10_size G h1.2.1) ?_
    refine mu_icmp_ge (tgt := 98) B dX6_takeCount_18 (by decide) (fun c18 => ?_) (fun c18 => ?_)
    · try rw [mI_le ⟨by omega, by omega⟩ ⟨by omega, by omega⟩] at c18
      try rw [mI_le ⟨by omega, by omega⟩ ⟨by omega, by omega⟩] at c18
      exact K98 _ (by rw [tb_n n tp (i := p + d) (by omega)]; omega)
    · try rw [mI_le ⟨by omega, by omega⟩ ⟨by omega, by omega⟩] at c18
      refine mu_al_1 B dX6_takeCount_21 ?_
      refine mu_al_0 B dX6_takeCount_22 ?_
      refine mu_getI B dX6_takeCount_23 fX6_26 rfl (by assumption) ?_
      rw [h1.2.2.1]
      refine mu_eV1 B dX6_takeCount_26 mX6_37 ⟨⟨by decide, by decide⟩, by decide, by decide⟩ (Nat.le_of_ble_eq_true rfl) h1.2.1.1 (c_X10_byteAt G h1.2.1 (i := p + d) (by omega)) ?_
      refine mu_bipush (v := mI 48) B dX6_takeCount_29 (by decide) ?_
      refine mu_isub B dX6_takeCount_31 ?_
      try rw [mI_sub]
      refine mu_is_3 B dX6_takeCount_32 (by decide) rfl ?_
      refine mu_il_3 B dX6_takeCount_33 ?_
      refine mu_if_lt (tgt := 98) B dX6_takeCount_34 (by decide) (fun c34 => ?_) (fun c34 => ?_)
      · try rw [mI_lt0 ⟨by omega, by omega⟩] at c34
        try rw [mI_lt0 ⟨by omega, by omega⟩] at c34
        exact K98 _ (by omega)
      · try rw [mI_lt0 ⟨by omega, by omega⟩] at c34
        refine mu_il_3 B dX6_takeCount_37 ?_
        refine mu_bipush (v := mI 9) B dX6_takeCount_38 (by decide) ?_
        refine mu_icmp_le (tgt := 46) B dX6_takeCount_40 (by decide) (fun c40 => ?_) (fun c40 => ?_)
        · try rw [mI_le ⟨by omega, by omega⟩ ⟨by omega, by omega⟩] at c40
          refine mu_al_0 B dX6_takeCount_46 ?_
          refine mu_al_0 B dX6_takeCount_47 ?_
          refine mu_getI B dX6_takeCount_48 fX6_47 rfl (by assumption) ?_
          rw [hv]
          refine mu_bipush (v := mI 10) B dX6_takeCount_51 (by decide) ?_
          refine mu_imul B dX6_takeCount_53 ?_
          try rw [mI_mul]
          refine mu_il_3 B dX6_takeCount_54 ?_
          refine mu_iadd B dX6_takeCount_55 ?_
          try rw [mI_add]
          try rw [mI_add]
          rw [show (tk_v (tb n tp) p d : Int) * 10 + (tb n tp (p + d) - 48) = ((tk_v (tb n tp) p (d + 1) : Nat) : Int) by rw [tk_v]; omega]
          have hv1 : tk_v (tb n tp) p (d + 1) = 10 * tk_v (tb n tp) p d + (tb n tp (p + d) - 48).toNat := by rw [tk_v]
          generalize hV : tk_v (tb n tp) p (d + 1) = V at hv1 ⊢
          refine mu_putI B dX6_takeCount_56 fX6_47 fwX6_1 rfl (by assumption) ?_
          refine mu_al_0 B dX6_takeCount_59 ?_
          refine mu_getI B dX6_takeCount_60 fX6_47 rfl (by assumption) ?_
          rw [mu_iv_same]
          refine mu_if_eq (tgt := 76) B dX6_takeCount_63 (by decide) (fun c63 => ?_) (fun c63 => ?_)
          · try rw [mI_eq0 ⟨by omega, by omega⟩] at c63
            refine mu_al_0 B dX6_takeCount_76 ?_
            refine mu_al_0 B dX6_takeCount_77 ?_
            refine mu_getI B dX6_takeCount_78 fX6_26 rfl (by assumption) ?_
            rw [mu_iv_oth _ _ (by omega), h1.2.2.1]
            refine mu_putI B dX6_takeCount_81 fX6_34 fwX6_2 rfl (by assumption) ?_
            refine mu_vret E rfl (by decide) (by decide) dX6_takeCount_84 ?_
            first
              | (have e9 : d = 0 := by omega
                 subst e9
                 have e0 : tb n tp p = 48 := by rw [Nat.add_zero] at *; omega
                 exact ⟨rfl, fun j hj => ((mu_iv_oth _ _ (by omega)).trans (mu_iv_oth _ _ (by omega))).trans (hiv j (by omega)), Or.inr ⟨p, p, by omega, tkn_0 e0, (h1.si ⟨by decide, by decide⟩).si ⟨by decide, by decide⟩, mu_iv_same _ _ _ _⟩⟩)
              | (have e9 : d = 3 := by omega
                 subst e9
                 have e0 := tk_nd4 (b := tb n tp) (p := p) (fun i hi => by
                   by_cases q9 : i = 3
                   · rw [q9]; omega
                   · exact hall i (by omega))
                 exact ⟨rfl, fun j hj => ((mu_iv_oth _ _ (by omega)).trans (mu_iv_oth _ _ (by omega))).trans (hiv j (by omega)), Or.inr ⟨p + 3, p + 3, by omega, tkn_4 e0 (hfirst (by omega)), (h1.si ⟨by decide, by decide⟩).si ⟨by decide, by decide⟩, mu_iv_same _ _ _ _⟩⟩)
          · try rw [mI_eq0 ⟨by omega, by omega⟩] at c63
            refine mu_al_0 B dX6_takeCount_66 ?_
            refine mu_getI B dX6_takeCount_67 fX6_47 rfl (by assumption) ?_
            rw [mu_iv_same]
            refine mu_sipush (v := mI 999) B dX6_takeCount_70 (by decide) ?_
            refine mu_icmp_le (tgt := 85) B dX6_takeCount_73 (by decide) (fun c73 => ?_) (fun c73 => ?_)
            · try rw [mI_le ⟨by omega, by omega⟩ ⟨by omega, by omega⟩] at c73
              refine mu_al_0 B dX6_takeCount_85 ?_
              refine mu_dup B dX6_takeCount_86 rfl ?_
              refine mu_getI B dX6_takeCount_87 fX6_26 rfl (by assumption) ?_
              rw [mu_iv_oth _ _ (by omega), h1.2.2.1]
              refine mu_iconst (v := mI 1) B dX6_takeCount_90 rfl ?_
              refine mu_iadd B dX6_takeCount_91 ?_
              try rw [mI_add]
              try rw [mI_add]
              rw [show ((p + d : Nat) : Int) + 1 = ((p + (d + 1) : Nat) : Int) by omega]
              refine mu_putI B dX6_takeCount_92 fX6_26 fwX6_0 rfl (by assumption) ?_
              refine mu_goto (tgt := 10) B dX6_takeCount_95 (by decide) ?_
              have hin := tb_in (n := n) (tp := tp) (i := p + d) (by omega)
              refine mu_fg (ih _ (by omega) ⟨(h1.si ⟨by decide, by decide⟩).at (p' := p + (d + 1)) (by omega), fun j hj => ((mu_iv_oth _ _ (by omega)).trans (mu_iv_oth _ _ (by omega))).trans (hiv j hj), ?_, fun i hi => ?_, fun _ => ?_, ?_⟩) rfl ⟨Or.inl rfl, Or.inl rfl, Or.inl rfl, Or.inr rfl, trivial⟩
              · rw [mu_iv_oth _ _ (by omega), mu_iv_same, hV]
              · by_cases q9 : i = d
                · rw [q9]; omega
                · exact hall i (by omega)
              · by_cases q9 : d = 0
                · subst q9; rw [Nat.add_zero] at *; omega
                · exact hfirst (by omega)
              · rw [hV]; omega
            · try rw [mI_le ⟨by omega, by omega⟩ ⟨by omega, by omega⟩] at c73
              refine mu_al_0 B dX6_takeCount_76 ?_
              refine mu_al_0 B dX6_takeCount_77 ?_
              refine mu_getI B dX6_takeCount_78 fX6_26 rfl (by assumption) ?_
              rw [mu_iv_oth _ _ (by omega), h1.2.2.1]
              refine mu_putI B dX6_takeCount_81 fX6_34 fwX6_2 rfl (by assumption) ?_
              refine mu_vret E rfl (by decide) (by decide) dX6_takeCount_84 ?_
              first
                | (have e9 : d = 0 := by omega
                   subst e9
                   have e0 : tb n tp p = 48 := by rw [Nat.add_zero] at *; omega
                   exact ⟨rfl, fun j hj => ((mu_iv_oth _ _ (by omega)).trans (mu_iv_oth _ _ (by omega))).trans (hiv j (by omega)), Or.inr ⟨p, p, by omega, tkn_0 e0, (h1.si ⟨by decide, by decide⟩).si ⟨by decide, by decide⟩, mu_iv_same _ _ _ _⟩⟩)
                | (have e9 : d = 3 := by omega
                   subst e9
                   have e0 := tk_nd4 (b := tb n tp) (p := p) (fun i hi => by
                     by_cases q9 : i = 3
                     · rw [q9]; omega
                     · exact hall i (by omega))
                   exact ⟨rfl, fun j hj => ((mu_iv_oth _ _ (by omega)).trans (mu_iv_oth _ _ (by omega))).trans (hiv j (by omega)), Or.inr ⟨p + 3, p + 3, by omega, tkn_4 e0 (hfirst (by omega)), (h1.si ⟨by decide, by decide⟩).si ⟨by decide, by decide⟩, mu_iv_same _ _ _ _⟩⟩)
        · try rw [mI_le ⟨by omega, by omega⟩ ⟨by omega, by omega⟩] at c40
          refine mu_goto (tgt := 98) B dX6_takeCount_43 (by decide) ?_
          exact K98 _ (by omega)
  show mu_WA X G 4 _ _ 0 0 0 _ []
  refine mu_al_0 B dX6_takeCount_0 ?_
  refine mu_getI B dX6_takeCount_1 fX6_26 rfl (by assumption) ?_
  rw [h.2.2.1]
  refine mu_is_2 B dX6_takeCount_4 (by decide) rfl ?_
  refine mu_al_0 B dX6_takeCount_5 ?_
  refine mu_iconst (v := mI 0) B dX6_takeCount_6 rfl ?_
  refine mu_putI B dX6_takeCount_7 fX6_47 fwX6_1 rfl (by assumption) ?_
  exact LT 0 _ (by decide) ⟨h.si ⟨by decide, by decide⟩, fun j hj => mu_iv_oth _ _ (by omega), mu_iv_same _ _ _ _, fun i hi => absurd hi (Nat.not_lt_zero i), fun q => absurd q (by decide), fun _ => rfl, fun q => absurd q (by decide), fun q => absurd q (by decide), fun q => absurd q (by decide)⟩
