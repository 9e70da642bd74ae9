/-! ===== the class: fields stepped ===== -/
def avS (a b : Nat) : Nat → Nat → Prop := fun e j => (e = a ∧ 4 ≤ j ∧ j ≤ 9) ∨ e = a + 1 ∨ e = a + 2 ∨ (b ≤ e ∧ e ≤ b + 3)
theorem RUx.nf {w : mu_W} {rr nb bo st a b : Nat} (h : RUx w rr nb bo st) (ho : CFo w a) (hb : rr < b ∨ b + 3 < rr) (j : Nat) : ¬ sS a b rr j := fun hh => by
  rcases hh with hh | hh | hh | hh
  · rw [hh.1] at h; have := h.1; rw [ho.1] at this; cases this
  · rw [hh] at h; have := h.1; rw [ho.2.2.1] at this; cases this
  · rw [hh] at h; have := h.1; rw [ho.2.2.2.2] at this; cases this
  · omega
def FLD (w : mu_W) (a : Nat) (c : Nat → Nat → Nat) : Prop := CFo w a ∧ CFb w a c ∧ ∃ L R U D M, CMx c L R U D M ∧ CFm w a L R U D M

theorem CSt.kd {w : mu_W} {b : Nat} (h : CSt w b) : mu_kd w b = some (9, 0) := by
  obtain ⟨e0, e1, e2, ⟨_, g, _⟩, _⟩ := h
  exact g

set_option maxHeartbeats 4000000 in
set_option maxRecDepth 100000 in
theorem c_X11_advance (G : mu_G) {w : mu_W} {o : Nat} (hm : CMo w o) {a : Nat} (hao : o + 35 ≤ a) {c : Nat → Nat → Nat} (hfl : FLD w a c) {rr : Nat} {ru : mu_RS} (hrr : mu_rv w a 2 = some rr) (hq : RUq w rr ru) (hro : o + 35 ≤ rr) {n : Nat} (hn : n ≤ 64) : mu_Ct G M_X11_advance [.ref o, .ref a, .int (mI (n : Nat))] w (fun r w' => (¬ sp_done c n → r = some (.int (mI (-2))) ∧ w' = w) ∧ (sp_done c n → r = some (.int (mu_iv w a 4 + mI n)) ∧ mu_Fr (avS a (o + 15)) w w' ∧ CSt w' (o + 15) ∧ FLD w' a (sp_its (rs_nb ru) (rs_bo ru) (rs_st ru) n c) ∧ mu_iv w' a 4 = mu_iv w a 4 + mI n)) := by
  obtain ⟨ko, hox, ⟨r0, r1, r2, r3, r4, r6, r8, r10, r11, r12, r13, r14⟩, ⟨k1, k3, k4, kB, k12, k13, k14⟩, kS, kF, kQ, k26, kH⟩ := id hm
  obtain ⟨hfo, hb, L, R, U, D, M, hx, hcm⟩ := id hfl
  have hbd := hx.bd hb.1
  refine mu_ofWA G M_X11_advance [.ref o, .ref a, .int (mI (n : Nat)), mu_no] (by decide) rfl (Nat.le_of_ble_eq_true rfl) ?_
  intro X E
  have B : mu_B X G cX11_advance RX11 4 (mu_rm M_X11_advance) := E.1
  show mu_WA X G 4 _ _ 0 0 0 _ []
  refine mu_al_1 B dX11_advance_0 ?_
  refine mu_il_2 B dX11_advance_1 ?_
  refine mu_eV1 B dX11_advance_2 mX11_174 ⟨⟨by decide, by decide⟩, by decide, by decide⟩ (Nat.le_of_ble_eq_true rfl) (by exact hfo.1) (c_X1_hasRoomFor G hfo hcm hbd (n := n) (by omega)) ?_
  refine mu_if_ne (tgt := 11) B dX11_advance_5 (by decide) (fun c5 => ?_) (fun c5 => ?_)
  · have z5 := mu_bt c5
    rw [hx.done] at z5
    refine mu_iconst (v := mI 0) B dX11_advance_11 rfl ?_
    refine mu_is_3 B dX11_advance_12 (by decide) rfl ?_
    have hdn := z5
    
    have LA : ∀ k (s : mu_W), k ≤ n → (mu_Fr (sS a (o + 15)) w s ∧ CSt s (o + 15) ∧ FLD s a (sp_its (rs_nb ru) (rs_bo ru) (rs_st ru) k c)) → mu_WA X G 4 (mu_Q X G M_X11_advance (fun r w' => (¬ sp_done c n → r = some (.int (mI (-2))) ∧ w' = w) ∧ (sp_done c n → r = some (.int (mu_iv w a 4 + mI n)) ∧ mu_Fr (avS a (o + 15)) w w' ∧ CSt w' (o + 15) ∧ FLD w' a (sp_its (rs_nb ru) (rs_bo ru) (rs_st ru) n c) ∧ mu_iv w' a 4 = mu_iv w a 4 + mI n))) s 0 0 13 [.ref o, .ref a, .int (mI (n : Nat)), .int (mI k)] [] := by
      refine mu_ind (n) (fun k (s : mu_W) => mu_WA X G 4 (mu_Q X G M_X11_advance (fun r w' => (¬ sp_done c n → r = some (.int (mI (-2))) ∧ w' = w) ∧ (sp_done c n → r = some (.int (mu_iv w a 4 + mI n)) ∧ mu_Fr (avS a (o + 15)) w w' ∧ CSt w' (o + 15) ∧ FLD w' a (sp_its (rs_nb ru) (rs_bo ru) (rs_st ru) n c) ∧ mu_iv w' a 4 = mu_iv w a 4 + mI n))) s 0 0 13 [.ref o, .ref a, .int (mI (n : Nat)), .int (mI k)] []) (fun k (s : mu_W) => mu_Fr (sS a (o + 15)) w s ∧ CSt s (o + 15) ∧ FLD s a (sp_its (rs_nb ru) (rs_bo ru) (rs_st ru) k c)) ?_
      intro k s hk ⟨hFs, hSt, hfo9, hb9, L9, R9, U9, D9, M9, hx9, hcm9⟩ ih
      refine mu_il_3 B dX11_advance_13 ?_
      refine mu_il_2 B dX11_advance_14 ?_
      refine mu_icmp_ge (tgt := 32) B dX11_advance_15 (by decide) (fun c15 => ?_) (fun c15 => ?_)
      · try rw [mI_le ⟨by omega, by omega⟩ ⟨by omega, by omega⟩] at c15
        try rw [mI_le ⟨by omega, by omega⟩ ⟨by omega, by omega⟩] at c15
        obtain rfl : n = k := by omega
        refine mu_al_1 B dX11_advance_32 ?_
        refine mu_il_2 B dX11_advance_33 ?_
        refine mu_eV1 B dX11_advance_34 mX11_182 ⟨⟨by decide, by decide⟩, by decide, by decide⟩ (Nat.le_of_ble_eq_true rfl) (by exact hfo9.1) (c_X1_age G hfo9) ?_
        refine mu_iret E rfl (by decide) (by decide) dX11_advance_37 ?_
        have e4 : mu_iv s a 4 = mu_iv w a 4 := hFs.iv (fun hh => by rcases hh with hh | hh | hh | hh <;> omega) rfl
        refine ⟨fun h => absurd hdn h, fun _ => ⟨by rw [e4], (hFs.mono (fun e j hh => ?_)).si (Or.inl ⟨rfl, by decide, by decide⟩) _, hSt.sm (fun q l1 l2 => ?_), ⟨hfo9.fi ((mu_Fi.refl (S := fun e j => e = a ∧ j = 4) _).si ⟨rfl, rfl⟩), hb9.fi ((mu_Fi.refl (S := fun e j => e = a ∧ j = 4) _).si ⟨rfl, rfl⟩) (fun j hh => by have := hh.1; omega), L9, R9, U9, D9, M9, hx9, hcm9.fi ((mu_Fi.refl (S := fun e j => e = a ∧ j = 4) _).si ⟨rfl, rfl⟩) (fun j j1 j2 hh => by have := hh.2; omega)⟩, by rw [mu_iv_same, e4]⟩⟩
        · rcases hh with hh | hh | hh | hh
          · exact Or.inl ⟨hh.1, by omega, hh.2.2⟩
          · exact Or.inr (Or.inl hh)
          · exact Or.inr (Or.inr (Or.inl hh))
          · exact Or.inr (Or.inr (Or.inr hh))
        · exact ((mu_Fi.refl (S := fun e j => e = a ∧ j = 4) _).si ⟨rfl, rfl⟩).smc (fun j hh => by have := hh.1; omega)
      · try rw [mI_le ⟨by omega, by omega⟩ ⟨by omega, by omega⟩] at c15
        refine mu_al_0 B dX11_advance_18 ?_
        refine mu_getR B dX11_advance_19 fX11_58 rfl (hFs.kd ko) (hFs.rv (fun hh => by rcases hh with hh | hh | hh | hh <;> omega) r10) ?_
        refine mu_al_1 B dX11_advance_22 ?_
        refine mu_cV1 B dX11_advance_23 mX11_178 ⟨⟨by decide, by decide⟩, by decide, by decide⟩ (Nat.le_of_ble_eq_true rfl) (by exact hSt.kd) (c_X9_step G hfo9 hb9 hcm9 hx9 hSt (Or.inr (by omega)) (hFs.rv (fun hh => by rcases hh with hh | hh | hh | hh <;> omega) hrr) (hq.1.fr hFs (hq.1.nf hfo (by omega))) hq.2.1 hq.2.2.1 hq.2.2.2.1 hq.2.2.2.2) (fun r23 w23 q23 => ?_)
        obtain ⟨rfl, hF1, hS1, hb1, L1, R1, U1, D1, M1, hx1, hcm1⟩ := q23
        refine mu_inc_3 (c := mI 1) B dX11_advance_26 rfl (by decide) rfl ?_
        try rw [mI_add]
        refine mu_goto (tgt := 13) B dX11_advance_29 (by decide) ?_
        refine mu_to (ih _ (by omega) ⟨hFs.trans hF1, hS1, hfo9.fr hF1 (fun hh => by rcases hh with hh | hh | hh | hh <;> omega) (fun hh => by rcases hh with hh | hh | hh | hh <;> omega), hb1, L1, R1, U1, D1, M1, hx1, hcm1⟩) rfl (by rw [show ((k + 1 : Nat) : Int) = (k : Int) + 1 by omega])
    exact LA 0 w (Nat.zero_le _) ⟨mu_Fr.refl _, kS, hfo, hb, L, R, U, D, M, hx, hcm⟩
  · have z5 := mu_bf c5
    rw [hx.done] at z5
    refine mu_bipush (v := mI (-2)) B dX11_advance_8 (by decide) ?_
    refine mu_iret E rfl (by decide) (by decide) dX11_advance_10 ?_
    exact ⟨fun _ => ⟨rfl, rfl⟩, fun h => absurd h z5⟩
