/-! ===== a field of the class: room, change, clear ===== -/
def CBd (L R U D : Int) (M : Nat) : Prop := 0 ≤ L ∧ L ≤ 255 ∧ 0 ≤ R ∧ R ≤ 255 ∧ 0 ≤ U ∧ U ≤ 255 ∧ 0 ≤ D ∧ D ≤ 255 ∧ M ≤ 65536
theorem CMx.bd {c : Nat → Nat → Nat} {L R U D : Int} {M : Nat} (h : CMx c L R U D M) (hc : ∀ i j, c i j ≤ 1) : CBd L R U D M := by
  unfold CBd
  rcases h with ⟨h1, h2, h3, h4, h5, _⟩ | ⟨h1, h2⟩
  · omega
  · have g1 := h2.1
    have g2 := cntR_le hc 256
    have g3 := (h2.2.2.2 h1).1
    rw [cntX] at g1
    omega
theorem CMx.al {c : Nat → Nat → Nat} {L R U D : Int} {M : Nat} (h : CMx c L R U D M) {i j : Nat} (hi : i < 256) (hj : j < 256) (h1 : c i j = 1) : M ≠ 0 ∧ L ≤ i ∧ (i : Int) ≤ R ∧ U ≤ j ∧ (j : Int) ≤ D := by
  rcases h with ⟨_, _, _, _, _, h2⟩ | ⟨h0, h2⟩
  · have := h2.2.1 i j hi (Or.inl hj) h1; omega
  · exact ⟨h0, h2.2.1 i j hi (Or.inl hj) h1⟩
theorem CMx.done {c : Nat → Nat → Nat} {L R U D : Int} {M n : Nat} (h : CMx c L R U D M) : (M = 0 ∨ ((n : Int) ≤ L ∧ (n : Int) ≤ U ∧ R + n < 256 ∧ D + n < 256)) ↔ sp_done c n := by
  rcases h with ⟨h1, _, _, _, _, h2⟩ | ⟨h1, h2⟩
  · rw [← h2.done]
    exact ⟨fun _ => Or.inl rfl, fun _ => Or.inl h1⟩
  · rw [← h2.done]
    constructor <;> (intro q; omega)
theorem CMx.mt {c : Nat → Nat → Nat} {L R U D : Int} {M : Nat} (h : CMx c L R U D M) (h0 : ∀ i j, i < 256 → j < 256 → c i j = 0) : M = 0 ∧ L = 0 ∧ R = 0 ∧ U = 0 ∧ D = 0 := by
  rcases h with ⟨h1, h2, h3, h4, h5, _⟩ | ⟨h1, h2⟩
  · exact ⟨h1, h2, h3, h4, h5⟩
  · obtain ⟨g1, ⟨j, hj, hc⟩, _⟩ := h2.2.2.2 h1
    rw [h0 _ j (by omega) hj] at hc; cases hc
theorem mI_minN {x y : Nat} (hx : x ≤ 1000000) (hy : y ≤ 1000000) : (if mI (y : Int) < mI (x : Int) then mI (y : Int) else mI (x : Int)) = mI ((min x y : Nat) : Int) := by
  by_cases h : y < x
  · rw [if_pos (by rw [mI_lt ⟨by omega, by omega⟩ ⟨by omega, by omega⟩]; omega), Nat.min_eq_right (by omega)]
  · rw [if_neg (by rw [mI_lt ⟨by omega, by omega⟩ ⟨by omega, by omega⟩]; omega), Nat.min_eq_left (by omega)]
theorem mI_maxN {x y : Nat} (hx : x ≤ 1000000) (hy : y ≤ 1000000) : (if mI (x : Int) < mI (y : Int) then mI (y : Int) else mI (x : Int)) = mI ((max x y : Nat) : Int) := by
  by_cases h : x < y
  · rw [if_pos (by rw [mI_lt ⟨by omega, by omega⟩ ⟨by omega, by omega⟩]; omega), Nat.max_eq_right (by omega)]
  · rw [if_neg (by rw [mI_lt ⟨by omega, by omega⟩ ⟨by omega, by omega⟩]; omega), Nat.max_eq_left (by omega)]
theorem cu_al {c : Nat → Nat → Nat} {p q v i j : Nat} (h : cu c p q v i j = 1) : (i = p ∧ j = q) ∨ c i j = 1 := by
  unfold cu at h
  by_cases e : i = p ∧ j = q
  · exact Or.inl e
  · rw [if_neg e] at h; exact Or.inr h
def chS (a : Nat) : Nat → Nat → Prop := fun e j => (e = a ∧ 5 ≤ j ∧ j ≤ 9) ∨ e = a + 1 ∨ e = a + 2
def clS (a : Nat) : Nat → Nat → Prop := fun e j => (e = a ∧ 4 ≤ j ∧ j ≤ 9) ∨ e = a + 1 ∨ e = a + 2
def ch_post (w : mu_W) (a : Nat) (c : Nat → Nat → Nat) (p q v : Nat) (r : Option Value) (w' : mu_W) : Prop := r = some (.int (mI (c p q : Nat))) ∧ mu_Fi (chS a) w w' ∧ CFb w' a (cu c p q v) ∧ ∃ L R U D M, CMx (cu c p q v) L R U D M ∧ CFm w' a L R U D M
def cle_post (w : mu_W) (a : Nat) (r : Option Value) (w' : mu_W) : Prop := r = none ∧ mu_Fi (clS a) w w' ∧ CFb w' a (fun _ _ => 0) ∧ CMx (fun _ _ => 0) 0 0 0 0 0 ∧ CFm w' a 0 0 0 0 0 ∧ mu_iv w' a 4 = mI 0

set_option maxHeartbeats 4000000 in
set_option maxRecDepth 100000 in
theorem c_X1_hasRoomFor (G : mu_G) {w : mu_W} {a : Nat} (ho : CFo w a) {L R U D : Int} {M : Nat} (hm : CFm w a L R U D M) (hbd : CBd L R U D M) {n : Nat} (hn : n ≤ 1000000) : mu_Ct G M_X1_hasRoomFor [.ref a, .int (mI n)] w (fun r w' => r = some (.int (if M = 0 ∨ ((n : Int) ≤ L ∧ (n : Int) ≤ U ∧ R + n < 256 ∧ D + n < 256) then mI 1 else mI 0)) ∧ w' = w) := by
  obtain ⟨ka, r0, k1, r1, k2⟩ := id ho
  obtain ⟨b1, b2, b3, b4, b5, b6, b7, b8, b9⟩ := hbd
  refine mu_ofWA G M_X1_hasRoomFor [.ref a, .int (mI n)] (by decide) rfl (Nat.le_of_ble_eq_true rfl) ?_
  intro X E
  have B : mu_B X G cX1_hasRoomFor RX1 2 (mu_rm M_X1_hasRoomFor) := E.1
  show mu_WA X G 2 _ _ 0 0 0 _ []
  refine mu_al_0 B dX1_hasRoomFor_0 ?_
  refine mu_getI B dX1_hasRoomFor_1 fX1_46 rfl (by assumption) ?_
  rw [hm.1]
  refine mu_if_eq (tgt := 47) B dX1_hasRoomFor_4 (by decide) (fun c4 => ?_) (fun c4 => ?_)
  · try rw [mI_eq0 ⟨by omega, by omega⟩] at c4
    refine mu_iconst (v := mI 1) B dX1_hasRoomFor_47 rfl ?_
    refine mu_goto (tgt := 52) B dX1_hasRoomFor_48 (by decide) ?_
    refine mu_zret E rfl (by decide) (by decide) dX1_hasRoomFor_52 (by decide) ?_
    refine ⟨?_, rfl⟩
    first | rw [if_pos (by omega)] | rw [if_neg (by omega)]
  · try rw [mI_eq0 ⟨by omega, by omega⟩] at c4
    refine mu_al_0 B dX1_hasRoomFor_7 ?_
    refine mu_getI B dX1_hasRoomFor_8 fX1_49 rfl (by assumption) ?_
    rw [hm.2.1]
    refine mu_il_1 B dX1_hasRoomFor_11 ?_
    refine mu_icmp_lt (tgt := 51) B dX1_hasRoomFor_12 (by decide) (fun c12 => ?_) (fun c12 => ?_)
    · try rw [mI_lt ⟨by omega, by omega⟩ ⟨by omega, by omega⟩] at c12
      refine mu_iconst (v := mI 0) B dX1_hasRoomFor_51 rfl ?_
      refine mu_zret E rfl (by decide) (by decide) dX1_hasRoomFor_52 (by decide) ?_
      refine ⟨?_, rfl⟩
      first | rw [if_pos (by omega)] | rw [if_neg (by omega)]
    · try rw [mI_lt ⟨by omega, by omega⟩ ⟨by omega, by omega⟩] at c12
      refine mu_al_0 B dX1_hasRoomFor_15 ?_
      refine mu_getI B dX1_hasRoomFor_16 fX1_52 rfl (by assumption) ?_
      rw [hm.2.2.1]
      refine mu_il_1 B dX1_hasRoomFor_19 ?_
      refine mu_icmp_lt (tgt := 51) B dX1_hasRoomFor_20 (by decide) (fun c20 => ?_) (fun c20 => ?_)
      · try rw [mI_lt ⟨by omega, by omega⟩ ⟨by omega, by omega⟩] at c20
        refine mu_iconst (v := mI 0) B dX1_hasRoomFor_51 rfl ?_
        refine mu_zret E rfl (by decide) (by decide) dX1_hasRoomFor_52 (by decide) ?_
        refine ⟨?_, rfl⟩
        first | rw [if_pos (by omega)] | rw [if_neg (by omega)]
      · try rw [mI_lt ⟨by omega, by omega⟩ ⟨by omega, by omega⟩] at c20
        refine mu_al_0 B dX1_hasRoomFor_23 ?_
        refine mu_getI B dX1_hasRoomFor_24 fX1_55 rfl (by assumption) ?_
        rw [hm.2.2.2.1]
        refine mu_il_1 B dX1_hasRoomFor_27 ?_
        refine mu_iadd B dX1_hasRoomFor_28 ?_
        try rw [mI_add]
        refine mu_sipush (v := mI 256) B dX1_hasRoomFor_29 (by decide) ?_
        refine mu_icmp_ge (tgt := 51) B dX1_hasRoomFor_32 (by decide) (fun c32 => ?_) (fun c32 => ?_)
        · try rw [mI_le ⟨by omega, by omega⟩ ⟨by omega, by omega⟩] at c32
          refine mu_iconst (v := mI 0) B dX1_hasRoomFor_51 rfl ?_
          refine mu_zret E rfl (by decide) (by decide) dX1_hasRoomFor_52 (by decide) ?_
          refine ⟨?_, rfl⟩
          first | rw [if_pos (by omega)] | rw [if_neg (by omega)]
        · try rw [mI_le ⟨by omega, by omega⟩ ⟨by omega, by omega⟩] at c32
          refine mu_al_0 B dX1_hasRoomFor_35 ?_
          refine mu_getI B dX1_hasRoomFor_36 fX1_58 rfl (by assumption) ?_
          rw [hm.2.2.2.2]
          refine mu_il_1 B dX1_hasRoomFor_39 ?_
          refine mu_iadd B dX1_hasRoomFor_40 ?_
          try rw [mI_add]
          refine mu_sipush (v := mI 256) B dX1_hasRoomFor_41 (by decide) ?_
          refine mu_icmp_ge (tgt := 51) B dX1_hasRoomFor_44 (by decide) (fun c44 => ?_) (fun c44 => ?_)
          · try rw [mI_le ⟨by omega, by omega⟩ ⟨by omega, by omega⟩] at c44
            refine mu_iconst (v := mI 0) B dX1_hasRoomFor_51 rfl ?_
            refine mu_zret E rfl (by decide) (by decide) dX1_hasRoomFor_52 (by decide) ?_
            refine ⟨?_, rfl⟩
            first | rw [if_pos (by omega)] | rw [if_neg (by omega)]
          · try rw [mI_le ⟨by omega, by omega⟩ ⟨by omega, by omega⟩] at c44
            refine mu_iconst (v := mI 1) B dX1_hasRoomFor_47 rfl ?_
            refine mu_goto (tgt := 52) B dX1_hasRoomFor_48 (by decide) ?_
            refine mu_zret E rfl (by decide) (by decide) dX1_hasRoomFor_52 (by decide) ?_
            refine ⟨?_, rfl⟩
            first | rw [if_pos (by omega)] | rw [if_neg (by omega)]

set_option maxHeartbeats 4000000 in
set_option maxRecDepth 100000 in
theorem c_X1_change (G : mu_G) {w : mu_W} {a : Nat} (ho : CFo w a) {c : Nat → Nat → Nat} (hb : CFb w a c) {L R U D : Int} {M : Nat} (hm : CFm w a L R U D M) (hx : CMx c L R U D M) {p q v : Nat} (hp : p < 256) (hq : q < 256) (hv : v ≤ 1) : mu_Ct G M_X1_change [.ref a, .int (mI p), .int (mI q), .int (mI v)] w (ch_post w a c p q v) := by
  obtain ⟨ka, r0, k1, r1, k2⟩ := id ho
  obtain ⟨b1, b2, b3, b4, b5, b6, b7, b8, b9⟩ := hx.bd hb.1
  refine mu_ofWA G M_X1_change [.ref a, .int (mI p), .int (mI q), .int (mI v), mu_no] (by decide) rfl (Nat.le_of_ble_eq_true rfl) ?_
  intro X E
  have B : mu_B X G cX1_change RX1 5 (mu_rm M_X1_change) := E.1
  show mu_WA X G 5 _ _ 0 0 0 _ []
  refine mu_al_0 B dX1_change_0 ?_
  refine mu_il_1 B dX1_change_1 ?_
  refine mu_il_2 B dX1_change_2 ?_
  refine mu_eV2 B dX1_change_3 mX1_65 ⟨⟨by decide, by decide⟩, by decide, by decide⟩ (Nat.le_of_ble_eq_true rfl) (by assumption) (c_X1_look G ho hb (x := (p : Int)) (y := (q : Int)) ⟨by omega, by omega⟩ ⟨by omega, by omega⟩) ?_
  rw [al_in hp hq]
  refine mu_is_4 B dX1_change_6 (by decide) rfl ?_
  refine mu_al_0 B dX1_change_8 ?_
  refine mu_il_1 B dX1_change_9 ?_
  refine mu_il_2 B dX1_change_10 ?_
  refine mu_il_3 B dX1_change_11 ?_
  refine mu_cV3 B dX1_change_12 mX1_69 ⟨⟨by decide, by decide⟩, by decide, by decide⟩ (Nat.le_of_ble_eq_true rfl) (by assumption) (c_X1_write G ho hb hp hq hv) (fun r12 w12 q12 => ?_)
  obtain ⟨rfl, hF, hb2⟩ := q12
  have ho2 := ho.fi hF
  have hm2 := hm.fi hF (fun j _ _ hh => by omega)
  have ka2 := ho2.1
  obtain ⟨u, hu⟩ : ∃ u : Nat, U = u := ⟨U.toNat, by omega⟩
  subst hu
  obtain ⟨d, hd⟩ : ∃ d : Nat, D = d := ⟨D.toNat, by omega⟩
  subst hd
  refine mu_al_0 B dX1_change_15 ?_
  refine mu_al_0 B dX1_change_16 ?_
  refine mu_getI B dX1_change_17 fX1_46 rfl (by assumption) ?_
  rw [hm2.1]
  refine mu_if_ne (tgt := 27) B dX1_change_20 (by decide) (fun c20 => ?_) (fun c20 => ?_)
  · try rw [mI_eq0 ⟨by omega, by omega⟩] at c20
    refine mu_al_0 B dX1_change_27 ?_
    refine mu_getI B dX1_change_28 fX1_52 rfl (by assumption) ?_
    rw [hm2.2.2.1]
    refine mu_il_2 B dX1_change_31 ?_
    refine mu_mmin B dX1_change_32 mlX1_73 ⟨by decide, by decide⟩ (Nat.le_of_ble_eq_true rfl) ⟨by decide, by decide⟩ ?_
    rw [mI_minN (by omega) (by omega)]
    refine mu_al_0 B dX1_change_35 ?_
    refine mu_getI B dX1_change_36 fX1_46 rfl (by assumption) ?_
    rw [hm2.1]
    refine mu_if_ne (tgt := 46) B dX1_change_39 (by decide) (fun c39 => ?_) (fun c39 => ?_)
    · try rw [mI_eq0 ⟨by omega, by omega⟩] at c39
      refine mu_al_0 B dX1_change_46 ?_
      refine mu_getI B dX1_change_47 fX1_58 rfl (by assumption) ?_
      rw [hm2.2.2.2.2]
      refine mu_il_2 B dX1_change_50 ?_
      refine mu_mmax B dX1_change_51 mlX1_78 ⟨by decide, by decide⟩ (Nat.le_of_ble_eq_true rfl) ⟨by decide, by decide⟩ ?_
      rw [mI_maxN (by omega) (by omega)]
      refine mu_cV2 B dX1_change_54 mX1_36 ⟨⟨by decide, by decide⟩, by decide, by decide⟩ (Nat.le_of_ble_eq_true rfl) (by assumption) (c_X1_measure G ho2 hb2 (by omega) (by omega) (fun i j h1 h2 h3 => (cu_al h3).elim (fun h4 => by omega) (fun h4 => by have := hx.al h1 h2 h4; omega))) (fun r54 w54 q54 => ?_)
      obtain ⟨rfl, hF3, L2, R2, U2, D2, M2, hx2, hm3⟩ := q54
      refine mu_il_4 B dX1_change_57 ?_
      refine mu_iret E rfl (by decide) (by decide) dX1_change_59 ?_
      exact ⟨rfl, (hF.mono (fun e j hh => Or.inr (Or.inl hh))).trans (hF3.mono (fun e j hh => hh.elim Or.inl (fun h9 => Or.inr (Or.inr h9)))), hb2.fi hF3 (fun j hh => by rcases hh with hh | hh <;> omega), L2, R2, U2, D2, M2, hx2, hm3⟩
    · try rw [mI_eq0 ⟨by omega, by omega⟩] at c39
      refine mu_il_2 B dX1_change_42 ?_
      refine mu_goto (tgt := 54) B dX1_change_43 (by decide) ?_
      refine mu_cV2 B dX1_change_54 mX1_36 ⟨⟨by decide, by decide⟩, by decide, by decide⟩ (Nat.le_of_ble_eq_true rfl) (by assumption) (c_X1_measure G ho2 hb2 (by omega) (by omega) (fun i j h1 h2 h3 => (cu_al h3).elim (fun h4 => by omega) (fun h4 => by have := hx.al h1 h2 h4; omega))) (fun r54 w54 q54 => ?_)
      obtain ⟨rfl, hF3, L2, R2, U2, D2, M2, hx2, hm3⟩ := q54
      refine mu_il_4 B dX1_change_57 ?_
      refine mu_iret E rfl (by decide) (by decide) dX1_change_59 ?_
      exact ⟨rfl, (hF.mono (fun e j hh => Or.inr (Or.inl hh))).trans (hF3.mono (fun e j hh => hh.elim Or.inl (fun h9 => Or.inr (Or.inr h9)))), hb2.fi hF3 (fun j hh => by rcases hh with hh | hh <;> omega), L2, R2, U2, D2, M2, hx2, hm3⟩
  · try rw [mI_eq0 ⟨by omega, by omega⟩] at c20
    refine mu_il_2 B dX1_change_23 ?_
    refine mu_goto (tgt := 35) B dX1_change_24 (by decide) ?_
    refine mu_al_0 B dX1_change_35 ?_
    refine mu_getI B dX1_change_36 fX1_46 rfl (by assumption) ?_
    rw [hm2.1]
    refine mu_if_ne (tgt := 46) B dX1_change_39 (by decide) (fun c39 => ?_) (fun c39 => ?_)
    · try rw [mI_eq0 ⟨by omega, by omega⟩] at c39
      refine mu_al_0 B dX1_change_46 ?_
      refine mu_getI B dX1_change_47 fX1_58 rfl (by assumption) ?_
      rw [hm2.2.2.2.2]
      refine mu_il_2 B dX1_change_50 ?_
      refine mu_mmax B dX1_change_51 mlX1_78 ⟨by decide, by decide⟩ (Nat.le_of_ble_eq_true rfl) ⟨by decide, by decide⟩ ?_
      rw [mI_maxN (by omega) (by omega)]
      refine mu_cV2 B dX1_change_54 mX1_36 ⟨⟨by decide, by decide⟩, by decide, by decide⟩ (Nat.le_of_ble_eq_true rfl) (by assumption) (c_X1_measure G ho2 hb2 (by omega) (by omega) (fun i j h1 h2 h3 => (cu_al h3).elim (fun h4 => by omega) (fun h4 => by have := hx.al h1 h2 h4; omega))) (fun r54 w54 q54 => ?_)
      obtain ⟨rfl, hF3, L2, R2, U2, D2, M2, hx2, hm3⟩ := q54
      refine mu_il_4 B dX1_change_57 ?_
      refine mu_iret E rfl (by decide) (by decide) dX1_change_59 ?_
      exact ⟨rfl, (hF.mono (fun e j hh => Or.inr (Or.inl hh))).trans (hF3.mono (fun e j hh => hh.elim Or.inl (fun h9 => Or.inr (Or.inr h9)))), hb2.fi hF3 (fun j hh => by rcases hh with hh | hh <;> omega), L2, R2, U2, D2, M2, hx2, hm3⟩
    · try rw [mI_eq0 ⟨by omega, by omega⟩] at c39
      refine mu_il_2 B dX1_change_42 ?_
      refine mu_goto (tgt := 54) B dX1_change_43 (by decide) ?_
      refine mu_cV2 B dX1_change_54 mX1_36 ⟨⟨by decide, by decide⟩, by decide, by decide⟩ (Nat.le_of_ble_eq_true rfl) (by assumption) (c_X1_measure G ho2 hb2 (by omega) (by omega) (fun i j h1 h2 h3 => (cu_al h3).elim (fun h4 => by omega) (fun h4 => by have := hx.al h1 h2 h4; omega))) (fun r54 w54 q54 => ?_)
      obtain ⟨rfl, hF3, L2, R2, U2, D2, M2, hx2, hm3⟩ := q54
      refine mu_il_4 B dX1_change_57 ?_
      refine mu_iret E rfl (by decide) (by decide) dX1_change_59 ?_
      exact ⟨rfl, (hF.mono (fun e j hh => Or.inr (Or.inl hh))).trans (hF3.mono (fun e j hh => hh.elim Or.inl (fun h9 => Or.inr (Or.inr h9)))), hb2.fi hF3 (fun j hh => by rcases hh with hh | hh <;> omega), L2, R2, U2, D2, M2, hx2, hm3⟩

set_option maxHeartbeats 4000000 in
set_option maxRecDepth 100000 in
theorem c_X1_clear (G : mu_G) {w : mu_W} {a : Nat} (ho : CFo w a) : mu_Ct G M_X1_clear [.ref a] w (cle_post w a) := by
  obtain ⟨ka, r0, k1, r1, k2⟩ := id ho
  refine mu_ofWA G M_X1_clear [.ref a] (by decide) rfl (Nat.le_of_ble_eq_true rfl) ?_
  intro X E
  have B : mu_B X G cX1_clear RX1 1 (mu_rm M_X1_clear) := E.1
  show mu_WA X G 1 _ _ 0 0 0 _ []
  refine mu_al_0 B dX1_clear_0 ?_
  refine mu_getR B dX1_clear_1 fX1_9 rfl (by assumption) (by assumption) ?_
  refine mu_lconst (v := mL 0) B dX1_clear_4 rfl ?_
  refine mu_cS2 B dX1_clear_5 mX1_27 ⟨⟨by decide, by decide⟩, by decide, by decide⟩ (Nat.le_of_ble_eq_true rfl) (c_J7_fillL G (N := 1024) (by exact k1) (by decide)) (fun r5 w5 q5 => ?_)
  obtain ⟨rfl, hF, hz⟩ := q5
  have ho2 := ho.fi hF
  have ka2 := ho2.1
  have hb2 : CFb (mu_si w5 a 4 (mI 0)) a (fun _ _ => 0) := ⟨fun _ _ => Nat.zero_le _, fun x y hx hy => by rw [show mu_lg (mu_si w5 a 4 (mI 0)) (a + 1) (4 * y + x / 64) = mu_lg w5 (a + 1) (4 * y + x / 64) from rfl, hz _ (by omega), show mL 0 = 0 from rfl, lb_0]; rfl⟩
  refine mu_al_0 B dX1_clear_8 ?_
  refine mu_iconst (v := mI 0) B dX1_clear_9 rfl ?_
  refine mu_putI B dX1_clear_10 fX1_33 fwX1_4 rfl (by assumption) ?_
  refine mu_al_0 B dX1_clear_13 ?_
  refine mu_iconst (v := mI 0) B dX1_clear_14 rfl ?_
  refine mu_iconst (v := mI 0) B dX1_clear_15 rfl ?_
  refine mu_cV2 B dX1_clear_16 mX1_36 ⟨⟨by decide, by decide⟩, by decide, by decide⟩ (Nat.le_of_ble_eq_true rfl) (by assumption) (c_X1_measure G (p := 0) (q := 0) (ho2.fi ((mu_Fi.refl (S := fun _ _ => True) _).si trivial)) hb2 (by decide) (by decide) (fun i j h1 h2 h3 => absurd h3 (by decide))) (fun r16 w16 q16 => ?_)
  obtain ⟨rfl, hF3, L2, R2, U2, D2, M2, hx2, hm3⟩ := q16
  obtain ⟨rfl, rfl, rfl, rfl, rfl⟩ := hx2.mt (fun _ _ _ _ => rfl)
  refine mu_vret E rfl (by decide) (by decide) dX1_clear_19 ?_
  exact ⟨rfl, ((hF.mono (fun e j hh => Or.inr (Or.inl hh))).si (Or.inl ⟨rfl, by decide, by decide⟩)).trans (hF3.mono (fun e j hh => hh.elim (fun h9 => Or.inl ⟨h9.1, by omega, h9.2.2⟩) (fun h9 => Or.inr (Or.inr h9)))), hb2.fi hF3 (fun j hh => by rcases hh with hh | hh <;> omega), hx2, hm3, hF3.iv (fun hh => by rcases hh with hh | hh <;> omega) (mu_iv_same _ _ _ _)⟩

set_option maxHeartbeats 4000000 in
set_option maxRecDepth 100000 in
theorem c_X1_begin (G : mu_G) {w : mu_W} {a b : Nat} (ho : CFo w a) {x : Int32} : mu_Ct G M_X1_begin [.ref a, .ref b, .int x] w (fun r w' => cle_post (mu_si (mu_sr w a 2 (some b)) a 3 x) a r w') := by
  obtain ⟨ka, r0, k1, r1, k2⟩ := id ho
  have ho2 : CFo (mu_si (mu_sr w a 2 (some b)) a 3 x) a := ⟨ka, by rw [show mu_rv (mu_si (mu_sr w a 2 (some b)) a 3 x) a 0 = mu_rv (mu_sr w a 2 (some b)) a 0 from rfl, mu_rv_sr, if_neg (by omega)]; exact r0, k1, by rw [show mu_rv (mu_si (mu_sr w a 2 (some b)) a 3 x) a 1 = mu_rv (mu_sr w a 2 (some b)) a 1 from rfl, mu_rv_sr, if_neg (by omega)]; exact r1, k2⟩
  refine mu_ofWA G M_X1_begin [.ref a, .ref b, .int x] (by decide) rfl (Nat.le_of_ble_eq_true rfl) ?_
  intro X E
  have B : mu_B X G cX1_begin RX1 3 (mu_rm M_X1_begin) := E.1
  show mu_WA X G 3 _ _ 0 0 0 _ []
  refine mu_al_0 B dX1_begin_0 ?_
  refine mu_al_1 B dX1_begin_1 ?_
  refine mu_putR B dX1_begin_2 fX1_16 fwX1_2 rfl rfl (by assumption) ?_
  refine mu_al_0 B dX1_begin_5 ?_
  refine mu_il_2 B dX1_begin_6 ?_
  refine mu_putI B dX1_begin_7 fX1_20 fwX1_3 rfl (by assumption) ?_
  refine mu_al_0 B dX1_begin_10 ?_
  refine mu_cV0 B dX1_begin_11 mX1_24 ⟨⟨by decide, by decide⟩, by decide, by decide⟩ (Nat.le_of_ble_eq_true rfl) (by assumption) (c_X1_clear G ho2) (fun r11 w11 q11 => ?_)
  obtain ⟨rfl, g⟩ := q11
  refine mu_vret E rfl (by decide) (by decide) dX1_begin_14 ?_
  exact ⟨rfl, g⟩

set_option maxHeartbeats 4000000 in
set_option maxRecDepth 100000 in
theorem c_X1_age (G : mu_G) {w : mu_W} {a : Nat} (ho : CFo w a) {x : Int32} : mu_Ct G M_X1_age [.ref a, .int x] w (fun r w' => r = some (.int (mu_iv w a 4 + x)) ∧ w' = mu_si w a 4 (mu_iv w a 4 + x)) := by
  obtain ⟨ka, r0, k1, r1, k2⟩ := id ho
  refine mu_ofWA G M_X1_age [.ref a, .int x] (by decide) rfl (Nat.le_of_ble_eq_true rfl) ?_
  intro X E
  have B : mu_B X G cX1_age RX1 2 (mu_rm M_X1_age) := E.1
  show mu_WA X G 2 _ _ 0 0 0 _ []
  refine mu_al_0 B dX1_age_0 ?_
  refine mu_dup B dX1_age_1 rfl ?_
  refine mu_getI B dX1_age_2 fX1_33 rfl (by assumption) ?_
  refine mu_il_1 B dX1_age_5 ?_
  refine mu_iadd B dX1_age_6 ?_
  refine mu_putI B dX1_age_7 fX1_33 fwX1_4 rfl (by assumption) ?_
  refine mu_al_0 B dX1_age_10 ?_
  refine mu_getI B dX1_age_11 fX1_33 rfl (by assumption) ?_
  rw [mu_iv_same]
  refine mu_iret E rfl (by decide) (by decide) dX1_age_14 ?_
  exact ⟨rfl, rfl⟩

set_option maxHeartbeats 4000000 in
set_option maxRecDepth 100000 in
theorem c_X1_lastAliveOf (G : mu_G) {w : mu_W} {a : Nat} (ho : CFo w a) {c : Nat → Nat → Nat} (hb : CFb w a c) {y : Nat} (hy : y < 256) : mu_Ct G M_X1_lastAliveOf [.ref a, .int (mI y)] w (fun r w' => ((∃ x, x < 256 ∧ c x y = 1 ∧ (∀ j, x < j → j < 256 → c j y = 0) ∧ r = some (.int (mI (x : Nat)))) ∨ ((∀ x, x < 256 → c x y = 0) ∧ r = some (.int (mI (-1))))) ∧ w' = w) := by
  obtain ⟨ka, r0, k1, r1, k2⟩ := id ho
  refine mu_ofWA G M_X1_lastAliveOf [.ref a, .int (mI y)] (by decide) rfl (Nat.le_of_ble_eq_true rfl) ?_
  intro X E
  have B : mu_B X G cX1_lastAliveOf RX1 2 (mu_rm M_X1_lastAliveOf) := E.1
  show mu_WA X G 2 _ _ 0 0 0 _ []
  refine mu_al_0 B dX1_lastAliveOf_0 ?_
  refine mu_getR B dX1_lastAliveOf_1 fX1_9 rfl (by assumption) (by assumption) ?_
  refine mu_il_1 B dX1_lastAliveOf_4 ?_
  refine mu_iconst (v := mI 4) B dX1_lastAliveOf_5 rfl ?_
  refine mu_imul B dX1_lastAliveOf_6 ?_
  try rw [mI_mul]
  rw [show (y : Int) * 4 = ((4 * y : Nat) : Int) by omega]
  refine mu_cS2 B dX1_lastAliveOf_7 mX1_95 ⟨⟨by decide, by decide⟩, by decide, by decide⟩ (Nat.le_of_ble_eq_true rfl) (c_X1_highestOf G k1 (by omega) (by decide)) (fun r7 w7 q7 => ?_)
  obtain ⟨rfl, hq7⟩ := q7
  obtain ⟨z, rfl⟩ : ∃ z, r7 = some (.int z) := by rcases hq7 with ⟨x, _, _, _, h⟩ | ⟨_, h⟩ <;> exact ⟨_, h⟩
  show mu_WA X G 2 _ _ 0 0 10 _ [.int z]
  refine mu_iret E rfl (by decide) (by decide) dX1_lastAliveOf_10 ?_
  refine ⟨?_, rfl⟩
  rcases hq7 with ⟨x, hx, hx1, hx2, h9⟩ | ⟨hno, h9⟩
  · refine Or.inl ⟨x, hx, of_decide_eq_true ((hb.2 x y hx hy).symm.trans hx1), fun j h1 h2 => ?_, h9⟩
    have h3 := of_decide_eq_false ((hb.2 j y h2 hy).symm.trans (hx2 j h1 h2))
    have h4 := hb.1 j y
    omega
  · refine Or.inr ⟨fun x hx => ?_, h9⟩
    have h3 := of_decide_eq_false ((hb.2 x y hx hy).symm.trans (hno x hx))
    have h4 := hb.1 x y
    omega
