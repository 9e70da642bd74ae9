/-! ===== the stepper: a step ===== -/
def E3 (b e0 e1 e2 : Nat) : Prop := (b < e0 ∧ e0 ≤ b + 3) ∧ (b < e1 ∧ e1 ≤ b + 3) ∧ (b < e2 ∧ e2 ≤ b + 3) ∧ e0 ≠ e1 ∧ e1 ≠ e2 ∧ e0 ≠ e2
def CSr (w : mu_W) (b e0 e1 e2 : Nat) : Prop := E3 b e0 e1 e2 ∧ mu_kd w b = some (9, 0) ∧ mu_rv w b 0 = some e0 ∧ mu_rv w b 1 = some e1 ∧ mu_rv w b 2 = some e2
def CSt (w : mu_W) (b : Nat) : Prop := ∃ e0 e1 e2, CSr w b e0 e1 e2 ∧ RW0 w e0 ∧ RW0 w e1 ∧ RW0 w e2
def RUx (w : mu_W) (rr nb bo st : Nat) : Prop := mu_kd w rr = some (4, 0) ∧ mu_iv w rr 1 = mI nb ∧ mu_iv w rr 2 = mI bo ∧ mu_iv w rr 3 = mI st
def sS (a b : Nat) : Nat → Nat → Prop := fun e j => (e = a ∧ 5 ≤ j ∧ j ≤ 9) ∨ e = a + 1 ∨ e = a + 2 ∨ (b ≤ e ∧ e ≤ b + 3)
theorem CSr.fi {S : Nat → Nat → Prop} {w w' : mu_W} {b e0 e1 e2 : Nat} (h : CSr w b e0 e1 e2) (hF : mu_Fi S w w') : CSr w' b e0 e1 e2 := ⟨h.1, hF.kd h.2.1, hF.rv h.2.2.1, hF.rv h.2.2.2.1, hF.rv h.2.2.2.2⟩
theorem RUx.fi {S : Nat → Nat → Prop} {w w' : mu_W} {rr nb bo st : Nat} (h : RUx w rr nb bo st) (hF : mu_Fi S w w') (hn : ∀ j, ¬ S rr j) : RUx w' rr nb bo st := ⟨hF.kd h.1, hF.iv (hn 1) h.2.1, hF.iv (hn 2) h.2.2.1, hF.iv (hn 3) h.2.2.2⟩
theorem RUx.fr {S : Nat → Nat → Prop} {w w' : mu_W} {rr nb bo st : Nat} (h : RUx w rr nb bo st) (hF : mu_Fr S w w') (hn : ∀ j, ¬ S rr j) : RUx w' rr nb bo st := ⟨hF.kd h.1, hF.iv (hn 1) h.2.1, hF.iv (hn 2) h.2.2.1, hF.iv (hn 3) h.2.2.2⟩
theorem CFo.fr {S : Nat → Nat → Prop} {w w' : mu_W} {a : Nat} (h : CFo w a) (hF : mu_Fr S w w') (h0 : ¬ S a 0) (h1 : ¬ S a 1) : CFo w' a := ⟨hF.kd h.1, hF.rv h0 h.2.1, hF.kd h.2.2.1, hF.rv h1 h.2.2.2.1, hF.kd h.2.2.2.2⟩
theorem CFb.fr {S : Nat → Nat → Prop} {w w' : mu_W} {a : Nat} {c : Nat → Nat → Nat} (h : CFb w a c) (hF : mu_Fr S w w') (hn : ∀ j, ¬ S (a + 1) j) : CFb w' a c := ⟨h.1, fun x y hx hy => by rw [hF.lg (hn _) rfl]; exact h.2 x y hx hy⟩
theorem CFm.fr {S : Nat → Nat → Prop} {w w' : mu_W} {a : Nat} {L R U D : Int} {M : Nat} (h : CFm w a L R U D M) (hF : mu_Fr S w w') (hn : ∀ j, 5 ≤ j → j ≤ 9 → ¬ S a j) : CFm w' a L R U D M := ⟨hF.iv (hn 5 (by decide) (by decide)) h.1, hF.iv (hn 6 (by decide) (by decide)) h.2.1, hF.iv (hn 7 (by decide) (by decide)) h.2.2.1, hF.iv (hn 8 (by decide) (by decide)) h.2.2.2.1, hF.iv (hn 9 (by decide) (by decide)) h.2.2.2.2⟩
theorem CFb.ext {w : mu_W} {a : Nat} {c d : Nat → Nat → Nat} (h : CFb w a c) (hd : ∀ i j, d i j ≤ 1) (he : ∀ i j, i < 256 → j < 256 → c i j = d i j) : CFb w a d := ⟨hd, fun x y hx hy => by rw [h.2 x y hx hy, he x y hx hy]⟩
theorem CMx.zero {c : Nat → Nat → Nat} (h : ∀ i j, i < 256 → j < 256 → c i j = 0) : CMx c 0 0 0 0 0 := by
  have h1 := cntR_same (c := c) (y := 0) 256 (fun i j hi _ hj => h i j hi (by omega))
  refine Or.inl ⟨rfl, rfl, rfl, rfl, rfl, ?_, fun i j hi hj hc => ?_, fun _ => ⟨rfl, rfl, rfl, rfl⟩, fun e => absurd rfl e⟩
  · rw [Nat.zero_add] at h1; rw [h1]; rfl
  · rw [h i j hi (by omega)] at hc; cases hc
theorem CMx.M0 {c : Nat → Nat → Nat} (hc : ∀ i j, c i j ≤ 1) {L R U D : Int} (h : CMx c L R U D 0) {i j : Nat} (hi : i < 256) (hj : j < 256) : c i j = 0 := by
  have h1 := hc i j
  by_cases e : c i j = 1
  · exact absurd rfl (h.al hi hj e).1
  · omega
theorem CMx.box {c : Nat → Nat → Nat} {L R U D : Int} {M : Nat} (h : CMx c L R U D M) (hM : M ≠ 0) : (0 ≤ L ∧ L ≤ R ∧ R < 256) ∧ (0 ≤ U ∧ U ≤ D ∧ D < 256) := by
  rcases h with ⟨h1, _⟩ | ⟨_, h1⟩
  · exact absurd h1 hM
  · exact lkp_bd h1 hM
theorem stp_dead {c : Nat → Nat → Nat} (hc : ∀ i j, c i j ≤ 1) {nb bo st : Nat} (hbo : bo % 2 = 0) (h0 : ∀ i j, i < 256 → j < 256 → c i j = 0) {i j : Nat} (hi : i < 256) (hj : j < 256) : sp_stp nb bo st c i j = 0 := by
  unfold sp_stp
  rw [if_pos ⟨hi, hj⟩]
  exact sp_af_out hc hbo (L := 1000) (R := 1000) (U := 0) (D := 0) (fun i j a1 a2 a3 => by rw [h0 i j a1 a2] at a3; cases a3) (Or.inl (by omega))
theorem stp_rows {c : Nat → Nat → Nat} (hc : ∀ i j, c i j ≤ 1) {nb bo st : Nat} (hbo : bo % 2 = 0) {L R U D : Int} {M : Nat} (hx : CMx c L R U D M) {y0 y1 : Nat} (h3 : (y0 : Int) = 0 ∨ (y0 : Int) + 1 = U) (h4 : (y1 : Int) = 255 ∨ (y1 : Int) = D + 1) (i j : Nat) (hi : i < 256) (hj : j < 256) (h1 : sp_stp nb bo st c i j = 1) : y0 ≤ j ∧ j ≤ y1 := by
  by_cases h : (j : Int) + 1 < U ∨ D + 1 < (j : Int)
  · exfalso
    unfold sp_stp at h1
    rw [if_pos ⟨hi, hj⟩, sp_af_out hc hbo (L := L) (R := R) (U := U) (D := D) (fun i j a1 a2 a3 => (hx.al a1 a2 a3).2) (Or.inr (Or.inr h))] at h1
    cases h1
  · omega
theorem mx0 {U : Int} (h : 0 ≤ U ∧ U < 256) : ∃ y0 : Nat, ((y0 : Int) = 0 ∨ (y0 : Int) + 1 = U) ∧ (y0 : Int) ≤ U ∧ (if mI (U - 1) < mI 0 then mI 0 else mI (U - 1)) = mI (y0 : Int) := by
  by_cases e : U = 0
  · refine ⟨0, Or.inl rfl, by omega, ?_⟩
    rw [if_pos (by rw [mI_lt ⟨by omega, by omega⟩ ⟨by omega, by omega⟩]; omega)]; rfl
  · refine ⟨(U - 1).toNat, Or.inr (by omega), by omega, ?_⟩
    rw [if_neg (by rw [mI_lt ⟨by omega, by omega⟩ ⟨by omega, by omega⟩]; omega), show (((U - 1).toNat : Nat) : Int) = U - 1 by omega]
theorem mn255 {D : Int} (h : 0 ≤ D ∧ D < 256) : ∃ y1 : Nat, ((y1 : Int) = 255 ∨ (y1 : Int) = D + 1) ∧ (D ≤ (y1 : Int) ∧ y1 < 256) ∧ (if mI 255 < mI (D + 1) then mI 255 else mI (D + 1)) = mI (y1 : Int) := by
  by_cases e : D = 255
  · refine ⟨255, Or.inl rfl, ⟨by omega, by omega⟩, ?_⟩
    rw [if_pos (by rw [mI_lt ⟨by omega, by omega⟩ ⟨by omega, by omega⟩]; omega)]; rfl
  · refine ⟨(D + 1).toNat, Or.inr (by omega), ⟨by omega, by omega⟩, ?_⟩
    rw [if_neg (by rw [mI_lt ⟨by omega, by omega⟩ ⟨by omega, by omega⟩]; omega), show (((D + 1).toNat : Nat) : Int) = D + 1 by omega]
theorem RWx.below {w : mu_W} {e : Nat} {c d : Nat → Nat → Nat} {f0 f1 y0 y : Nat} {z : Int} (h : RWx w e (mxw c d f0 f1 y0 y f0) z) (hz : (y : Int) ≤ z) : RWx w e c z := ⟨h.1, fun k hk => mxw_below hz (h.2 k hk)⟩
def stp_post (w : mu_W) (a b nb bo st : Nat) (c : Nat → Nat → Nat) (r : Option Value) (w' : mu_W) : Prop := r = none ∧ mu_Fr (sS a b) w w' ∧ CSt w' b ∧ CFb w' a (sp_stp nb bo st c) ∧ ∃ L R U D M, CMx (sp_stp nb bo st c) L R U D M ∧ CFm w' a L R U D M
/-- a row of the step begins -/
def SL (w : mu_W) (a b rr nb bo st : Nat) (c : Nat → Nat → Nat) (y0 f0 f1 y : Nat) (s : mu_W) : Prop := y0 ≤ y ∧ mu_Fr (sS a b) w s ∧ ∃ e0 e1 e2, CSr s b e0 e1 e2 ∧ RWx s e0 c ((y : Int) - 1) ∧ RWx s e1 c y ∧ RW0 s e2 ∧ CFb s a (mxw c (sp_stp nb bo st c) f0 f1 y0 y f0)
/-- a word of the row -/
def SK (w : mu_W) (a b rr nb bo st : Nat) (c : Nat → Nat → Nat) (y0 f0 f1 y e0 e1 e2 k : Nat) (t : mu_W) : Prop := f0 ≤ k ∧ mu_Fr (sS a b) w t ∧ CSr t b e0 e1 e2 ∧ RWx t e0 c ((y : Int) - 1) ∧ RWx t e1 c y ∧ RWx t e2 c ((y : Int) + 1) ∧ CFb t a (mxw c (sp_stp nb bo st c) f0 f1 y0 y k)

theorem sS0 {a b : Nat} (hab : a + 2 < b ∨ b + 3 < a) {j : Nat} (hj : j < 5) : ¬ sS a b a j := fun hh => by
  unfold sS at hh
  omega

set_option maxHeartbeats 4000000 in
set_option maxRecDepth 100000 in
theorem c_X9_step (G : mu_G) {w : mu_W} {a : Nat} (ho : CFo w a) {c : Nat → Nat → Nat} (hb : CFb w a c) {L R U D : Int} {M : Nat} (hm : CFm w a L R U D M) (hx : CMx c L R U D M) {b : Nat} (hS : CSt w b) (hab : a + 2 < b ∨ b + 3 < a) {rr nb bo st : Nat} (hrr : mu_rv w a 2 = some rr) (hR : RUx w rr nb bo st) (hnb : nb = 4 ∨ nb = 6 ∨ nb = 8) (hbo : bo % 2 = 0) (hbo2 : bo ≤ 1000000) (hst : st ≤ 1000000) : mu_Ct G M_X9_step [.ref b, .ref a] w (stp_post w a b nb bo st c) := by
  obtain ⟨ka, r0, k1, r1, k2⟩ := id ho
  obtain ⟨_, _, _, _, _, _, _, _, b9⟩ := hx.bd hb.1
  have hrS : ∀ j, ¬ sS a b rr j := by
    obtain ⟨f0, f1, f2, hC9, k0, k4, k5⟩ := id hS
    obtain ⟨⟨⟨q1, q2⟩, ⟨q3, q4⟩, ⟨q5, q6⟩, q7, q8, q9⟩, kb, _⟩ := hC9
    intro j hh
    have hk4 := hR.1
    rcases hh with hh | hh | hh | hh
    · rw [hh.1, ka] at hk4; cases hk4
    · rw [hh, k1] at hk4; cases hk4
    · rw [hh, k2] at hk4; cases hk4
    · rcases (show rr = b ∨ rr = f0 ∨ rr = f1 ∨ rr = f2 by omega) with e | e | e | e
      · rw [e, kb] at hk4; cases hk4
      · rw [e, k0.1] at hk4; cases hk4
      · rw [e, k4.1] at hk4; cases hk4
      · rw [e, k5.1] at hk4; cases hk4
  refine mu_ofWA G M_X9_step [.ref b, .ref a, mu_no, mu_no, mu_no, mu_no, mu_no, mu_no, mu_no] (by decide) rfl (Nat.le_of_ble_eq_true rfl) ?_
  intro X E
  have B : mu_B X G cX9_step RX9 9 (mu_rm M_X9_step) := E.1
  show mu_WA X G 9 _ _ 0 0 0 _ []
  refine mu_al_1 B dX9_step_0 ?_
  refine mu_getRN B dX9_step_1 fX9_21 rfl (by assumption) (by assumption) ?_
  refine mu_as_2 B dX9_step_4 (by decide) rfl ?_
  refine mu_al_1 B dX9_step_5 ?_
  refine mu_getIN B dX9_step_6 fX9_25 rfl (by assumption) ?_
  rw [hm.1]
  refine mu_if_eq (tgt := 16) B dX9_step_9 (by decide) (fun c9 => ?_) (fun c9 => ?_)
  · try rw [mI_eq0 ⟨by omega, by omega⟩] at c9
    refine mu_vret E rfl (by decide) (by decide) dX9_step_16 ?_
    obtain rfl : M = 0 := by omega
    have hz := fun i j (hi : i < 256) (hj : j < 256) => hx.M0 hb.1 hi hj
    obtain ⟨_, rfl, rfl, rfl, rfl⟩ := hx.mt hz
    exact ⟨rfl, mu_Fr.refl _, hS, hb.ext sp_stp_le (fun i j hi hj => by rw [hz i j hi hj, stp_dead hb.1 hbo hz hi hj]), 0, 0, 0, 0, 0, CMx.zero (fun i j hi hj => stp_dead hb.1 hbo hz hi hj), hm⟩
  · try rw [mI_eq0 ⟨by omega, by omega⟩] at c9
    have hM0 : M ≠ 0 := by omega
    obtain ⟨⟨z1, z2, z3⟩, z4, z5, z6⟩ := hx.box hM0
    obtain ⟨y0, g3, g5, e24⟩ := mx0 (U := U) ⟨by omega, by omega⟩
    obtain ⟨y1, g4, g6, e37⟩ := mn255 (D := D) ⟨by omega, by omega⟩
    obtain ⟨x0, g1, g7, e49⟩ := mx0 (U := L) ⟨by omega, by omega⟩
    obtain ⟨x1, g2, g8, e66⟩ := mn255 (D := R) ⟨by omega, by omega⟩
    obtain ⟨e0, e1, e2, hC, hr0, hr1, hr2⟩ := hS
    obtain ⟨hE, kb, v0, v1, v2⟩ := id hC
    obtain ⟨⟨q1, q2⟩, ⟨q3, q4⟩, ⟨q5, q6⟩, q7, q8, q9⟩ := id hE
    refine mu_al_2 B dX9_step_12 ?_
    refine mu_ifnonnull (tgt := 17) B dX9_step_13 (by decide) ?_
    refine mu_al_1 B dX9_step_17 ?_
    refine mu_getIN B dX9_step_18 fX9_29 rfl (by assumption) ?_
    rw [hm.2.2.1]
    refine mu_iconst (v := mI 1) B dX9_step_21 rfl ?_
    refine mu_isub B dX9_step_22 ?_
    try rw [mI_sub]
    refine mu_iconst (v := mI 0) B dX9_step_23 rfl ?_
    refine mu_mmax B dX9_step_24 mlX9_32 ⟨by decide, by decide⟩ (Nat.le_of_ble_eq_true rfl) ⟨by decide, by decide⟩ ?_
    rw [e24]
    refine mu_is_3 B dX9_step_27 (by decide) rfl ?_
    refine mu_al_1 B dX9_step_28 ?_
    refine mu_getIN B dX9_step_29 fX9_38 rfl (by assumption) ?_
    rw [hm.2.2.2.2]
    refine mu_iconst (v := mI 1) B dX9_step_32 rfl ?_
    refine mu_iadd B dX9_step_33 ?_
    try rw [mI_add]
    refine mu_sipush (v := mI 255) B dX9_step_34 (by decide) ?_
    refine mu_mmin B dX9_step_37 mlX9_41 ⟨by decide, by decide⟩ (Nat.le_of_ble_eq_true rfl) ⟨by decide, by decide⟩ ?_
    rw [e37]
    refine mu_is_4 B dX9_step_40 (by decide) rfl ?_
    refine mu_al_1 B dX9_step_42 ?_
    refine mu_getIN B dX9_step_43 fX9_44 rfl (by assumption) ?_
    rw [hm.2.1]
    refine mu_iconst (v := mI 1) B dX9_step_46 rfl ?_
    refine mu_isub B dX9_step_47 ?_
    try rw [mI_sub]
    refine mu_iconst (v := mI 0) B dX9_step_48 rfl ?_
    refine mu_mmax B dX9_step_49 mlX9_32 ⟨by decide, by decide⟩ (Nat.le_of_ble_eq_true rfl) ⟨by decide, by decide⟩ ?_
    rw [e49]
    refine mu_bipush (v := mI 6) B dX9_step_52 (by decide) ?_
    refine mu_ishr B dX9_step_54 ?_
    rw [mI_shr6 ⟨by omega, by omega⟩, show (x0 : Int) / 64 = ((x0 / 64 : Nat) : Int) by omega]
    refine mu_is_5 B dX9_step_55 (by decide) rfl ?_
    refine mu_al_1 B dX9_step_57 ?_
    refine mu_getIN B dX9_step_58 fX9_47 rfl (by assumption) ?_
    rw [hm.2.2.2.1]
    refine mu_iconst (v := mI 1) B dX9_step_61 rfl ?_
    refine mu_iadd B dX9_step_62 ?_
    try rw [mI_add]
    refine mu_sipush (v := mI 255) B dX9_step_63 (by decide) ?_
    refine mu_mmin B dX9_step_66 mlX9_41 ⟨by decide, by decide⟩ (Nat.le_of_ble_eq_true rfl) ⟨by decide, by decide⟩ ?_
    rw [e66]
    refine mu_bipush (v := mI 6) B dX9_step_69 (by decide) ?_
    refine mu_ishr B dX9_step_71 ?_
    rw [mI_shr6 ⟨by omega, by omega⟩, show (x1 : Int) / 64 = ((x1 / 64 : Nat) : Int) by omega]
    refine mu_is_6 B dX9_step_72 (by decide) rfl ?_
    refine mu_al_1 B dX9_step_74 ?_
    refine mu_il_3 B dX9_step_75 ?_
    refine mu_iconst (v := mI 1) B dX9_step_76 rfl ?_
    refine mu_isub B dX9_step_77 ?_
    try rw [mI_sub]
    refine mu_al_0 B dX9_step_78 ?_
    refine mu_getR B dX9_step_79 fX9_9 rfl (by assumption) (by assumption) ?_
    refine mu_cS3 B dX9_step_82 mX9_50 ⟨⟨by decide, by decide⟩, by decide, by decide⟩ (Nat.le_of_ble_eq_true rfl) (c_X9_load G ho hb (e := e0) (by omega) hr0 (y := (y0 : Int) - 1) ⟨by omega, by omega⟩) (fun r82 w82 q82 => ?_)
    obtain ⟨rfl, hF1, hs0⟩ := q82
    have ho1 := ho.fi hF1
    have hb1 := hb.fi hF1 (fun j hh => by omega)
    have hC1 := hC.fi hF1
    obtain ⟨_, kb1, w0, w1, w2⟩ := id hC1
    refine mu_al_1 B dX9_step_85 ?_
    refine mu_il_3 B dX9_step_86 ?_
    refine mu_al_0 B dX9_step_87 ?_
    refine mu_getR B dX9_step_88 fX9_15 rfl (by assumption) (by assumption) ?_
    refine mu_cS3 B dX9_step_91 mX9_50 ⟨⟨by decide, by decide⟩, by decide, by decide⟩ (Nat.le_of_ble_eq_true rfl) (c_X9_load G ho1 hb1 (e := e1) (by omega) (hr1.fi hF1 (fun j hh => by omega)) (y := (y0 : Int)) ⟨by omega, by omega⟩) (fun r91 w91 q91 => ?_)
    obtain ⟨rfl, hF2, hs1⟩ := q91
    refine mu_il_3 B dX9_step_94 ?_
    refine mu_is_7 B dX9_step_95 (by decide) rfl ?_
    have LY : ∀ y (s : mu_W), y ≤ y1 + 1 → (SL w a b rr nb bo st c y0 (x0 / 64) (x1 / 64) y s) → mu_WA X G 9 (mu_Q X G M_X9_step (stp_post w a b nb bo st c)) s 0 0 97 [.ref b, .ref a, .ref rr, .int (mI y0), .int (mI y1), .int (mI ((x0 / 64 : Nat) : Int)), .int (mI ((x1 / 64 : Nat) : Int)), .int (mI y), mu_no] [] := by
      refine mu_ind (y1 + 1) (fun y (s : mu_W) => mu_WA X G 9 (mu_Q X G M_X9_step (stp_post w a b nb bo st c)) s 0 0 97 [.ref b, .ref a, .ref rr, .int (mI y0), .int (mI y1), .int (mI ((x0 / 64 : Nat) : Int)), .int (mI ((x1 / 64 : Nat) : Int)), .int (mI y), mu_no] []) (fun y (s : mu_W) => SL w a b rr nb bo st c y0 (x0 / 64) (x1 / 64) y s) ?_
      intro y s hy ⟨hy0, hF, e0, e1, e2, hC, hr0, hr1, hr2, hbs⟩ ih
      obtain ⟨hE, kb, v0, v1, v2⟩ := id hC
      obtain ⟨⟨q1, q2⟩, ⟨q3, q4⟩, ⟨q5, q6⟩, q7, q8, q9⟩ := id hE
      have hos := ho.fr hF (sS0 hab (by decide)) (sS0 hab (by decide))
      refine mu_il_7 B dX9_step_97 ?_
      refine mu_il_4 B dX9_step_99 ?_
      refine mu_icmp_gt (tgt := 184) B dX9_step_101 (by decide) (fun c101 => ?_) (fun c101 => ?_)
      · try rw [mI_lt ⟨by omega, by omega⟩ ⟨by omega, by omega⟩] at c101
        try rw [mI_lt ⟨by omega, by omega⟩ ⟨by omega, by omega⟩] at c101
        obtain rfl : y1 + 1 = y := by omega
        have hbd := hbs.ext (d := sp_stp nb bo st c) sp_stp_le (fun i j hi hj => mxw_end hb.1 hbo hx g1 g2 g3 g4 hi hj)
        refine mu_al_1 B dX9_step_184 ?_
        refine mu_il_3 B dX9_step_185 ?_
        refine mu_il_4 B dX9_step_186 ?_
        refine mu_cV2 B dX9_step_188 mX9_62 ⟨⟨by decide, by decide⟩, by decide, by decide⟩ (Nat.le_of_ble_eq_true rfl) hos.1 (c_X1_measure G hos hbd (p := y0) (q := y1) (by omega) (by omega) (stp_rows hb.1 hbo hx g3 g4)) (fun r188 w188 q188 => ?_)
        obtain ⟨rfl, hF3, L2, R2, U2, D2, M2, hx2, hm2⟩ := q188
        refine mu_vret E rfl (by decide) (by decide) dX9_step_191 ?_
        have nM : ∀ q, b < q → q ≤ b + 3 → ∀ j, ¬ meS a q j := fun q h1 h2 j hh => by rcases hh with hh | hh <;> omega
        exact ⟨rfl, hF.trans (hF3.fr.mono (fun e j hh => hh.elim Or.inl (fun h9 => Or.inr (Or.inr (Or.inl h9))))), ⟨e0, e1, e2, hC.fi hF3, hr0.z.fi hF3 (nM _ q1 q2), hr1.z.fi hF3 (nM _ q3 q4), hr2.fi hF3 (nM _ q5 q6)⟩, hbd.fi hF3 (fun j hh => by rcases hh with hh | hh <;> omega), L2, R2, U2, D2, M2, hx2, hm2⟩
      · try rw [mI_lt ⟨by omega, by omega⟩ ⟨by omega, by omega⟩] at c101
        refine mu_al_1 B dX9_step_104 ?_
        refine mu_il_7 B dX9_step_105 ?_
        refine mu_iconst (v := mI 1) B dX9_step_107 rfl ?_
        refine mu_iadd B dX9_step_108 ?_
        try rw [mI_add]
        refine mu_al_0 B dX9_step_109 ?_
        refine mu_getR B dX9_step_110 fX9_18 rfl (by assumption) (by assumption) ?_
        refine mu_cS3 B dX9_step_113 mX9_50 ⟨⟨by decide, by decide⟩, by decide, by decide⟩ (Nat.le_of_ble_eq_true rfl) (c_X9_load G hos hbs (e := e2) (by omega) hr2 (y := (y : Int) + 1) ⟨by omega, by omega⟩) (fun r113 w113 q113 => ?_)
        obtain ⟨rfl, hF1, hr3⟩ := q113
        have hr4 := hr3.below (by omega)
        refine mu_il_5 B dX9_step_116 ?_
        refine mu_is_8 B dX9_step_118 (by decide) rfl ?_
        have LK : ∀ k (t : mu_W), k ≤ x1 / 64 + 1 → (SK w a b rr nb bo st c y0 (x0 / 64) (x1 / 64) y e0 e1 e2 k t) → mu_WA X G 9 (mu_Q X G M_X9_step (stp_post w a b nb bo st c)) t 0 0 120 [.ref b, .ref a, .ref rr, .int (mI y0), .int (mI y1), .int (mI ((x0 / 64 : Nat) : Int)), .int (mI ((x1 / 64 : Nat) : Int)), .int (mI y), .int (mI k)] [] := by
          refine mu_ind (x1 / 64 + 1) (fun k (t : mu_W) => mu_WA X G 9 (mu_Q X G M_X9_step (stp_post w a b nb bo st c)) t 0 0 120 [.ref b, .ref a, .ref rr, .int (mI y0), .int (mI y1), .int (mI ((x0 / 64 : Nat) : Int)), .int (mI ((x1 / 64 : Nat) : Int)), .int (mI y), .int (mI k)] []) (fun k (t : mu_W) => SK w a b rr nb bo st c y0 (x0 / 64) (x1 / 64) y e0 e1 e2 k t) ?_
          intro k t hk ⟨hk0, hFt, hC, hr0, hr1, hr2, hb2⟩ ihk
          obtain ⟨hE, kb, v0, v1, v2⟩ := id hC
          obtain ⟨⟨q1, q2⟩, ⟨q3, q4⟩, ⟨q5, q6⟩, q7, q8, q9⟩ := id hE
          have hot := ho.fr hFt (sS0 hab (by decide)) (sS0 hab (by decide))
          have hRt := hR.fr hFt hrS
          refine mu_il_8 B dX9_step_120 ?_
          refine mu_il_6 B dX9_step_122 ?_
          refine mu_icmp_gt (tgt := 150) B dX9_step_124 (by decide) (fun c124 => ?_) (fun c124 => ?_)
          · try rw [mI_lt ⟨by omega, by omega⟩ ⟨by omega, by omega⟩] at c124
            try rw [mI_lt ⟨by omega, by omega⟩ ⟨by omega, by omega⟩] at c124
            obtain rfl : x1 / 64 + 1 = k := by omega
            refine mu_al_0 B dX9_step_150 ?_
            refine mu_getR B dX9_step_151 fX9_9 rfl (by assumption) (by assumption) ?_
            refine mu_as_8 B dX9_step_154 (by decide) rfl ?_
            refine mu_al_0 B dX9_step_156 ?_
            refine mu_al_0 B dX9_step_157 ?_
            refine mu_getR B dX9_step_158 fX9_15 rfl (by assumption) v1 ?_
            refine mu_putR B dX9_step_161 fX9_9 fwX9_0 rfl rfl (by exact kb) ?_
            refine mu_al_0 B dX9_step_164 ?_
            refine mu_al_0 B dX9_step_165 ?_
            refine mu_getR B dX9_step_166 fX9_18 rfl (by exact kb) (by rw [mu_rv_sr, if_neg (by omega)]; exact v2) ?_
            refine mu_putR B dX9_step_169 fX9_15 fwX9_1 rfl rfl (by exact kb) ?_
            refine mu_al_0 B dX9_step_172 ?_
            refine mu_al_8 B dX9_step_173 ?_
            refine mu_putR B dX9_step_175 fX9_18 fwX9_2 rfl rfl (by exact kb) ?_
            refine mu_inc_7 (c := mI 1) B dX9_step_178 rfl (by decide) rfl ?_
            try rw [mI_add]
            refine mu_goto (tgt := 97) B dX9_step_181 (by decide) ?_
            refine mu_fg (ih _ (by omega) ⟨by omega, ((hFt.sr (Or.inr (Or.inr (Or.inr ⟨Nat.le_refl _, by omega⟩))) _).sr (Or.inr (Or.inr (Or.inr ⟨Nat.le_refl _, by omega⟩))) _).sr (Or.inr (Or.inr (Or.inr ⟨Nat.le_refl _, by omega⟩))) _, e1, e2, e0, ⟨⟨⟨q3, q4⟩, ⟨q5, q6⟩, ⟨q1, q2⟩, q8, fun e => q9 e.symm, fun e => q7 e.symm⟩, kb, ?_, ?_, ?_⟩, ?_, ?_, hr0.z, ?_⟩) rfl (by rw [show ((y + 1 : Nat) : Int) = (y : Int) + 1 by omega]; exact ⟨Or.inl rfl, Or.inl rfl, Or.inl rfl, Or.inl rfl, Or.inl rfl, Or.inl rfl, Or.inl rfl, Or.inl rfl, Or.inr rfl, trivial⟩)
            · simp [mu_rv_sr]
            · simp [mu_rv_sr]
            · simp [mu_rv_sr]
            · rw [show ((y + 1 : Nat) : Int) - 1 = (y : Int) by omega]; exact hr1
            · rw [show ((y + 1 : Nat) : Int) = (y : Int) + 1 by omega]; exact hr2
            · rw [← mxw_row]; exact hb2
          · try rw [mI_lt ⟨by omega, by omega⟩ ⟨by omega, by omega⟩] at c124
            refine mu_al_1 B dX9_step_127 ?_
            refine mu_il_7 B dX9_step_128 ?_
            refine mu_il_8 B dX9_step_130 ?_
            refine mu_al_0 B dX9_step_132 ?_
            refine mu_il_8 B dX9_step_133 ?_
            refine mu_iconst (v := mI 1) B dX9_step_135 rfl ?_
            refine mu_iadd B dX9_step_136 ?_
            try rw [mI_add]
            try rw [mI_add]
            rw [show (k : Int) + 1 = ((k + 1 : Nat) : Int) by omega]
            refine mu_al_2 B dX9_step_137 ?_
            refine mu_cV2 B dX9_step_138 mX9_54 ⟨⟨by decide, by decide⟩, by decide, by decide⟩ (Nat.le_of_ble_eq_true rfl) kb (c_X9_nextWord G hb.1 (y := (y : Int)) ⟨kb, v0, v1, v2, hr0, hr1, hr2, hRt.1, hRt.2.1, hRt.2.2.1, hRt.2.2.2⟩ hnb hbo2 hst (k := k + 1) (by omega) (by omega)) (fun r138 w138 q138 => ?_)
            obtain ⟨⟨d, rfl, hd⟩, hF1⟩ := q138
            show mu_WA X G 9 _ _ 0 0 141 _ [.long d, .int _, .int _, .ref a]
            have hb3 := hb2.fi hF1 (fun j hh => by have := hh.1; omega)
            have ho3 := hot.fi hF1
            refine mu_cV3 B dX9_step_141 mX9_58 ⟨⟨by decide, by decide⟩, by decide, by decide⟩ (Nat.le_of_ble_eq_true rfl) ho3.1 (c_X1_setWord G ho3 hb3 (y := y) (z := k) (by omega) (by omega) (d := d)) (fun r141 w141 q141 => ?_)
            obtain ⟨rfl, hF2, hb4⟩ := q141
            rw [mxw_word sp_stp_le (by omega) (by omega) (by omega) (fun i hi => by rw [hd i hi]; unfold sp_stp; rw [if_pos ⟨by omega, by omega⟩, show (64 : Int) * ((k + 1 : Nat) : Int) - 64 + (i : Int) = ((64 * k + i : Nat) : Int) by omega])] at hb4
            refine mu_inc_8 (c := mI 1) B dX9_step_144 rfl (by decide) rfl ?_
            try rw [mI_add]
            refine mu_goto (tgt := 120) B dX9_step_147 (by decide) ?_
            have nT : ∀ q, b < q → ∀ j, ¬ taS b q j := fun q hq j hh => by have := hh.1; omega
            refine mu_to (ihk _ (by omega) ⟨by omega, (hFt.trans (hF1.fr.mono (fun e j hh => Or.inr (Or.inr (Or.inr (by have := hh.1; omega)))))).trans (hF2.fr.mono (fun e j hh => Or.inr (Or.inl hh))), (hC.fi hF1).fi hF2, (hr0.fi hF1 (nT _ (by omega))).fi hF2 (fun j hh => by omega), (hr1.fi hF1 (nT _ (by omega))).fi hF2 (fun j hh => by omega), (hr2.fi hF1 (nT _ (by omega))).fi hF2 (fun j hh => by omega), hb4⟩) rfl (by rw [show ((k + 1 : Nat) : Int) = (k : Int) + 1 by omega])
        exact LK (x0 / 64) w113 (by omega) ⟨Nat.le_refl _, hF.trans (hF1.fr.mono (fun e j hh => Or.inr (Or.inr (Or.inr (by omega))))), hC.fi hF1, hr0.fi hF1 (fun j hh => by omega), hr1.fi hF1 (fun j hh => by omega), hr4, hbs.fi hF1 (fun j hh => by omega)⟩
    exact LY y0 w91 (by omega) ⟨Nat.le_refl _, (hF1.fr.mono (fun e j hh => Or.inr (Or.inr (Or.inr (by omega))))).trans (hF2.fr.mono (fun e j hh => Or.inr (Or.inr (Or.inr (by omega))))), e0, e1, e2, hC1.fi hF2, hs0.fi hF2 (fun j hh => by omega), hs1, (hr2.fi hF1 (fun j hh => by omega)).fi hF2 (fun j hh => by omega), by rw [mxw_start]; exact hb1.fi hF2 (fun j hh => by omega)⟩
