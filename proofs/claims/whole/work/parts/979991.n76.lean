/-! ===== the class: a rule made ===== -/
/-- older cells are as they were but for S; new ones may have come -/
def mu_Gx (S : Nat → Nat → Prop) (w w' : mu_W) : Prop := mu_nx w ≤ mu_nx w' ∧ ∀ q, q < mu_nx w → mu_kd w' q = mu_kd w q ∧ ∀ j, ¬ S q j → mu_iv w' q j = mu_iv w q j ∧ mu_lg w' q j = mu_lg w q j ∧ mu_rv w' q j = mu_rv w q j
theorem mu_Gx.smc {S : Nat → Nat → Prop} {w w' : mu_W} (h : mu_Gx S w w') {q : Nat} (hq : q < mu_nx w) (hn : ∀ j, ¬ S q j) : smc w w' q := ⟨(h.2 q hq).1, fun j => ((h.2 q hq).2 j (hn j)).1, fun j => ((h.2 q hq).2 j (hn j)).2.1, fun j => ((h.2 q hq).2 j (hn j)).2.2⟩
theorem mu_Gx.ofFr {S : Nat → Nat → Prop} {w w' : mu_W} (h : mu_Fr S w w') : mu_Gx S w w' := ⟨by rw [h.1]; exact Nat.le_refl _, fun q _ => ⟨h.2.1 q, fun j hn => h.2.2 q j hn⟩⟩
theorem mu_Gx.trans {S : Nat → Nat → Prop} {w1 w2 w3 : mu_W} (h : mu_Gx S w1 w2) (g : mu_Gx S w2 w3) : mu_Gx S w1 w3 := ⟨Nat.le_trans h.1 g.1, fun q hq => ⟨(g.2 q (Nat.lt_of_lt_of_le hq h.1)).1.trans (h.2 q hq).1, fun j hn => by
  have a := (h.2 q hq).2 j hn
  have b := (g.2 q (Nat.lt_of_lt_of_le hq h.1)).2 j hn
  exact ⟨b.1.trans a.1, b.2.1.trans a.2.1, b.2.2.trans a.2.2⟩⟩⟩
theorem mu_Gx.mono {S S' : Nat → Nat → Prop} {w w' : mu_W} (h : mu_Gx S w w') (hS : ∀ a j, S a j → S' a j) : mu_Gx S' w w' := ⟨h.1, fun q hq => ⟨(h.2 q hq).1, fun j hn => (h.2 q hq).2 j (fun z => hn (hS q j z))⟩⟩
theorem mu_Gx.ofRG {T : Nat → Nat → Prop} {w w' : mu_W} {a : Nat} (h : RG T a w w') (ha : mu_nx w = a) (hx : mu_nx w ≤ mu_nx w') : mu_Gx T w w' := ⟨hx, fun q hq => ⟨(h q (by omega)).1, fun j hn => ⟨((h q (by omega)).2.2 j hn).1, ((h q (by omega)).2.2 j hn).2, (h q (by omega)).2.1 j⟩⟩⟩
theorem mu_Gx.sr {S : Nat → Nat → Prop} {w w' : mu_W} (h : mu_Gx S w w') {q k : Nat} (hS : S q k) (x : Option Nat) : mu_Gx S w (mu_sr w' q k x) := ⟨h.1, fun p hp => ⟨(h.2 p hp).1, fun j hn => by
  have a := (h.2 p hp).2 j hn
  refine ⟨a.1, a.2.1, ?_⟩
  rw [mu_rv_sr, if_neg (fun z => hn (by rw [z.1, z.2]; exact hS))]; exact a.2.2⟩⟩
theorem mu_Gx.si {S : Nat → Nat → Prop} {w w' : mu_W} (h : mu_Gx S w w') {q k : Nat} (hS : S q k) (x : Int32) : mu_Gx S w (mu_si w' q k x) := ⟨h.1, fun p hp => ⟨(h.2 p hp).1, fun j hn => by
  have a := (h.2 p hp).2 j hn
  refine ⟨?_, a.2.1, a.2.2⟩
  rw [mu_iv_oth _ _ (fun z => hn (by rw [z.1, z.2]; exact hS))]; exact a.1⟩⟩
def mrS (o nr : Nat) : Nat → Nat → Prop := fun q j => (q = o + 3 ∧ j < 5) ∨ dmS (o + 5) q j ∨ (q = o + 12 ∧ j = nr) ∨ (q = o ∧ j = 5)

set_option maxHeartbeats 4000000 in
set_option maxRecDepth 100000 in
theorem c_X11_makeRule_f (G : mu_G) {w : mu_W} {o : Nat} (hm : CMo w o) {nr : Nat} {rs : Nat → mu_RS} {ra : Nat → Nat} (hr : CRs w o nr rs ra) (hfull : 16 ≤ nr) : mu_Ct G M_X11_makeRule [.ref o] w (fun r w' => r = some (.int (mI (-3))) ∧ w' = w) := by
  obtain ⟨ko, hox, ⟨r0, r1, r2, r3, r4, r6, r8, r10, r11, r12, r13, r14⟩, ⟨k1, k3, k4, kB, k12, k13, k14⟩, kS, kF, kQ, k26, kH⟩ := id hm
  obtain ⟨hn16, hnr, hrs⟩ := id hr
  refine mu_ofWA G M_X11_makeRule [.ref o, mu_no, mu_no] (by decide) rfl (Nat.le_of_ble_eq_true rfl) ?_
  intro X E
  have B : mu_B X G cX11_makeRule RX11 3 (mu_rm M_X11_makeRule) := E.1
  show mu_WA X G 3 _ _ 0 0 0 _ []
  refine mu_al_0 B dX11_makeRule_0 ?_
  refine mu_getI B dX11_makeRule_1 fX11_102 rfl (by exact ko) ?_
  rw [hnr]
  refine mu_bipush (v := mI 16) B dX11_makeRule_4 (by decide) ?_
  refine mu_icmp_lt (tgt := 12) B dX11_makeRule_6 (by decide) (fun c6 => ?_) (fun c6 => ?_)
  · try rw [mI_lt ⟨by omega, by omega⟩ ⟨by omega, by omega⟩] at c6
    exfalso
    omega
  · try rw [mI_lt ⟨by omega, by omega⟩ ⟨by omega, by omega⟩] at c6
    refine mu_bipush (v := mI (-3)) B dX11_makeRule_9 (by decide) ?_
    refine mu_iret E rfl (by decide) (by decide) dX11_makeRule_11 ?_
    exact ⟨rfl, rfl⟩

set_option maxHeartbeats 4000000 in
set_option maxRecDepth 100000 in
theorem c_X11_makeRule_b (G : mu_G) {w : mu_W} {o : Nat} (hm : CMo w o) {nr : Nat} {rs : Nat → mu_RS} {ra : Nat → Nat} (hr : CRs w o nr rs ra) {n : Nat} {tp : Nat → Nat} (ht : CT w (o + 1) n tp) (hfull : nr < 16) (hg : ¬ (sp_rule n tp).1 = true) (hpb : (sp_rule n tp).2.1 ≤ 2000) : mu_Ct G M_X11_makeRule [.ref o] w (fun r w' => r = some (.int (mI (-10 - ((sp_rule n tp).2.1 : Int)))) ∧ mu_Fi (rq_S (o + 3)) w w') := by
  obtain ⟨ko, hox, ⟨r0, r1, r2, r3, r4, r6, r8, r10, r11, r12, r13, r14⟩, ⟨k1, k3, k4, kB, k12, k13, k14⟩, kS, kF, kQ, k26, kH⟩ := id hm
  obtain ⟨hn16, hnr, hrs⟩ := id hr
  refine mu_ofWA G M_X11_makeRule [.ref o, mu_no, mu_no] (by decide) rfl (Nat.le_of_ble_eq_true rfl) ?_
  intro X E
  have B : mu_B X G cX11_makeRule RX11 3 (mu_rm M_X11_makeRule) := E.1
  show mu_WA X G 3 _ _ 0 0 0 _ []
  refine mu_al_0 B dX11_makeRule_0 ?_
  refine mu_getI B dX11_makeRule_1 fX11_102 rfl (by exact ko) ?_
  rw [hnr]
  refine mu_bipush (v := mI 16) B dX11_makeRule_4 (by decide) ?_
  refine mu_icmp_lt (tgt := 12) B dX11_makeRule_6 (by decide) (fun c6 => ?_) (fun c6 => ?_)
  · try rw [mI_lt ⟨by omega, by omega⟩ ⟨by omega, by omega⟩] at c6
    refine mu_al_0 B dX11_makeRule_12 ?_
    refine mu_getR B dX11_makeRule_13 fX11_19 rfl (by exact ko) (by exact r1) ?_
    refine mu_al_0 B dX11_makeRule_16 ?_
    refine mu_getR B dX11_makeRule_17 fX11_10 rfl (by exact ko) (by exact r0) ?_
    refine mu_cV1 B dX11_makeRule_20 mX11_106 ⟨⟨by decide, by decide⟩, by decide, by decide⟩ (Nat.le_of_ble_eq_true rfl) (by exact k3) (c_X5_faultOf G k3 ht) (fun r20 w20 q20 => ?_)
    obtain ⟨rfl, hF1, hv⟩ := q20
    rw [if_neg hg]
    show mu_WA X G 3 _ _ _ _ 23 _ [.int _]
    refine mu_is_1 B dX11_makeRule_23 (by decide) rfl ?_
    refine mu_il_1 B dX11_makeRule_24 ?_
    refine mu_if_lt (tgt := 33) B dX11_makeRule_25 (by decide) (fun c25 => ?_) (fun c25 => ?_)
    · try rw [mI_lt0 ⟨by omega, by omega⟩] at c25
      exfalso
      omega
    · try rw [mI_lt0 ⟨by omega, by omega⟩] at c25
      refine mu_bipush (v := mI (-10)) B dX11_makeRule_28 (by decide) ?_
      refine mu_il_1 B dX11_makeRule_30 ?_
      refine mu_isub B dX11_makeRule_31 ?_
      try rw [mI_sub]
      refine mu_iret E rfl (by decide) (by decide) dX11_makeRule_32 ?_
      exact ⟨rfl, hF1⟩
  · try rw [mI_lt ⟨by omega, by omega⟩ ⟨by omega, by omega⟩] at c6
    exfalso
    omega

set_option maxHeartbeats 4000000 in
set_option maxRecDepth 100000 in
theorem c_X11_makeRule_y (G : mu_G) {w : mu_W} {o : Nat} (hm : CMo w o) {nr : Nat} {rs : Nat → mu_RS} {ra : Nat → Nat} (hr : CRs w o nr rs ra) {n : Nat} {tp : Nat → Nat} (ht : CT w (o + 1) n tp) {ru : mu_RS} (hfull : nr < 16) (hg : (sp_rule n tp).1 = true) (hru : (sp_rule n tp).2.2 = ru) : mu_Ct G M_X11_makeRule [.ref o] w (fun r w' => r = some (.int (mI (nr : Nat))) ∧ mu_Gx (mrS o nr) w w' ∧ mu_nx w' = mu_nx w + 5 ∧ CRu w' (mu_nx w) ru ∧ mu_rv w' (o + 12) nr = some (mu_nx w) ∧ mu_iv w' o 5 = mI ((nr + 1 : Nat) : Int)) := by
  obtain ⟨ko, hox, ⟨r0, r1, r2, r3, r4, r6, r8, r10, r11, r12, r13, r14⟩, ⟨k1, k3, k4, kB, k12, k13, k14⟩, kS, kF, kQ, k26, kH⟩ := id hm
  obtain ⟨hn16, hnr, hrs⟩ := id hr
  refine mu_ofWA G M_X11_makeRule [.ref o, mu_no, mu_no] (by decide) rfl (Nat.le_of_ble_eq_true rfl) ?_
  intro X E
  have B : mu_B X G cX11_makeRule RX11 3 (mu_rm M_X11_makeRule) := E.1
  show mu_WA X G 3 _ _ 0 0 0 _ []
  refine mu_al_0 B dX11_makeRule_0 ?_
  refine mu_getI B dX11_makeRule_1 fX11_102 rfl (by exact ko) ?_
  rw [hnr]
  refine mu_bipush (v := mI 16) B dX11_makeRule_4 (by decide) ?_
  refine mu_icmp_lt (tgt := 12) B dX11_makeRule_6 (by decide) (fun c6 => ?_) (fun c6 => ?_)
  · try rw [mI_lt ⟨by omega, by omega⟩ ⟨by omega, by omega⟩] at c6
    refine mu_al_0 B dX11_makeRule_12 ?_
    refine mu_getR B dX11_makeRule_13 fX11_19 rfl (by exact ko) (by exact r1) ?_
    refine mu_al_0 B dX11_makeRule_16 ?_
    refine mu_getR B dX11_makeRule_17 fX11_10 rfl (by exact ko) (by exact r0) ?_
    refine mu_cV1 B dX11_makeRule_20 mX11_106 ⟨⟨by decide, by decide⟩, by decide, by decide⟩ (Nat.le_of_ble_eq_true rfl) (by exact k3) (c_X5_faultOf G k3 ht) (fun r20 w20 q20 => ?_)
    obtain ⟨rfl, hF1, hv⟩ := q20
    rw [if_pos hg]
    rw [hru] at hv
    obtain ⟨hv0, hv1, hv2, hv3⟩ := hv hg
    have ht1 := ht.fi hF1 (fun hh => by have := hh.1; omega) (fun j hh => by have := hh.1; omega)
    have hx20 : mu_nx w20 = mu_nx w := hF1.1
    show mu_WA X G 3 _ _ _ _ 23 _ [.int _]
    refine mu_is_1 B dX11_makeRule_23 (by decide) rfl ?_
    refine mu_il_1 B dX11_makeRule_24 ?_
    refine mu_if_lt (tgt := 33) B dX11_makeRule_25 (by decide) (fun c25 => ?_) (fun c25 => ?_)
    · try rw [mI_lt0 ⟨by omega, by omega⟩] at c25
      refine mu_new B dX11_makeRule_33 cfX4 nlX11_37 niX4 ndX4 (by decide) (by decide) ?_
      rw [hx20]
      have hA : RG (dmS (o + 5)) (mu_nx w) w20 (mu_al w20 4 0) := (RG.refl w20).al (by omega) 4 0
      have hk41 : mu_kd (mu_al w20 4 0) (mu_nx w) = some (4, 0) := by rw [mu_kd_al, if_pos hx20.symm]
      have hn41 : mu_nx (mu_al w20 4 0) = mu_nx w + 1 := by show mu_nx w20 + 1 = _; rw [hx20]
      generalize (mu_al w20 4 0) = w41 at hA hk41 hn41 ⊢
      have ht41 := ht1.rg hA (by omega) (fun hh => by have := hh.1; omega) (fun j hh => by have := hh.1; omega)
      have hB41 := (kB.fi hF1).rg hA (by omega)
      refine mu_dup B dX11_makeRule_36 rfl ?_
      refine mu_al_0 B dX11_makeRule_37 ?_
      refine mu_getR B dX11_makeRule_38 fX11_10 rfl (hA.kd (hF1.kd ko) (by omega)) (hA.rv (hF1.rv r0) (by omega)) ?_
      refine mu_al_0 B dX11_makeRule_41 ?_
      refine mu_getR B dX11_makeRule_42 fX11_19 rfl (hA.kd (hF1.kd ko) (by omega)) (hA.rv (hF1.rv r1) (by omega)) ?_
      refine mu_cI2 B dX11_makeRule_45 mX11_110 ⟨⟨by decide, by decide⟩, by decide, by decide⟩ (Nat.le_of_ble_eq_true rfl) (c_X4_init G (ru := ru) (b := o + 5) hk41 hn41 ht41 (by omega) (hA.kd (hF1.kd k3) (by omega)) (by omega) hB41 (by omega) hg hru ⟨hA.iv hv0 (by omega) (fun hh => by have := hh.1; omega), hA.iv hv1 (by omega) (fun hh => by have := hh.1; omega), hA.iv hv2 (by omega) (fun hh => by have := hh.1; omega), hA.iv hv3 (by omega) (fun hh => by have := hh.1; omega)⟩) (fun r45 w45 q45 => ?_)
      obtain ⟨rfl, h45⟩ := q45
      obtain ⟨hG45, hk45⟩ : RG (dmS (o + 5)) (mu_nx w) w41 w45 ∧ mu_kd w45 (mu_nx w) = some (4, 0) := by
        obtain ⟨low, high, o9, z1, z2, z3, z4, z5, z6⟩ := h45
        exact ⟨z4, z5.1⟩
      have hGB := hA.trans hG45
      show mu_WA X G 3 _ _ _ _ 48 _ [.ref (mu_nx w)]
      refine mu_as_2 B dX11_makeRule_48 (by decide) rfl ?_
      refine mu_al_2 B dX11_makeRule_49 ?_
      refine mu_al_0 B dX11_makeRule_50 ?_
      refine mu_getR B dX11_makeRule_51 fX11_33 rfl (hGB.kd (hF1.kd ko) (by omega)) (hGB.rv (hF1.rv r3) (by omega)) ?_
      refine mu_cV1 B dX11_makeRule_54 mX11_113 ⟨⟨by decide, by decide⟩, by decide, by decide⟩ (Nat.le_of_ble_eq_true rfl) (by exact hk45) (c_X4_weigh G h45 ht hB41 (by omega) hg hru) (fun r54 w54 q54 => ?_)
      obtain ⟨rfl, n57, hG57, hcr⟩ := q54
      have hGA := hA.trans hG57
      show mu_WA X G 3 _ _ _ _ 57 _ []
      refine mu_al_0 B dX11_makeRule_57 ?_
      refine mu_getR B dX11_makeRule_58 fX11_39 rfl (hGA.kd (hF1.kd ko) (by omega)) (hGA.rv (hF1.rv r4) (by omega)) ?_
      refine mu_al_0 B dX11_makeRule_61 ?_
      refine mu_getI B dX11_makeRule_62 fX11_102 rfl (hGA.kd (hF1.kd ko) (by omega)) ?_
      rw [hGA.iv (hF1.iv (fun hh => by have := hh.1; omega) hnr) (by omega) (fun hh => by have := hh.1; omega)]
      refine mu_al_2 B dX11_makeRule_65 ?_
      refine mu_aast (ka := 4) (t := 4) B dX11_makeRule_66 (hGA.kd (hF1.kd k12) (by omega)) (by decide) rfl rfl (by decide) hcr.1 (mI_inN (by omega) (by decide)) ?_
      rw [mI_clampN (by omega)]
      refine mu_al_0 B dX11_makeRule_67 ?_
      refine mu_dup B dX11_makeRule_68 rfl ?_
      refine mu_getI B dX11_makeRule_69 fX11_102 rfl (by exact hGA.kd (hF1.kd ko) (by omega)) ?_
      rw [mu_iv_sr, hGA.iv (hF1.iv (fun hh => by have := hh.1; omega) hnr) (by omega) (fun hh => by have := hh.1; omega)]
      refine mu_iconst (v := mI 1) B dX11_makeRule_72 rfl ?_
      refine mu_iadd B dX11_makeRule_73 ?_
      try rw [mI_add]
      refine mu_putI B dX11_makeRule_74 fX11_102 fwX11_5 rfl (by exact hGA.kd (hF1.kd ko) (by omega)) ?_
      refine mu_al_0 B dX11_makeRule_77 ?_
      refine mu_getI B dX11_makeRule_78 fX11_102 rfl (by exact hGA.kd (hF1.kd ko) (by omega)) ?_
      rw [mu_iv_same]
      refine mu_iconst (v := mI 1) B dX11_makeRule_81 rfl ?_
      refine mu_isub B dX11_makeRule_82 ?_
      try rw [mI_sub]
      rw [show (nr : Int) + 1 - 1 = ((nr : Nat) : Int) by omega]
      refine mu_iret E rfl (by decide) (by decide) dX11_makeRule_83 ?_
      have hG1 : mu_Gx (mrS o nr) w w20 := (mu_Gx.ofFr hF1.fr).mono (fun q j hh => Or.inl hh)
      have hG2 : mu_Gx (mrS o nr) w20 w54 := (mu_Gx.ofRG hGA hx20 (by omega)).mono (fun q j hh => Or.inr (Or.inl hh))
      refine ⟨rfl, ((hG1.trans hG2).sr (Or.inr (Or.inr (Or.inl ⟨rfl, rfl⟩))) _).si (Or.inr (Or.inr (Or.inr ⟨rfl, rfl⟩))) _, n57, hcr.kp (fun q hq9 => ⟨rfl, fun j => ?_, fun j => ?_⟩), ?_, ?_⟩
      · have := hq9.1
        rw [mu_iv_oth _ _ (by omega)]; rfl
      · have := hq9.1
        show mu_rv (mu_sr w54 (o + 12) nr (some (mu_nx w))) q j = _
        rw [mu_rv_sr, if_neg (by omega)]
      · show mu_rv (mu_sr w54 (o + 12) nr (some (mu_nx w))) (o + 12) nr = _
        rw [mu_rv_sr, if_pos ⟨rfl, rfl⟩]
      · rw [mu_iv_same]; rfl
    · try rw [mI_lt0 ⟨by omega, by omega⟩] at c25
      exfalso
      omega
  · try rw [mI_lt ⟨by omega, by omega⟩ ⟨by omega, by omega⟩] at c6
    exfalso
    omega
