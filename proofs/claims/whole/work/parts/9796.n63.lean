/-! ===== the class's object ===== -/
/-- a cell that is as it was -/
def smc (w w' : mu_W) (q : Nat) : Prop := mu_kd w' q = mu_kd w q ∧ (∀ j, mu_iv w' q j = mu_iv w q j) ∧ (∀ j, mu_lg w' q j = mu_lg w q j) ∧ ∀ j, mu_rv w' q j = mu_rv w q j
theorem mu_Fi.smc {S : Nat → Nat → Prop} {w w' : mu_W} (h : mu_Fi S w w') {q : Nat} (hq : ∀ j, ¬ S q j) : smc w w' q := ⟨h.2.1 q, fun j => (h.2.2.2 q j (hq j)).1, fun j => (h.2.2.2 q j (hq j)).2, h.2.2.1 q⟩
theorem RG.smc {T : Nat → Nat → Prop} {a : Nat} {w w' : mu_W} (h : RG T a w w') {q : Nat} (hq : q < a) (hn : ∀ j, ¬ T q j) : smc w w' q := ⟨(h q hq).1, fun j => ((h q hq).2.2 j (hn j)).1, fun j => ((h q hq).2.2 j (hn j)).2, (h q hq).2.1⟩
/-- what stands from the start: the object at o, its parts behind it -/
def CMo (w : mu_W) (o : Nat) : Prop := mu_kd w o = some (11, 0) ∧ o + 35 ≤ mu_nx w ∧ (mu_rv w o 0 = some (o + 1) ∧ mu_rv w o 1 = some (o + 3) ∧ mu_rv w o 2 = some (o + 4) ∧ mu_rv w o 3 = some (o + 5) ∧ mu_rv w o 4 = some (o + 12) ∧ mu_rv w o 6 = some (o + 13) ∧ mu_rv w o 8 = some (o + 14) ∧ mu_rv w o 10 = some (o + 15) ∧ mu_rv w o 11 = some (o + 19) ∧ mu_rv w o 12 = some (o + 22) ∧ mu_rv w o 13 = some (o + 26) ∧ mu_rv w o 14 = some (o + 27)) ∧
  (mu_kd w (o + 1) = some (10, 0) ∧ mu_kd w (o + 3) = some (5, 0) ∧ mu_kd w (o + 4) = some (6, 0) ∧ CBo w (o + 5) ∧ mu_kd w (o + 12) = some (104, 16) ∧ mu_kd w (o + 13) = some (105, 8) ∧ mu_kd w (o + 14) = some (106, 8)) ∧ CSt w (o + 15) ∧ CFo w (o + 19) ∧ CQo w (o + 22) ∧ mu_kd w (o + 26) = some (2, 0) ∧ CSo w (o + 27)
/-- its rules, at ra 0, ra 1 .. -/
def CRs (w : mu_W) (o nr : Nat) (rs : Nat → mu_RS) (ra : Nat → Nat) : Prop := nr ≤ 16 ∧ mu_iv w o 5 = mI nr ∧ ∀ i, i < nr → mu_rv w (o + 12) i = some (ra i) ∧ o + 35 ≤ ra i ∧ ra i + 5 ≤ mu_nx w ∧ CRu w (ra i) (rs i)
theorem CRs.keep {w w' : mu_W} {o nr : Nat} {rs : Nat → mu_RS} {ra : Nat → Nat} (h : CRs w o nr rs ra) (h5 : mu_iv w' o 5 = mu_iv w o 5) (h12 : ∀ j, mu_rv w' (o + 12) j = mu_rv w (o + 12) j) (hx : mu_nx w ≤ mu_nx w') (hc : ∀ i, i < nr → ∀ q, ru_in (ra i) q → smc w w' q) : CRs w' o nr rs ra :=
  ⟨h.1, h5.trans h.2.1, fun i hi => by
    obtain ⟨g1, g2, g3, g4⟩ := h.2.2 i hi
    exact ⟨(h12 i).trans g1, g2, by omega, g4.kp (fun q hq => ⟨(hc i hi q hq).1, (hc i hi q hq).2.1, (hc i hi q hq).2.2.2⟩)⟩⟩
/-- one field, at a -/
def CFs1 (w : mu_W) (a rr : Nat) (f : mu_FS) : Prop := CFb w a (fs_c f) ∧ (∃ L R U D M, CMx (fs_c f) L R U D M ∧ CFm w a L R U D M) ∧ mu_rv w a 2 = some rr ∧ mu_iv w a 3 = mI (fs_r f) ∧ mu_iv w a 4 = fs_g f
/-- its fields: hf stand, nf of them are in use -/
def CFs (w : mu_W) (o : Nat) (ra : Nat → Nat) (nf : Nat) (fs : Nat → mu_FS) (hf : Nat) (fa : Nat → Nat) : Prop := nf ≤ hf ∧ hf ≤ 8 ∧ mu_iv w o 7 = mI nf ∧ (∀ f, f < hf → mu_rv w (o + 13) f = some (fa f) ∧ o + 35 ≤ fa f ∧ fa f + 3 ≤ mu_nx w ∧ CFo w (fa f)) ∧ (∀ f, hf ≤ f → f < 8 → mu_rv w (o + 13) f = none) ∧ (∀ f g, f < hf → g < hf → fa f = fa g → f = g) ∧ ∀ f, f < nf → CFs1 w (fa f) (ra (fs_r (fs f))) (fs f)
/-- one grid, at a -/
def CGs1 (w : mu_W) (a rr S : Nat) (g : mu_GS) : Prop := CGf w a S (gs_R g) (gs_C g) (gs_n g) ∧ CGc w a (gs_R g) (gs_C g) (gs_c g) ∧ mu_rv w a 1 = some rr
def CGs (w : mu_W) (o : Nat) (rs : Nat → mu_RS) (ra : Nat → Nat) (ng : Nat) (gs : Nat → mu_GS) (hg : Nat) (ga : Nat → Nat) : Prop := ng ≤ hg ∧ hg ≤ 8 ∧ mu_iv w o 9 = mI ng ∧ (∀ g, g < hg → mu_rv w (o + 14) g = some (ga g) ∧ o + 35 ≤ ga g ∧ ga g + 2 ≤ mu_nx w ∧ CGo w (ga g)) ∧ (∀ g, hg ≤ g → g < 8 → mu_rv w (o + 14) g = none) ∧ (∀ f g, f < hg → g < hg → ga f = ga g → f = g) ∧ ∀ g, g < ng → CGs1 w (ga g) (ra (gs_r (gs g))) (rs_S (rs (gs_r (gs g)))) (gs g)

set_option maxHeartbeats 4000000 in
set_option maxRecDepth 100000 in
theorem c_X11_ruleAt_y (G : mu_G) {w : mu_W} {o : Nat} (hm : CMo w o) {nr : Nat} {rs : Nat → mu_RS} {ra : Nat → Nat} (hr : CRs w o nr rs ra) {i : Nat} (hi : i < nr) : mu_Ct G M_X11_ruleAt [.ref o, .int (mI (i : Nat))] w (fun r w' => r = some (.ref (ra i)) ∧ w' = w) := by
  obtain ⟨ko, hox, ⟨r0, r1, r2, r3, r4, r6, r8, r10, r11, r12, r13, r14⟩, ⟨k1, k3, k4, kB, k12, k13, k14⟩, kS, kF, kQ, k26, kH⟩ := id hm
  obtain ⟨hn16, hnr, hrs⟩ := id hr
  refine mu_ofWA G M_X11_ruleAt [.ref o, .int (mI (i : Nat))] (by decide) rfl (Nat.le_of_ble_eq_true rfl) ?_
  intro X E
  have B : mu_B X G cX11_ruleAt RX11 2 (mu_rm M_X11_ruleAt) := E.1
  show mu_WA X G 2 _ _ 0 0 0 _ []
  refine mu_il_1 B dX11_ruleAt_0 ?_
  refine mu_if_lt (tgt := 30) B dX11_ruleAt_1 (by decide) (fun c1 => ?_) (fun c1 => ?_)
  · try rw [mI_lt0 ⟨by omega, by omega⟩] at c1
    exfalso
    omega
  · try rw [mI_lt0 ⟨by omega, by omega⟩] at c1
    refine mu_il_1 B dX11_ruleAt_4 ?_
    refine mu_al_0 B dX11_ruleAt_5 ?_
    refine mu_getI B dX11_ruleAt_6 fX11_102 rfl (by exact ko) ?_
    rw [hnr]
    refine mu_icmp_ge (tgt := 30) B dX11_ruleAt_9 (by decide) (fun c9 => ?_) (fun c9 => ?_)
    · try rw [mI_le ⟨by omega, by omega⟩ ⟨by omega, by omega⟩] at c9
      exfalso
      omega
    · try rw [mI_le ⟨by omega, by omega⟩ ⟨by omega, by omega⟩] at c9
      refine mu_il_1 B dX11_ruleAt_12 ?_
      refine mu_al_0 B dX11_ruleAt_13 ?_
      refine mu_getR B dX11_ruleAt_14 fX11_39 rfl (by exact ko) (by exact r4) ?_
      refine mu_len (ka := 4) B dX11_ruleAt_17 (by exact k12) (by decide) ?_
      refine mu_icmp_ge (tgt := 30) B dX11_ruleAt_18 (by decide) (fun c18 => ?_) (fun c18 => ?_)
      · try rw [mI_le ⟨by omega, by omega⟩ ⟨by omega, by omega⟩] at c18
        exfalso
        omega
      · try rw [mI_le ⟨by omega, by omega⟩ ⟨by omega, by omega⟩] at c18
        refine mu_al_0 B dX11_ruleAt_21 ?_
        refine mu_getR B dX11_ruleAt_22 fX11_39 rfl (by exact ko) (by exact r4) ?_
        refine mu_il_1 B dX11_ruleAt_25 ?_
        refine mu_aald B dX11_ruleAt_26 (by exact k12) (by simp) (mI_inN (by omega) (by decide)) (by rw [mI_clampN (by omega)]; exact (hrs i hi).1) ?_
        refine mu_goto (tgt := 31) B dX11_ruleAt_27 (by decide) ?_
        refine mu_aret E rfl (by simp) (by decide) (by decide) dX11_ruleAt_31 (by simp) ?_
        exact ⟨rfl, rfl⟩

set_option maxHeartbeats 4000000 in
set_option maxRecDepth 100000 in
theorem c_X11_ruleAt_n (G : mu_G) {w : mu_W} {o : Nat} (hm : CMo w o) {nr : Nat} {rs : Nat → mu_RS} {ra : Nat → Nat} (hr : CRs w o nr rs ra) {z : Int} (hz : mi_ok z) (hn : ¬ (0 ≤ z ∧ z < nr)) : mu_Ct G M_X11_ruleAt [.ref o, .int (mI z)] w (fun r w' => r = some .null ∧ w' = w) := by
  obtain ⟨ko, hox, ⟨r0, r1, r2, r3, r4, r6, r8, r10, r11, r12, r13, r14⟩, ⟨k1, k3, k4, kB, k12, k13, k14⟩, kS, kF, kQ, k26, kH⟩ := id hm
  obtain ⟨hn16, hnr, hrs⟩ := id hr
  obtain ⟨hz1, hz2⟩ := hz
  refine mu_ofWA G M_X11_ruleAt [.ref o, .int (mI z)] (by decide) rfl (Nat.le_of_ble_eq_true rfl) ?_
  intro X E
  have B : mu_B X G cX11_ruleAt RX11 2 (mu_rm M_X11_ruleAt) := E.1
  show mu_WA X G 2 _ _ 0 0 0 _ []
  refine mu_il_1 B dX11_ruleAt_0 ?_
  refine mu_if_lt (tgt := 30) B dX11_ruleAt_1 (by decide) (fun c1 => ?_) (fun c1 => ?_)
  · try rw [mI_lt0 ⟨by omega, by omega⟩] at c1
    refine mu_null B dX11_ruleAt_30 ?_
    refine mu_aret E rfl (by simp) (by decide) (by decide) dX11_ruleAt_31 (by simp) ?_
    exact ⟨rfl, rfl⟩
  · try rw [mI_lt0 ⟨by omega, by omega⟩] at c1
    refine mu_il_1 B dX11_ruleAt_4 ?_
    refine mu_al_0 B dX11_ruleAt_5 ?_
    refine mu_getI B dX11_ruleAt_6 fX11_102 rfl (by exact ko) ?_
    rw [hnr]
    refine mu_icmp_ge (tgt := 30) B dX11_ruleAt_9 (by decide) (fun c9 => ?_) (fun c9 => ?_)
    · try rw [mI_le ⟨by omega, by omega⟩ ⟨by omega, by omega⟩] at c9
      refine mu_null B dX11_ruleAt_30 ?_
      refine mu_aret E rfl (by simp) (by decide) (by decide) dX11_ruleAt_31 (by simp) ?_
      exact ⟨rfl, rfl⟩
    · try rw [mI_le ⟨by omega, by omega⟩ ⟨by omega, by omega⟩] at c9
      exfalso
      omega

set_option maxHeartbeats 4000000 in
set_option maxRecDepth 100000 in
theorem c_X11_fieldAt_y (G : mu_G) {w : mu_W} {o : Nat} (hm : CMo w o) {ra : Nat → Nat} {nf : Nat} {fs : Nat → mu_FS} {hf : Nat} {fa : Nat → Nat} (hF : CFs w o ra nf fs hf fa) {i : Nat} (hi : i < nf) : mu_Ct G M_X11_fieldAt [.ref o, .int (mI (i : Nat))] w (fun r w' => r = some (.ref (fa i)) ∧ w' = w) := by
  obtain ⟨ko, hox, ⟨r0, r1, r2, r3, r4, r6, r8, r10, r11, r12, r13, r14⟩, ⟨k1, k3, k4, kB, k12, k13, k14⟩, kS, kF, kQ, k26, kH⟩ := id hm
  obtain ⟨hn1, hn8, hnf, hfs, hfn, hfi, hf1⟩ := id hF
  refine mu_ofWA G M_X11_fieldAt [.ref o, .int (mI (i : Nat))] (by decide) rfl (Nat.le_of_ble_eq_true rfl) ?_
  intro X E
  have B : mu_B X G cX11_fieldAt RX11 2 (mu_rm M_X11_fieldAt) := E.1
  show mu_WA X G 2 _ _ 0 0 0 _ []
  refine mu_il_1 B dX11_fieldAt_0 ?_
  refine mu_if_lt (tgt := 30) B dX11_fieldAt_1 (by decide) (fun c1 => ?_) (fun c1 => ?_)
  · try rw [mI_lt0 ⟨by omega, by omega⟩] at c1
    exfalso
    omega
  · try rw [mI_lt0 ⟨by omega, by omega⟩] at c1
    refine mu_il_1 B dX11_fieldAt_4 ?_
    refine mu_al_0 B dX11_fieldAt_5 ?_
    refine mu_getI B dX11_fieldAt_6 fX11_125 rfl (by exact ko) ?_
    rw [hnf]
    refine mu_icmp_ge (tgt := 30) B dX11_fieldAt_9 (by decide) (fun c9 => ?_) (fun c9 => ?_)
    · try rw [mI_le ⟨by omega, by omega⟩ ⟨by omega, by omega⟩] at c9
      exfalso
      omega
    · try rw [mI_le ⟨by omega, by omega⟩ ⟨by omega, by omega⟩] at c9
      refine mu_il_1 B dX11_fieldAt_12 ?_
      refine mu_al_0 B dX11_fieldAt_13 ?_
      refine mu_getR B dX11_fieldAt_14 fX11_45 rfl (by exact ko) (by exact r6) ?_
      refine mu_len (ka := 5) B dX11_fieldAt_17 (by exact k13) (by decide) ?_
      refine mu_icmp_ge (tgt := 30) B dX11_fieldAt_18 (by decide) (fun c18 => ?_) (fun c18 => ?_)
      · try rw [mI_le ⟨by omega, by omega⟩ ⟨by omega, by omega⟩] at c18
        exfalso
        omega
      · try rw [mI_le ⟨by omega, by omega⟩ ⟨by omega, by omega⟩] at c18
        refine mu_al_0 B dX11_fieldAt_21 ?_
        refine mu_getR B dX11_fieldAt_22 fX11_45 rfl (by exact ko) (by exact r6) ?_
        refine mu_il_1 B dX11_fieldAt_25 ?_
        refine mu_aald B dX11_fieldAt_26 (by exact k13) (by simp) (mI_inN (by omega) (by decide)) (by rw [mI_clampN (by omega)]; exact (hfs i (by omega)).1) ?_
        refine mu_goto (tgt := 31) B dX11_fieldAt_27 (by decide) ?_
        refine mu_aret E rfl (by simp) (by decide) (by decide) dX11_fieldAt_31 (by simp) ?_
        exact ⟨rfl, rfl⟩

set_option maxHeartbeats 4000000 in
set_option maxRecDepth 100000 in
theorem c_X11_fieldAt_n (G : mu_G) {w : mu_W} {o : Nat} (hm : CMo w o) {ra : Nat → Nat} {nf : Nat} {fs : Nat → mu_FS} {hf : Nat} {fa : Nat → Nat} (hF : CFs w o ra nf fs hf fa) {z : Int} (hz : mi_ok z) (hn : ¬ (0 ≤ z ∧ z < nf)) : mu_Ct G M_X11_fieldAt [.ref o, .int (mI z)] w (fun r w' => r = some .null ∧ w' = w) := by
  obtain ⟨ko, hox, ⟨r0, r1, r2, r3, r4, r6, r8, r10, r11, r12, r13, r14⟩, ⟨k1, k3, k4, kB, k12, k13, k14⟩, kS, kF, kQ, k26, kH⟩ := id hm
  obtain ⟨hn1, hn8, hnf, hfs, hfn, hfi, hf1⟩ := id hF
  obtain ⟨hz1, hz2⟩ := hz
  refine mu_ofWA G M_X11_fieldAt [.ref o, .int (mI z)] (by decide) rfl (Nat.le_of_ble_eq_true rfl) ?_
  intro X E
  have B : mu_B X G cX11_fieldAt RX11 2 (mu_rm M_X11_fieldAt) := E.1
  show mu_WA X G 2 _ _ 0 0 0 _ []
  refine mu_il_1 B dX11_fieldAt_0 ?_
  refine mu_if_lt (tgt := 30) B dX11_fieldAt_1 (by decide) (fun c1 => ?_) (fun c1 => ?_)
  · try rw [mI_lt0 ⟨by omega, by omega⟩] at c1
    refine mu_null B dX11_fieldAt_30 ?_
    refine mu_aret E rfl (by simp) (by decide) (by decide) dX11_fieldAt_31 (by simp) ?_
    exact ⟨rfl, rfl⟩
  · try rw [mI_lt0 ⟨by omega, by omega⟩] at c1
    refine mu_il_1 B dX11_fieldAt_4 ?_
    refine mu_al_0 B dX11_fieldAt_5 ?_
    refine mu_getI B dX11_fieldAt_6 fX11_125 rfl (by exact ko) ?_
    rw [hnf]
    refine mu_icmp_ge (tgt := 30) B dX11_fieldAt_9 (by decide) (fun c9 => ?_) (fun c9 => ?_)
    · try rw [mI_le ⟨by omega, by omega⟩ ⟨by omega, by omega⟩] at c9
      refine mu_null B dX11_fieldAt_30 ?_
      refine mu_aret E rfl (by simp) (by decide) (by decide) dX11_fieldAt_31 (by simp) ?_
      exact ⟨rfl, rfl⟩
    · try rw [mI_le ⟨by omega, by omega⟩ ⟨by omega, by omega⟩] at c9
      exfalso
      omega

set_option maxHeartbeats 4000000 in
set_option maxRecDepth 100000 in
theorem c_X11_gridAt_y (G : mu_G) {w : mu_W} {o : Nat} (hm : CMo w o) {rs : Nat → mu_RS} {ra : Nat → Nat} {ng : Nat} {gs : Nat → mu_GS} {hg : Nat} {ga : Nat → Nat} (hG : CGs w o rs ra ng gs hg ga) {i : Nat} (hi : i < ng) : mu_Ct G M_X11_gridAt [.ref o, .int (mI (i : Nat))] w (fun r w' => r = some (.ref (ga i)) ∧ w' = w) := by
  obtain ⟨ko, hox, ⟨r0, r1, r2, r3, r4, r6, r8, r10, r11, r12, r13, r14⟩, ⟨k1, k3, k4, kB, k12, k13, k14⟩, kS, kF, kQ, k26, kH⟩ := id hm
  obtain ⟨hn1, hn8, hng, hgs, hgn, hgi, hg1⟩ := id hG
  refine mu_ofWA G M_X11_gridAt [.ref o, .int (mI (i : Nat))] (by decide) rfl (Nat.le_of_ble_eq_true rfl) ?_
  intro X E
  have B : mu_B X G cX11_gridAt RX11 2 (mu_rm M_X11_gridAt) := E.1
  show mu_WA X G 2 _ _ 0 0 0 _ []
  refine mu_il_1 B dX11_gridAt_0 ?_
  refine mu_if_lt (tgt := 30) B dX11_gridAt_1 (by decide) (fun c1 => ?_) (fun c1 => ?_)
  · try rw [mI_lt0 ⟨by omega, by omega⟩] at c1
    exfalso
    omega
  · try rw [mI_lt0 ⟨by omega, by omega⟩] at c1
    refine mu_il_1 B dX11_gridAt_4 ?_
    refine mu_al_0 B dX11_gridAt_5 ?_
    refine mu_getI B dX11_gridAt_6 fX11_128 rfl (by exact ko) ?_
    rw [hng]
    refine mu_icmp_ge (tgt := 30) B dX11_gridAt_9 (by decide) (fun c9 => ?_) (fun c9 => ?_)
    · try rw [mI_le ⟨by omega, by omega⟩ ⟨by omega, by omega⟩] at c9
      exfalso
      omega
    · try rw [mI_le ⟨by omega, by omega⟩ ⟨by omega, by omega⟩] at c9
      refine mu_il_1 B dX11_gridAt_12 ?_
      refine mu_al_0 B dX11_gridAt_13 ?_
      refine mu_getR B dX11_gridAt_14 fX11_51 rfl (by exact ko) (by exact r8) ?_
      refine mu_len (ka := 6) B dX11_gridAt_17 (by exact k14) (by decide) ?_
      refine mu_icmp_ge (tgt := 30) B dX11_gridAt_18 (by decide) (fun c18 => ?_) (fun c18 => ?_)
      · try rw [mI_le ⟨by omega, by omega⟩ ⟨by omega, by omega⟩] at c18
        exfalso
        omega
      · try rw [mI_le ⟨by omega, by omega⟩ ⟨by omega, by omega⟩] at c18
        refine mu_al_0 B dX11_gridAt_21 ?_
        refine mu_getR B dX11_gridAt_22 fX11_51 rfl (by exact ko) (by exact r8) ?_
        refine mu_il_1 B dX11_gridAt_25 ?_
        refine mu_aald B dX11_gridAt_26 (by exact k14) (by simp) (mI_inN (by omega) (by decide)) (by rw [mI_clampN (by omega)]; exact (hgs i (by omega)).1) ?_
        refine mu_goto (tgt := 31) B dX11_gridAt_27 (by decide) ?_
        refine mu_aret E rfl (by simp) (by decide) (by decide) dX11_gridAt_31 (by simp) ?_
        exact ⟨rfl, rfl⟩

set_option maxHeartbeats 4000000 in
set_option maxRecDepth 100000 in
theorem c_X11_gridAt_n (G : mu_G) {w : mu_W} {o : Nat} (hm : CMo w o) {rs : Nat → mu_RS} {ra : Nat → Nat} {ng : Nat} {gs : Nat → mu_GS} {hg : Nat} {ga : Nat → Nat} (hG : CGs w o rs ra ng gs hg ga) {z : Int} (hz : mi_ok z) (hn : ¬ (0 ≤ z ∧ z < ng)) : mu_Ct G M_X11_gridAt [.ref o, .int (mI z)] w (fun r w' => r = some .null ∧ w' = w) := by
  obtain ⟨ko, hox, ⟨r0, r1, r2, r3, r4, r6, r8, r10, r11, r12, r13, r14⟩, ⟨k1, k3, k4, kB, k12, k13, k14⟩, kS, kF, kQ, k26, kH⟩ := id hm
  obtain ⟨hn1, hn8, hng, hgs, hgn, hgi, hg1⟩ := id hG
  obtain ⟨hz1, hz2⟩ := hz
  refine mu_ofWA G M_X11_gridAt [.ref o, .int (mI z)] (by decide) rfl (Nat.le_of_ble_eq_true rfl) ?_
  intro X E
  have B : mu_B X G cX11_gridAt RX11 2 (mu_rm M_X11_gridAt) := E.1
  show mu_WA X G 2 _ _ 0 0 0 _ []
  refine mu_il_1 B dX11_gridAt_0 ?_
  refine mu_if_lt (tgt := 30) B dX11_gridAt_1 (by decide) (fun c1 => ?_) (fun c1 => ?_)
  · try rw [mI_lt0 ⟨by omega, by omega⟩] at c1
    refine mu_null B dX11_gridAt_30 ?_
    refine mu_aret E rfl (by simp) (by decide) (by decide) dX11_gridAt_31 (by simp) ?_
    exact ⟨rfl, rfl⟩
  · try rw [mI_lt0 ⟨by omega, by omega⟩] at c1
    refine mu_il_1 B dX11_gridAt_4 ?_
    refine mu_al_0 B dX11_gridAt_5 ?_
    refine mu_getI B dX11_gridAt_6 fX11_128 rfl (by exact ko) ?_
    rw [hng]
    refine mu_icmp_ge (tgt := 30) B dX11_gridAt_9 (by decide) (fun c9 => ?_) (fun c9 => ?_)
    · try rw [mI_le ⟨by omega, by omega⟩ ⟨by omega, by omega⟩] at c9
      refine mu_null B dX11_gridAt_30 ?_
      refine mu_aret E rfl (by simp) (by decide) (by decide) dX11_gridAt_31 (by simp) ?_
      exact ⟨rfl, rfl⟩
    · try rw [mI_le ⟨by omega, by omega⟩ ⟨by omega, by omega⟩] at c9
      exfalso
      omega

set_option maxHeartbeats 4000000 in
set_option maxRecDepth 100000 in
theorem c_X11_isPlace (G : mu_G) {w : mu_W} {x y : Int} (hx : mi_ok x) (hy : mi_ok y) : mu_Ct G M_X11_isPlace [.int (mI x), .int (mI y)] w (fun r w' => r = some (.int (if -128 ≤ x ∧ x < 128 ∧ -128 ≤ y ∧ y < 128 then mI 1 else mI 0)) ∧ w' = w) := by
  obtain ⟨hx1, hx2⟩ := hx
  obtain ⟨hy1, hy2⟩ := hy
  refine mu_ofWA G M_X11_isPlace [.int (mI x), .int (mI y)] (by decide) rfl (Nat.le_of_ble_eq_true rfl) ?_
  intro X E
  have B : mu_B X G cX11_isPlace RX11 2 (mu_rm M_X11_isPlace) := E.1
  show mu_WA X G 2 _ _ 0 0 0 _ []
  refine mu_il_0 B dX11_isPlace_0 ?_
  refine mu_bipush (v := mI (-128)) B dX11_isPlace_1 (by decide) ?_
  refine mu_icmp_lt (tgt := 28) B dX11_isPlace_3 (by decide) (fun c3 => ?_) (fun c3 => ?_)
  · try rw [mI_lt ⟨by omega, by omega⟩ ⟨by omega, by omega⟩] at c3
    refine mu_iconst (v := mI 0) B dX11_isPlace_28 rfl ?_
    refine mu_zret E rfl (by decide) (by decide) dX11_isPlace_29 (by decide) ?_
    first
      | exact ⟨by rw [if_pos (by omega)], rfl⟩
      | exact ⟨by rw [if_neg (by omega)], rfl⟩
  · try rw [mI_lt ⟨by omega, by omega⟩ ⟨by omega, by omega⟩] at c3
    refine mu_il_0 B dX11_isPlace_6 ?_
    refine mu_bipush (v := mI 127) B dX11_isPlace_7 (by decide) ?_
    refine mu_icmp_gt (tgt := 28) B dX11_isPlace_9 (by decide) (fun c9 => ?_) (fun c9 => ?_)
    · try rw [mI_lt ⟨by omega, by omega⟩ ⟨by omega, by omega⟩] at c9
      refine mu_iconst (v := mI 0) B dX11_isPlace_28 rfl ?_
      refine mu_zret E rfl (by decide) (by decide) dX11_isPlace_29 (by decide) ?_
      first
        | exact ⟨by rw [if_pos (by omega)], rfl⟩
        | exact ⟨by rw [if_neg (by omega)], rfl⟩
    · try rw [mI_lt ⟨by omega, by omega⟩ ⟨by omega, by omega⟩] at c9
      refine mu_il_1 B dX11_isPlace_12 ?_
      refine mu_bipush (v := mI (-128)) B dX11_isPlace_13 (by decide) ?_
      refine mu_icmp_lt (tgt := 28) B dX11_isPlace_15 (by decide) (fun c15 => ?_) (fun c15 => ?_)
      · try rw [mI_lt ⟨by omega, by omega⟩ ⟨by omega, by omega⟩] at c15
        refine mu_iconst (v := mI 0) B dX11_isPlace_28 rfl ?_
        refine mu_zret E rfl (by decide) (by decide) dX11_isPlace_29 (by decide) ?_
        first
          | exact ⟨by rw [if_pos (by omega)], rfl⟩
          | exact ⟨by rw [if_neg (by omega)], rfl⟩
      · try rw [mI_lt ⟨by omega, by omega⟩ ⟨by omega, by omega⟩] at c15
        refine mu_il_1 B dX11_isPlace_18 ?_
        refine mu_bipush (v := mI 127) B dX11_isPlace_19 (by decide) ?_
        refine mu_icmp_gt (tgt := 28) B dX11_isPlace_21 (by decide) (fun c21 => ?_) (fun c21 => ?_)
        · try rw [mI_lt ⟨by omega, by omega⟩ ⟨by omega, by omega⟩] at c21
          refine mu_iconst (v := mI 0) B dX11_isPlace_28 rfl ?_
          refine mu_zret E rfl (by decide) (by decide) dX11_isPlace_29 (by decide) ?_
          first
            | exact ⟨by rw [if_pos (by omega)], rfl⟩
            | exact ⟨by rw [if_neg (by omega)], rfl⟩
        · try rw [mI_lt ⟨by omega, by omega⟩ ⟨by omega, by omega⟩] at c21
          refine mu_iconst (v := mI 1) B dX11_isPlace_24 rfl ?_
          refine mu_goto (tgt := 29) B dX11_isPlace_25 (by decide) ?_
          refine mu_zret E rfl (by decide) (by decide) dX11_isPlace_29 (by decide) ?_
          first
            | exact ⟨by rw [if_pos (by omega)], rfl⟩
            | exact ⟨by rw [if_neg (by omega)], rfl⟩
