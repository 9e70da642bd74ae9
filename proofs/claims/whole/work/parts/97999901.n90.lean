/-! ===== rows: rule, field, grid, remove ===== -/
section MK2
variable {w w' w2 wp : mu_W} {o : Nat} {n : Nat} {tp : Nat → Nat} {nr : Nat} {rs : Nat → mu_RS} {nf : Nat} {fs : Nat → mu_FS} {ng : Nat} {gs : Nat → mu_GS} {sr : Nat} {P : Nat → Prop} {sx sy : Int32} {ra fa ga : Nat → Nat} {hf hg : Nat}
/-- a field laid in the next place -/
theorem CSx.ffin (h : CSx wp o n tp nr rs nf fs ng gs sr P sx sy ra fa ga hf hg) (hn : nf < hf) {i : Nat} (hc : cle_post (mu_si (mu_sr wp (fa nf) 2 (some (ra i))) (fa nf) 3 (mI (i : Nat))) (fa nf) none w2) (hw : w' = mu_si w2 o 7 (mI ((nf : Int) + 1))) : CSx w' o n tp nr rs (nf + 1) (sp_new fs nf i) ng gs sr P sx sy ra fa ga hf hg ∧ mu_Gx (fun q j => (fa nf ≤ q ∧ q ≤ fa nf + 2) ∨ (q = o ∧ j = 7)) wp w' := by
  obtain ⟨-, F, hb, hx, hm, h4⟩ := hc
  have hl := h.lo.2.1 nf hn
  have cfo := (h.2.2.2.2.1.2.2.2.1 nf hn).2.2.2
  have G0 : mu_Gx (fun q j => (fa nf ≤ q ∧ q ≤ fa nf + 2) ∨ (q = o ∧ j = 7)) wp wp := ⟨Nat.le_refl _, fun q _ => ⟨rfl, fun j _ => ⟨rfl, rfl, rfl⟩⟩⟩
  have G1 := (G0.sr (q := fa nf) (k := 2) (Or.inl ⟨by omega, by omega⟩) (some (ra i))).si (q := fa nf) (k := 3) (Or.inl ⟨by omega, by omega⟩) (mI (i : Nat))
  have G2 : mu_Gx (fun q j => (fa nf ≤ q ∧ q ≤ fa nf + 2) ∨ (q = o ∧ j = 7)) wp w2 := G1.trans ((mu_Gx.fi F).mono (fun q j s => by unfold clS at s; omega))
  have G3 := G2.si (q := o) (k := 7) (Or.inr ⟨rfl, rfl⟩) (mI ((nf : Int) + 1))
  rw [← hw] at G3
  have I : ∀ q j, ¬ (q = o ∧ j = 7) → mu_iv w' q j = mu_iv w2 q j := fun q j l => by rw [hw, mu_iv_oth _ _ l]
  have r2 : mu_rv w2 (fa nf) 2 = some (ra i) := by rw [F.2.2.1, mu_rv_si, mu_rv_sr, if_pos ⟨rfl, rfl⟩]
  have i3 : mu_iv w2 (fa nf) 3 = mI (i : Nat) := by rw [F.e (by unfold clS; omega), mu_iv_same]
  refine ⟨h.fadd hn G3 (by rw [hw, mu_iv_same]; rfl) ?_ (f' := (i, mI 0, fun _ _ => 0)) ⟨?_, ⟨0, 0, 0, 0, 0, hx, ?_⟩, ?_, ?_, ?_⟩, G3⟩
  · have K : ∀ q, mu_kd w' q = mu_kd wp q := fun q => by rw [hw, mu_kd_si, F.2.1]; rfl
    have Rv : ∀ j, j ≠ 2 → mu_rv w' (fa nf) j = mu_rv wp (fa nf) j := fun j hj => by rw [hw, mu_rv_si, F.2.2.1, mu_rv_si, mu_rv_sr, if_neg (fun q => hj q.2)]
    exact cfo.sm (K _) (K _) (K _) (Rv 0 (by decide)) (Rv 1 (by decide))
  · rw [hw]; exact hb
  · exact ⟨(I _ _ (by omega)).trans hm.1, (I _ _ (by omega)).trans hm.2.1, (I _ _ (by omega)).trans hm.2.2.1, (I _ _ (by omega)).trans hm.2.2.2.1, (I _ _ (by omega)).trans hm.2.2.2.2⟩
  · rw [hw, mu_rv_si]; exact r2
  · exact (I _ _ (by omega)).trans i3
  · exact (I _ _ (by omega)).trans h4
/-- a grid laid in the next place -/
theorem CSx.gfin (h : CSx wp o n tp nr rs nf fs ng gs sr P sx sy ra fa ga hf hg) (hn : ng < hg) {i R K : Nat} (hR : gs_sd R) (hK : gs_sd K) (hF : mu_Fr (fun q j => (q = ga ng ∧ 1 ≤ j ∧ j ≤ 5) ∨ q = ga ng + 1) wp w2) (hr1 : mu_rv w2 (ga ng) 1 = some (ra i)) (hgf : CGf w2 (ga ng) (rs_S (rs i)) R K 0) (hz : ∀ j, j < 256 → mu_iv w2 (ga ng + 1) j = mI 0) (hw : w' = mu_si w2 o 9 (mI ((ng : Int) + 1))) : CSx w' o n tp nr rs nf fs (ng + 1) (sp_gnew gs ng i R K) sr P sx sy ra fa ga hf hg ∧ mu_Gx (fun q j => (ga ng ≤ q ∧ q ≤ ga ng + 1) ∨ (q = o ∧ j = 9)) wp w' := by
  have hl := h.lo.2.2 ng hn
  have cgo := (h.2.2.2.2.2.1.2.2.2.1 ng hn).2.2.2
  have G2 : mu_Gx (fun q j => (ga ng ≤ q ∧ q ≤ ga ng + 1) ∨ (q = o ∧ j = 9)) wp w2 := (mu_Gx.ofFr hF).mono (fun q j s => by omega)
  have G3 := G2.si (q := o) (k := 9) (Or.inr ⟨rfl, rfl⟩) (mI ((ng : Int) + 1))
  rw [← hw] at G3
  have I : ∀ q j, ¬ (q = o ∧ j = 9) → mu_iv w' q j = mu_iv w2 q j := fun q j l => by rw [hw, mu_iv_oth _ _ l]
  refine ⟨h.gadd hn G3 (by rw [hw, mu_iv_same]; rfl) ?_ (g' := (i, R, K, 0, fun _ _ => 0)) ⟨?_, fun p q hp hq => ?_, ?_⟩, G3⟩
  · exact cgo.sm (by rw [hw, mu_kd_si, hF.2.1]) (by rw [hw, mu_kd_si, hF.2.1]) (by rw [hw, mu_rv_si]; exact (hF.2.2 _ _ (by omega)).2.2)
  · exact ⟨(I _ _ (by omega)).trans hgf.1, (I _ _ (by omega)).trans hgf.2.1, (I _ _ (by omega)).trans hgf.2.2.1, (I _ _ (by omega)).trans hgf.2.2.2⟩
  · exact (I _ _ (by omega)).trans (hz _ (gs_i6 hR hK hp hq))
  · rw [hw, mu_rv_si]; exact hr1
/-- the last field goes -/
theorem CSx.frem (h : CSx w o n tp nr rs nf fs ng gs sr P sx sy ra fa ga hf hg) (hw : w' = mu_si w o 7 (mI ((nf : Int) - 1))) (hn : nf ≠ 0) : CSx w' o n tp nr rs (nf - 1) fs ng gs sr P sx sy ra fa ga hf hg ∧ mu_Gx (fun q j => q = o ∧ j = 7) w w' := by
  have F : mu_Fi (fun q j => q = o ∧ j = 7) w w' := by rw [hw]; exact mu_Fi.one _ _ _ _ ⟨rfl, rfl⟩
  have hG := mu_Gx.fi F
  have hl := h.lo
  have hxo := h.2.1
  have c5 := h.2.2.2.2.1
  have hSt := h.kS hG (fun q j l1 l2 => by omega)
  refine ⟨⟨h.kM hG (fun q j l => by unfold NR at l; omega) hSt, Nat.le_trans h.2.1 hG.1, h.kT hG (fun q j l1 l2 => by omega), h.kR hG (by omega) (fun j => by omega) (fun k hk q j l => by have := hl.1 k hk; unfold ru_in at l; omega), ⟨by have := c5.1; omega, c5.2.1, by rw [hw, mu_iv_same]; congr 1; omega, fun f hf' => ?_, fun f l1 l2 => (hG.r (by omega) (by omega)).trans (c5.2.2.2.2.1 f l1 l2), c5.2.2.2.2.2.1, fun f hf' => ?_⟩, h.kG hG (by omega) (fun j => by omega) (fun f hf' q j l1 l2 => by have := hl.2.2 f hf'; omega), h.kH hG (by omega) (fun j => by omega), h.kI hG (by omega) (by omega) (by omega), h.2.2.2.2.2.2.2.2⟩, hG⟩
  · obtain ⟨g1, g2, g3, g4⟩ := c5.2.2.2.1 f hf'
    exact ⟨F.rv g1, g2, Nat.le_trans g3 hG.1, g4.sm (F.2.1 _) (F.2.1 _) (F.2.1 _) (F.2.2.1 _ _) (F.2.2.1 _ _)⟩
  · have hlf := hl.2.1 f (by have := c5.1; omega)
    exact (c5.2.2.2.2.2.2 f (by omega)).sm (hG.smc (by omega) (fun j => by omega)) (hG.smc (by omega) (fun j => by omega))
/-- the last grid goes -/
theorem CSx.grem (h : CSx w o n tp nr rs nf fs ng gs sr P sx sy ra fa ga hf hg) (hw : w' = mu_si w o 9 (mI ((ng : Int) - 1))) (hn : ng ≠ 0) : CSx w' o n tp nr rs nf fs (ng - 1) gs sr P sx sy ra fa ga hf hg ∧ mu_Gx (fun q j => q = o ∧ j = 9) w w' := by
  have F : mu_Fi (fun q j => q = o ∧ j = 9) w w' := by rw [hw]; exact mu_Fi.one _ _ _ _ ⟨rfl, rfl⟩
  have hG := mu_Gx.fi F
  have hl := h.lo
  have hxo := h.2.1
  have c6 := h.2.2.2.2.2.1
  have hSt := h.kS hG (fun q j l1 l2 => by omega)
  refine ⟨⟨h.kM hG (fun q j l => by unfold NR at l; omega) hSt, Nat.le_trans h.2.1 hG.1, h.kT hG (fun q j l1 l2 => by omega), h.kR hG (by omega) (fun j => by omega) (fun k hk q j l => by have := hl.1 k hk; unfold ru_in at l; omega), h.kF hG (by omega) (fun j => by omega) (fun f hf' q j l1 l2 => by have := hl.2.1 f hf'; omega), ⟨by have := c6.1; omega, c6.2.1, by rw [hw, mu_iv_same]; congr 1; omega, fun f hf' => ?_, fun f l1 l2 => (hG.r (by omega) (by omega)).trans (c6.2.2.2.2.1 f l1 l2), c6.2.2.2.2.2.1, fun f hf' => ?_⟩, h.kH hG (by omega) (fun j => by omega), h.kI hG (by omega) (by omega) (by omega), h.2.2.2.2.2.2.2.2⟩, hG⟩
  · obtain ⟨g1, g2, g3, g4⟩ := c6.2.2.2.1 f hf'
    exact ⟨F.rv g1, g2, Nat.le_trans g3 hG.1, g4.sm (F.2.1 _) (F.2.1 _) (F.2.2.1 _ _)⟩
  · have hlf := hl.2.2 f (by have := c6.1; omega)
    exact (c6.2.2.2.2.2.2 f (by omega)).sm (hG.smc (by omega) (fun j => by omega)) (hG.smc (by omega) (fun j => by omega))
end MK2

set_option maxHeartbeats 2000000 in
theorem rw_rule {G : mu_G} : ROW G M_X11_rule M_X12_rule [] := by
  intro w o N n tp nr rs nf fs ng gs sr P sx sy hC hM hB hN
  obtain ⟨ra, fa, ga, hf, hg, C⟩ := id hC
  obtain ⟨c1, c2, c3, c4, c5, c6, c7, ⟨c8, c9, c10⟩, c11⟩ := id C
  obtain ⟨m1, m2, m3, m4, m5, m6, m7, m8⟩ := id hM
  have hfr : ∀ f, f < nf → fs_r (fs f) < nr := fun f h => (m4.2.2 f h).1.1
  have hgr : ∀ g, g < ng → gs_r (gs g) < nr := fun g h => (m5.2.2 g h).1.1
  have hnn : nr ≤ sp_ruleN n tp nr := by unfold sp_ruleN; split <;> first | omega | (split <;> omega)
  have hee : ∀ i, i < nr → sp_ruleR n tp nr rs i = rs i := fun i hi => by unfold sp_ruleR; exact up_lt hi
  have fin : ∀ {r : Option Value} {w1 : mu_W}, r = some (.int (mI (sp_ruleA n tp nr))) → CST w1 o 0 tp (sp_ruleN n tp nr) (sp_ruleR n tp nr rs) nf fs ng gs sr P sx sy → MST w1 (o + 35) n tp nr rs nf fs ng gs sr P sx sy → ∃ (n' : Nat) (tp' : Nat → Nat) (nr' : Nat) (rs' : Nat → mu_RS) (nf' : Nat) (fs' : Nat → mu_FS) (ng' : Nat) (gs' : Nat → mu_GS) (sr' : Nat) (P' : Nat → Prop) (sx' sy' : Int32), RB G M_X12_rule [] o N n' tp' nr' rs' nf' fs' ng' gs' sr' P' sx' sy' r w1 := fun {r w1} hr hC1 hM1 => by
    refine RB.mk (S := ru_S (o + 35)) hr hB.up hC1 ((c_X12_rule G hM1.1 hM1.2.1 hM1.2.2.1).mono (fun r2 w2 p2 => ?_)) (fun q j s => by unfold ru_S at s; omega)
    obtain ⟨hr2, hmo, ht2, hru2, F⟩ := p2
    have hf2 : MFi w2 (o + 35) nr rs nf fs := hM1.2.2.2.1.ei (F.e (by unfold ru_S; omega)) (fun q j l1 l2 => F.e (by unfold ru_S; omega))
    have hg2 : MGr w2 (o + 35) nr rs ng gs := hM1.2.2.2.2.1.ei (F.e (by unfold ru_S; omega)) (fun q j l1 l2 => F.e (by unfold ru_S; omega))
    exact ⟨hr2, F, ⟨hM1.1.fi F, ht2, hru2, hf2.re hnn hee, hg2.re hnn hee, hM1.2.2.2.2.2.1.ei (F.e (by unfold ru_S; omega)) (F.e (by unfold ru_S; omega)) (fun j => F.e (by unfold ru_S; omega)), (F.e (by unfold ru_S; omega)).trans hM1.2.2.2.2.2.2.1, (F.e (by unfold ru_S; omega)).trans hM1.2.2.2.2.2.2.2⟩⟩
  by_cases hf16 : 16 ≤ nr
  · refine (c_X11_rule_f G c1 c4 c3 hf16).mono (fun r w1 p => ?_)
    obtain ⟨hr, hct, F⟩ := p
    have hG := mu_Gx.fi F
    have hX := (C.tap hG (fun q j s => by unfold ap_S at s; unfold SCR; omega) (C.kS hG (fun q j l1 l2 => by unfold ap_S; omega)) hct).rext hee hgr
    refine fin (by rw [hr]; unfold sp_ruleA; rw [if_pos hf16]) ⟨ra, fa, ga, hf, hg, ?_⟩ (hM.out c2 hG (fun q j l1 l2 => by unfold ap_S; omega))
    rw [show sp_ruleN n tp nr = nr by unfold sp_ruleN; rw [if_pos hf16]]
    exact hX
  · by_cases hok : (sp_rule n tp).1 = true
    · refine (c_X11_rule_y G c1 c4 c3 (by omega) hok rfl).mono (fun r w2 p => ?_)
      obtain ⟨w1, ⟨hr, hG1, hx1, hru, h12, h5⟩, hct, F⟩ := p
      have hX1 := C.radd hfr hgr (by omega) hG1 hx1 hru h12 h5
      have hG := mu_Gx.fi F
      have hX := hX1.tap hG (fun q j s => by unfold ap_S at s; unfold SCR; omega) (hX1.kS hG (fun q j l1 l2 => by unfold ap_S; omega)) hct
      have hM1 := hM.out c2 hG1 (fun q j l1 l2 => by unfold mrS dmS; omega)
      refine fin (by rw [hr]; unfold sp_ruleA; rw [if_neg hf16, if_pos hok]) ⟨rs_up ra nr (mu_nx w), fa, ga, hf, hg, ?_⟩ (hM1.out hX1.2.1 hG (fun q j l1 l2 => by unfold ap_S; omega))
      rw [show sp_ruleN n tp nr = nr + 1 by unfold sp_ruleN; rw [if_neg hf16, if_pos hok]]
      exact hX
    · refine (c_X11_rule_b G c1 c4 c3 (by omega) hok (sp_rule_le n tp)).mono (fun r w2 p => ?_)
      obtain ⟨hr, w1, F1, hct, F⟩ := p
      have hG1 := mu_Gx.fi F1
      have hG := mu_Gx.fi F
      have hX1 := C.scr hG1 (fun q j s => by unfold rq_S at s; unfold SCR; omega) (C.kS hG1 (fun q j l1 l2 => by unfold rq_S; omega))
      have hX := (hX1.tap hG (fun q j s => by unfold ap_S at s; unfold SCR; omega) (hX1.kS hG (fun q j l1 l2 => by unfold ap_S; omega)) hct).rext hee hgr
      have hM1 := hM.out c2 hG1 (fun q j l1 l2 => by unfold rq_S; omega)
      refine fin (by rw [hr]; unfold sp_ruleA; rw [if_neg hf16, if_neg hok]) ⟨ra, fa, ga, hf, hg, ?_⟩ (hM1.out hX1.2.1 hG (fun q j l1 l2 => by unfold ap_S; omega))
      rw [show sp_ruleN n tp nr = nr by unfold sp_ruleN; rw [if_neg hf16, if_neg hok]]
      exact hX

set_option maxHeartbeats 2000000 in
theorem rw_field {G : mu_G} {a : Int32} : ROW G M_X11_field M_X12_field [.int a] := by
  intro w o N n tp nr rs nf fs ng gs sr P sx sy hC hM hB hN
  obtain ⟨za, ha, rfl⟩ := mI_ex a
  obtain ⟨ra, fa, ga, hf, hg, C⟩ := id hC
  obtain ⟨c1, c2, c3, c4, c5, c6, c7, ⟨c8, c9, c10⟩, c11⟩ := id C
  obtain ⟨m1, m2, m3, m4, m5, m6, m7, m8⟩ := id hM
  have hR := fun w1 (h : MST w1 (o + 35) n tp nr rs nf fs ng gs sr P sx sy) => c_X12_field G h.1 h.2.2.1 h.2.2.2.1 ha
  by_cases hq : 0 ≤ za ∧ za < nr
  · obtain ⟨i, rfl⟩ := Int.eq_ofNat_of_zero_le hq.1
    have hi : i < nr := by omega
    by_cases hqt : rs_nb (rs i) ≠ 0 ∧ rs_bo (rs i) % 2 = 0
    · by_cases hfull : 8 ≤ nf
      · refine (c_X11_field_f G c1 c4 hi hqt.1 hqt.2 c5 hfull).mono (fun r w1 p => ?_)
        obtain ⟨p, rfl⟩ := p
        refine RB.ro p hB hC hM ((hR _ hM).mono (fun r2 w2 p2 => ?_))
        unfold fn_post at p2
        rw [if_neg (fun q => q hq), Int.toNat_natCast, if_neg (fun q => q hqt), if_pos hfull] at p2
        exact p2
      · have fin : ∀ {r : Option Value} {w1 : mu_W}, r = some (.int (mI (nf : Nat))) → CST w1 o n tp nr rs (nf + 1) (sp_new fs nf i) ng gs sr P sx sy → MST w1 (o + 35) n tp nr rs nf fs ng gs sr P sx sy → ∃ (n' : Nat) (tp' : Nat → Nat) (nr' : Nat) (rs' : Nat → mu_RS) (nf' : Nat) (fs' : Nat → mu_FS) (ng' : Nat) (gs' : Nat → mu_GS) (sr' : Nat) (P' : Nat → Prop) (sx' sy' : Int32), RB G M_X12_field [.int (mI (i : Nat))] o N n' tp' nr' rs' nf' fs' ng' gs' sr' P' sx' sy' r w1 := fun {r w1} hr hC1 hM1 => by
          refine RB.mk (S := fn_S (o + 35) nf) hr hB.up hC1 ((hR w1 hM1).mono (fun r2 w2 p2 => ?_)) (fun q j s => by unfold fn_S at s; omega)
          unfold fn_post at p2
          rw [if_neg (fun q => q hq), Int.toNat_natCast, if_neg (fun q => q hqt), if_neg hfull] at p2
          obtain ⟨hr2, hf2, F⟩ := p2
          exact ⟨hr2, F, ⟨hM1.1.fi F, hM1.2.1.ei (F.e (by unfold fn_S; omega)) (fun j => F.e (by unfold fn_S; omega)), hM1.2.2.1.ei (F.e (by unfold fn_S; omega)) (fun q j l1 l2 => F.e (by unfold fn_S; omega)), hf2, hM1.2.2.2.2.1.ei (F.e (by unfold fn_S; omega)) (fun q j l1 l2 => F.e (by unfold fn_S; omega)), hM1.2.2.2.2.2.1.ei (F.e (by unfold fn_S; omega)) (F.e (by unfold fn_S; omega)) (fun j => F.e (by unfold fn_S; omega)), (F.e (by unfold fn_S; omega)).trans hM1.2.2.2.2.2.2.1, (F.e (by unfold fn_S; omega)).trans hM1.2.2.2.2.2.2.2⟩⟩
        by_cases hex : nf < hf
        · refine (c_X11_field_y0 G c1 c4 hi hqt.1 hqt.2 c5 (by omega) hex).mono (fun r w1 p => ?_)
          obtain ⟨hr, w2, hcl, hw⟩ := p
          have hli := C.lo.2.1 nf hex
          obtain ⟨hX, hG⟩ := C.ffin hex hcl hw
          exact fin hr ⟨_, _, _, _, _, hX⟩ (hM.out c2 hG (fun q j l1 l2 => by omega))
        · have hex2 : nf = hf := by have := c5.1; omega
          refine (c_X11_field_y1 G c1 c4 hi hqt.1 hqt.2 c5 (by omega) hex2).mono (fun r w1 p => ?_)
          obtain ⟨hr, w2, w3, hRG, hx2, hFo, hcl, hw⟩ := p
          subst hex2
          have G1 : mu_Gx (fun q j => q = o + 13 ∧ j = nf) w (mu_sr w2 (o + 13) nf (some (mu_nx w))) := ((mu_Gx.ofRG hRG rfl (by omega)).mono (fun q j s => s.elim)).sr (q := o + 13) (k := nf) ⟨rfl, rfl⟩ _
          have hFo2 : CFo (mu_sr w2 (o + 13) nf (some (mu_nx w))) (mu_nx w) := hFo.sm rfl rfl rfl (by rw [mu_rv_sr, if_neg (by omega)]) (by rw [mu_rv_sr, if_neg (by omega)])
          have hX1 := C.fplc (by omega) G1 hx2 hFo2 (by rw [mu_rv_sr, if_pos ⟨rfl, rfl⟩])
          have hM1 := hM.out c2 G1 (fun q j l1 l2 => by omega)
          obtain ⟨hX, hG⟩ := hX1.ffin (by omega) (i := i) (by rw [up_at]; exact hcl) hw
          rw [up_at] at hG
          exact fin hr ⟨_, _, _, _, _, hX⟩ (hM1.out hX1.2.1 hG (fun q j l1 l2 => by omega))
    · refine (c_X11_field_v G c1 c4 hi hqt).mono (fun r w1 p => ?_)
      obtain ⟨p, rfl⟩ := p
      refine RB.ro p hB hC hM ((hR _ hM).mono (fun r2 w2 p2 => ?_))
      unfold fn_post at p2
      rw [if_neg (fun q => q hq), Int.toNat_natCast, if_pos hqt] at p2
      exact p2
  · refine (c_X11_field_n G c1 c4 ha hq).mono (fun r w1 p => ?_)
    obtain ⟨p, rfl⟩ := p
    refine RB.ro p hB hC hM ((hR _ hM).mono (fun r2 w2 p2 => ?_))
    unfold fn_post at p2
    rw [if_pos hq] at p2
    exact p2

set_option maxHeartbeats 2000000 in
theorem rw_grid {G : mu_G} {a b c : Int32} : ROW G M_X11_grid M_X12_grid [.int a, .int b, .int c] := by
  intro w o N n tp nr rs nf fs ng gs sr P sx sy hC hM hB hN
  obtain ⟨za, ha, rfl⟩ := mI_ex a
  obtain ⟨zb, hb, rfl⟩ := mI_ex b
  obtain ⟨zc, hc, rfl⟩ := mI_ex c
  obtain ⟨ra, fa, ga, hf, hg, C⟩ := id hC
  obtain ⟨c1, c2, c3, c4, c5, c6, c7, ⟨c8, c9, c10⟩, c11⟩ := id C
  obtain ⟨m1, m2, m3, m4, m5, m6, m7, m8⟩ := id hM
  have hR := fun w1 (h : MST w1 (o + 35) n tp nr rs nf fs ng gs sr P sx sy) => c_X12_grid G h.1 h.2.2.1 h.2.2.2.2.1 ha hb hc
  by_cases hq : 0 ≤ za ∧ za < nr
  · obtain ⟨i, rfl⟩ := Int.eq_ofNat_of_zero_le hq.1
    have hi : i < nr := by omega
    by_cases hp : (2 ≤ zb ∧ zb ≤ 16 ∧ zb % 2 = 0) ∧ 2 ≤ zc ∧ zc ≤ 16 ∧ zc % 2 = 0
    · obtain ⟨R, rfl⟩ := Int.eq_ofNat_of_zero_le (show 0 ≤ zb by omega)
      obtain ⟨K, rfl⟩ := Int.eq_ofNat_of_zero_le (show 0 ≤ zc by omega)
      have hsR : gs_sd R := ⟨by omega, by omega, by omega⟩
      have hsK : gs_sd K := ⟨by omega, by omega, by omega⟩
      by_cases h0 : rs_nb (rs i) = 0
      · by_cases hfull : 8 ≤ ng
        · refine (c_X11_grid_f G c1 c4 hi hsR hsK c6 h0 hfull).mono (fun r w1 p => ?_)
          obtain ⟨p, rfl⟩ := p
          refine RB.ro p hB hC hM ((hR _ hM).mono (fun r2 w2 p2 => ?_))
          unfold gr_post at p2
          rw [if_neg (fun q => q ⟨hq, hp⟩), Int.toNat_natCast, if_neg (fun q => q h0), if_pos (by have := m5.1; omega)] at p2
          exact p2
        · have fin : ∀ {r : Option Value} {w1 : mu_W}, r = some (.int (mI (ng : Nat))) → CST w1 o n tp nr rs nf fs (ng + 1) (sp_gnew gs ng i R K) sr P sx sy → MST w1 (o + 35) n tp nr rs nf fs ng gs sr P sx sy → ∃ (n' : Nat) (tp' : Nat → Nat) (nr' : Nat) (rs' : Nat → mu_RS) (nf' : Nat) (fs' : Nat → mu_FS) (ng' : Nat) (gs' : Nat → mu_GS) (sr' : Nat) (P' : Nat → Prop) (sx' sy' : Int32), RB G M_X12_grid [.int (mI (i : Nat)), .int (mI (R : Nat)), .int (mI (K : Nat))] o N n' tp' nr' rs' nf' fs' ng' gs' sr' P' sx' sy' r w1 := fun {r w1} hr hC1 hM1 => by
            refine RB.mk (S := gr_S (o + 35) ng) hr (fun g hg => ?_) hC1 ((hR w1 hM1).mono (fun r2 w2 p2 => ?_)) (fun q j s => by unfold gr_S at s; omega)
            · unfold sp_gnew
              by_cases e : g = ng
              · rw [e, up_at]; exact Nat.zero_le _
              · rw [up_lt (by omega)]; exact hB.up g (by omega)
            · unfold gr_post at p2
              rw [if_neg (fun q => q ⟨hq, hp⟩), Int.toNat_natCast, Int.toNat_natCast, Int.toNat_natCast, if_neg (fun q => q h0), if_neg (by omega)] at p2
              obtain ⟨hr2, hg2, F⟩ := p2
              exact ⟨hr2, F, ⟨hM1.1.fi F, hM1.2.1.ei (F.e (by unfold gr_S; omega)) (fun j => F.e (by unfold gr_S; omega)), hM1.2.2.1.ei (F.e (by unfold gr_S; omega)) (fun q j l1 l2 => F.e (by unfold gr_S; omega)), hM1.2.2.2.1.ei (F.e (by unfold gr_S; omega)) (fun q j l1 l2 => F.e (by unfold gr_S; omega)), hg2, hM1.2.2.2.2.2.1.ei (F.e (by unfold gr_S; omega)) (F.e (by unfold gr_S; omega)) (fun j => F.e (by unfold gr_S; omega)), (F.e (by unfold gr_S; omega)).trans hM1.2.2.2.2.2.2.1, (F.e (by unfold gr_S; omega)).trans hM1.2.2.2.2.2.2.2⟩⟩
          by_cases hex : ng < hg
          · refine (c_X11_grid_y0 G c1 c4 hi hsR hsK c6 h0 (by omega) hex).mono (fun r w1 p => ?_)
            obtain ⟨hr, w2, ⟨hF, hr1, hgf, hz⟩, hw⟩ := p
            have hli := C.lo.2.2 ng hex
            obtain ⟨hX, hG⟩ := C.gfin hex hsR hsK hF hr1 hgf hz hw
            exact fin hr ⟨_, _, _, _, _, hX⟩ (hM.out c2 hG (fun q j l1 l2 => by omega))
          · have hex2 : ng = hg := by have := c6.1; omega
            refine (c_X11_grid_y1 G c1 c4 hi hsR hsK c6 h0 (by omega) hex2).mono (fun r w1 p => ?_)
            obtain ⟨hr, w2, w3, hRG, hx2, hFo, ⟨hF, hr1, hgf, hz⟩, hw⟩ := p
            subst hex2
            have G1 : mu_Gx (fun q j => q = o + 14 ∧ j = ng) w (mu_sr w2 (o + 14) ng (some (mu_nx w))) := ((mu_Gx.ofRG hRG rfl (by omega)).mono (fun q j s => s.elim)).sr (q := o + 14) (k := ng) ⟨rfl, rfl⟩ _
            have hFo2 : CGo (mu_sr w2 (o + 14) ng (some (mu_nx w))) (mu_nx w) := hFo.sm rfl rfl (by rw [mu_rv_sr, if_neg (by omega)])
            have hX1 := C.gplc (by omega) G1 hx2 hFo2 (by rw [mu_rv_sr, if_pos ⟨rfl, rfl⟩])
            have hM1 := hM.out c2 G1 (fun q j l1 l2 => by omega)
            obtain ⟨hX, hG⟩ := hX1.gfin (by omega) (i := i) hsR hsK (by rw [up_at]; exact hF) (by rw [up_at]; exact hr1) (by rw [up_at]; exact hgf) (by rw [up_at]; exact hz) hw
            rw [up_at] at hG
            exact fin hr ⟨_, _, _, _, _, hX⟩ (hM1.out hX1.2.1 hG (fun q j l1 l2 => by omega))
      · refine (c_X11_grid_v G c1 c4 hi hsR hsK h0).mono (fun r w1 p => ?_)
        obtain ⟨p, rfl⟩ := p
        refine RB.ro p hB hC hM ((hR _ hM).mono (fun r2 w2 p2 => ?_))
        unfold gr_post at p2
        rw [if_neg (fun q => q ⟨hq, hp⟩), Int.toNat_natCast, if_pos h0] at p2
        exact p2
    · refine (c_X11_grid_b G c1 c4 hi hb hc hp).mono (fun r w1 p => ?_)
      obtain ⟨p, rfl⟩ := p
      refine RB.ro p hB hC hM ((hR _ hM).mono (fun r2 w2 p2 => ?_))
      unfold gr_post at p2
      rw [if_pos (fun q => hp q.2)] at p2
      exact p2
  · refine (c_X11_grid_n G c1 c4 ha hq).mono (fun r w1 p => ?_)
    obtain ⟨p, rfl⟩ := p
    refine RB.ro p hB hC hM ((hR _ hM).mono (fun r2 w2 p2 => ?_))
    unfold gr_post at p2
    rw [if_pos (fun q => hq q.1)] at p2
    exact p2

set_option maxHeartbeats 2000000 in
theorem rw_remove {G : mu_G} {a : Int32} : ROW G M_X11_remove M_X12_remove [.int a] := by
  intro w o N n tp nr rs nf fs ng gs sr P sx sy hC hM hB hN
  obtain ⟨za, ha, rfl⟩ := mI_ex a
  obtain ⟨ra, fa, ga, hf, hg, C⟩ := id hC
  obtain ⟨c1, c2, c3, c4, c5, c6, c7, ⟨c8, c9, c10⟩, c11⟩ := id C
  obtain ⟨m1, m2, m3, m4, m5, m6, m7, m8⟩ := id hM
  have hf8 := m4.1
  have hg8 := m5.1
  have hR := fun w1 (h : MST w1 (o + 35) n tp nr rs nf fs ng gs sr P sx sy) => c_X12_remove G h.1 h.2.2.2.1.2.1 h.2.2.2.2.1.2.1 h.2.2.2.1.1 h.2.2.2.2.1.1 ha
  refine (c_X11_remove G c1 c5.2.2.1 c6.2.2.1 hf8 hg8 ha).mono (fun r w1 p => ?_)
  by_cases h1 : za = 1
  · rw [if_pos h1] at p
    by_cases h0 : nf = 0
    · rw [if_pos h0] at p
      obtain ⟨p, rfl⟩ := p
      refine RB.ro p hB hC hM ((hR _ hM).mono (fun r2 w2 p2 => ?_))
      rw [if_pos h1, if_pos h0] at p2
      exact p2
    · rw [if_neg h0] at p
      obtain ⟨hX, hG⟩ := C.frem p.2 h0
      have hM1 := hM.out c2 hG (fun q j l1 l2 => by omega)
      refine RB.mk (S := fun q j => q = o + 35 ∧ j = 13) p.1 hB.up ⟨ra, fa, ga, hf, hg, hX⟩ ((hR _ hM1).mono (fun r2 w2 p2 => ?_)) (fun q j s => by omega)
      rw [if_pos h1, if_neg h0] at p2
      have F : mu_Fi (fun q j => q = o + 35 ∧ j = 13) w1 w2 := by rw [p2.2]; exact mu_Fi.one _ _ _ _ ⟨rfl, rfl⟩
      refine ⟨p2.1, F, hM1.1.fi F, hM1.2.1.ei (F.e (by omega)) (fun j => F.e (by omega)), hM1.2.2.1.ei (F.e (by omega)) (fun q j l1 l2 => F.e (by omega)), ⟨by omega, by rw [p2.2, mu_iv_same]; congr 1; omega, fun f hf' => ?_⟩, hM1.2.2.2.2.1.ei (F.e (by omega)) (fun q j l1 l2 => F.e (by omega)), hM1.2.2.2.2.2.1.ei (F.e (by omega)) (F.e (by omega)) (fun j => F.e (by omega)), (F.e (by omega)).trans hM1.2.2.2.2.2.2.1, (F.e (by omega)).trans hM1.2.2.2.2.2.2.2⟩
      obtain ⟨g1, g2, g3, g4⟩ := hM1.2.2.2.1.2.2 f (by omega)
      exact ⟨g1, F.iv (by omega) g2, F.iv (by omega) g3, fun s t hs ht => F.iv (by omega) (g4 s t hs ht)⟩
  · rw [if_neg h1] at p
    by_cases h2 : za = 2
    · rw [if_pos h2] at p
      by_cases h0 : ng = 0
      · rw [if_pos h0] at p
        obtain ⟨p, rfl⟩ := p
        refine RB.ro p hB hC hM ((hR _ hM).mono (fun r2 w2 p2 => ?_))
        rw [if_neg h1, if_pos h2, if_pos h0] at p2
        exact p2
      · rw [if_neg h0] at p
        obtain ⟨hX, hG⟩ := C.grem p.2 h0
        have hM1 := hM.out c2 hG (fun q j l1 l2 => by omega)
        refine RB.mk (S := fun q j => q = o + 35 ∧ j = 46) p.1 (fun g hg => hB.up g (by omega)) ⟨ra, fa, ga, hf, hg, hX⟩ ((hR _ hM1).mono (fun r2 w2 p2 => ?_)) (fun q j s => by omega)
        rw [if_neg h1, if_pos h2, if_neg h0] at p2
        have F : mu_Fi (fun q j => q = o + 35 ∧ j = 46) w1 w2 := by rw [p2.2]; exact mu_Fi.one _ _ _ _ ⟨rfl, rfl⟩
        refine ⟨p2.1, F, hM1.1.fi F, hM1.2.1.ei (F.e (by omega)) (fun j => F.e (by omega)), hM1.2.2.1.ei (F.e (by omega)) (fun q j l1 l2 => F.e (by omega)), hM1.2.2.2.1.ei (F.e (by omega)) (fun q j l1 l2 => F.e (by omega)), ⟨by omega, by rw [p2.2, mu_iv_same]; congr 1; omega, fun g hg' => ?_⟩, hM1.2.2.2.2.2.1.ei (F.e (by omega)) (F.e (by omega)) (fun j => F.e (by omega)), (F.e (by omega)).trans hM1.2.2.2.2.2.2.1, (F.e (by omega)).trans hM1.2.2.2.2.2.2.2⟩
        obtain ⟨g1, g2, g3, g4, g5, g6⟩ := hM1.2.2.2.2.1.2.2 g (by omega)
        exact ⟨g1, F.iv (by omega) g2, F.iv (by omega) g3, F.iv (by omega) g4, F.iv (by omega) g5, fun s t hs ht => F.iv (by omega) (g6 s t hs ht)⟩
    · rw [if_neg h2] at p
      obtain ⟨p, rfl⟩ := p
      refine RB.ro p hB hC hM ((hR _ hM).mono (fun r2 w2 p2 => ?_))
      rw [if_neg h1, if_neg h2] at p2
      exact p2
