/-! ===== rows: what is made and removed ===== -/
theorem sp_dg_l9 (b : Nat → Int) : ∀ f p le t, (sp_dg b f p le t).1 ≤ p + f
  | 0, p, le, t => Nat.le_refl _
  | f + 1, p, le, t => by
    rw [sp_dg]
    by_cases h : 48 + (le : Int) ≤ b p ∧ b p ≤ 56
    · rw [if_pos h]
      have := sp_dg_l9 b f (p + 1) ((b p - 48).toNat + 1) (t ||| 2 ^ (b p - 48).toNat)
      omega
    · rw [if_neg h]
      show p ≤ p + (f + 1)
      omega
theorem sp_cnt_le (b : Nat → Int) : (sp_cnt b).2.1 ≤ 2000 := by
  have h1 := sp_dg_l9 b 9 1 0 0
  have h2 := sp_dg_l9 b 9 ((sp_dg b 9 1 0 0).1 + 2) 0 0
  unfold sp_cnt
  repeat' split
  all_goals (first | omega | (show _ ≤ 2000; omega) | (simp only []; omega))
theorem sp_blk_le (b : Nat → Int) : (sp_blk b).2.1 ≤ 2000 := by
  have hS : sp_S b = 0 ∨ sp_S b = 2 ∨ sp_S b = 3 ∨ sp_S b = 4 := by
    unfold sp_S
    by_cases h : 50 ≤ b 1 ∧ b 1 ≤ 52
    · rw [if_pos h]; omega
    · rw [if_neg h]; omega
  have h1 := sp_run_le b (sp_S b) (4 * (sp_S b * sp_S b * sp_S b * sp_S b)) 2
  have h4 : sp_S b * sp_S b * sp_S b * sp_S b ≤ 256 := by
    rcases hS with h | h | h | h <;> rw [h] <;> decide
  unfold sp_blk
  repeat' split
  all_goals (first | omega | (show _ ≤ 2000; omega) | (simp only []; omega))
theorem sp_rule_le (n : Nat) (tp : Nat → Nat) : (sp_rule n tp).2.1 ≤ 2000 := by
  have h1 := sp_cnt_le (tb n tp)
  have h2 := sp_blk_le (tb n tp)
  unfold sp_rule
  split
  · exact h2
  · exact h1
theorem up_lt {α : Type} {f : Nat → α} {k i : Nat} {v : α} (h : i < k) : rs_up f k v i = f i := by unfold rs_up; rw [if_neg (by omega)]
theorem up_at {α : Type} {f : Nat → α} {k : Nat} {v : α} : rs_up f k v k = v := by unfold rs_up; rw [if_pos rfl]
theorem MFi.re {w : mu_W} {m nr nr' : Nat} {rs rs' : Nat → mu_RS} {nf : Nat} {fs : Nat → mu_FS} (h : MFi w m nr rs nf fs) (hn : nr ≤ nr') (e : ∀ i, i < nr → rs' i = rs i) : MFi w m nr' rs' nf fs := ⟨h.1, h.2.1, fun f hf => by
  obtain ⟨⟨a1, a2, a3, a4⟩, b⟩ := h.2.2 f hf
  exact ⟨⟨by omega, by rw [e _ a1]; exact a2, by rw [e _ a1]; exact a3, a4⟩, b⟩⟩
theorem MGr.re {w : mu_W} {m nr nr' : Nat} {rs rs' : Nat → mu_RS} {ng : Nat} {gs : Nat → mu_GS} (h : MGr w m nr rs ng gs) (hn : nr ≤ nr') (e : ∀ i, i < nr → rs' i = rs i) : MGr w m nr' rs' ng gs := ⟨h.1, h.2.1, fun g hg => by
  obtain ⟨⟨a1, a2, a3, a4, a5, a6⟩, b⟩ := h.2.2 g hg
  exact ⟨⟨by omega, by rw [e _ a1]; exact a2, a3, a4, a5, by rw [e _ a1]; exact a6⟩, b⟩⟩
section MAK
variable {S : Nat → Nat → Prop} {w w' : mu_W} {o : Nat} {n : Nat} {tp : Nat → Nat} {nr : Nat} {rs : Nat → mu_RS} {nf : Nat} {fs : Nat → mu_FS} {ng : Nat} {gs : Nat → mu_GS} {sr : Nat} {P : Nat → Prop} {sx sy : Int32} {ra fa ga : Nat → Nat} {hf hg : Nat}
/-- other rules behind those in use -/
theorem CSx.rext (h : CSx w o n tp nr rs nf fs ng gs sr P sx sy ra fa ga hf hg) {rs' : Nat → mu_RS} (e : ∀ i, i < nr → rs' i = rs i) (hgr : ∀ g, g < ng → gs_r (gs g) < nr) : CSx w o n tp nr rs' nf fs ng gs sr P sx sy ra fa ga hf hg := by
  obtain ⟨c1, c2, c3, c4, c5, c6, c7⟩ := h
  refine ⟨c1, c2, c3, ⟨c4.1, c4.2.1, fun i hi => by rw [e i hi]; exact c4.2.2 i hi⟩, c5, ⟨c6.1, c6.2.1, c6.2.2.1, c6.2.2.2.1, c6.2.2.2.2.1, c6.2.2.2.2.2.1, fun g hg => ?_⟩, c7⟩
  rw [e _ (hgr g hg)]
  exact c6.2.2.2.2.2.2 g hg
/-- a rule more -/
theorem CSx.radd (h : CSx w o n tp nr rs nf fs ng gs sr P sx sy ra fa ga hf hg) (hfr : ∀ f, f < nf → fs_r (fs f) < nr) (hgr : ∀ g, g < ng → gs_r (gs g) < nr) (hn : nr < 16) (hG : mu_Gx (mrS o nr) w w') (hx : mu_nx w' = mu_nx w + 5) {ru : mu_RS} (hru : CRu w' (mu_nx w) ru) (h12 : mu_rv w' (o + 12) nr = some (mu_nx w)) (h5 : mu_iv w' o 5 = mI ((nr + 1 : Nat) : Int)) : CSx w' o n tp (nr + 1) (rs_up rs nr ru) nf fs ng gs sr P sx sy (rs_up ra nr (mu_nx w)) fa ga hf hg := by
  have hl := h.lo
  have hxo := h.2.1
  have N : ∀ q j, ¬ mrS o nr q j → ¬ mrS o nr q j := fun q j l => l
  have hSt := h.kS hG (fun q j l1 l2 => by unfold mrS dmS; omega)
  have hF := h.kF hG (by unfold mrS dmS; omega) (fun j => by unfold mrS dmS; omega) (fun f hf' q j l1 l2 => by have := hl.2.1 f hf'; unfold mrS dmS; omega)
  have hGr := h.kG hG (by unfold mrS dmS; omega) (fun j => by unfold mrS dmS; omega) (fun f hf' q j l1 l2 => by have := hl.2.2 f hf'; unfold mrS dmS; omega)
  refine ⟨h.kM hG (fun q j l => by unfold NR at l; unfold mrS dmS; omega) hSt, by omega, h.kT hG (fun q j l1 l2 => by unfold mrS dmS; omega), ⟨by omega, h5, fun i hi => ?_⟩, ⟨hF.1, hF.2.1, hF.2.2.1, hF.2.2.2.1, hF.2.2.2.2.1, hF.2.2.2.2.2.1, fun f hf' => ?_⟩, ⟨hGr.1, hGr.2.1, hGr.2.2.1, hGr.2.2.2.1, hGr.2.2.2.2.1, hGr.2.2.2.2.2.1, fun g hg' => ?_⟩, h.kH hG (by unfold mrS dmS; omega) (fun j => by unfold mrS dmS; omega), h.kI hG (by unfold mrS dmS; omega) (by unfold mrS dmS; omega) (by unfold mrS dmS; omega), fun i hi => ?_, h.2.2.2.2.2.2.2.2.2⟩
  · by_cases e : i = nr
    · rw [e, up_at, up_at]
      exact ⟨h12, by omega, by omega, hru⟩
    · have hi' : i < nr := by omega
      rw [up_lt hi', up_lt hi']
      obtain ⟨g1, g2, g3, g4⟩ := h.2.2.2.1.2.2 i hi'
      have hli := hl.1 i hi'
      refine ⟨(hG.r (by omega) (by unfold mrS dmS; omega)).trans g1, g2, by omega, g4.kp (fun q hq => ?_)⟩
      unfold ru_in at hq
      have hs := hG.smc (q := q) (by omega) (fun j => by unfold mrS dmS; omega)
      exact ⟨hs.1, hs.2.1, hs.2.2.2⟩
  · rw [up_lt (hfr f hf')]
    exact hF.2.2.2.2.2.2 f hf'
  · rw [up_lt (hgr g hg'), up_lt (hgr g hg')]
    exact hGr.2.2.2.2.2.2 g hg'
  · by_cases e : i = nr
    · rw [e, up_at]; omega
    · rw [up_lt (by omega)]; exact (hl.1 i (by omega)).1
/-- a field's place more -/
theorem CSx.fplc (h : CSx w o n tp nr rs nf fs ng gs sr P sx sy ra fa ga hf hg) (hn : hf < 8) (hG : mu_Gx (fun q j => q = o + 13 ∧ j = hf) w w') (hx : mu_nx w' = mu_nx w + 3) (hFo : CFo w' (mu_nx w)) (h13 : mu_rv w' (o + 13) hf = some (mu_nx w)) : CSx w' o n tp nr rs nf fs ng gs sr P sx sy ra (rs_up fa hf (mu_nx w)) ga (hf + 1) hg := by
  have hl := h.lo
  have hxo := h.2.1
  have c5 := h.2.2.2.2.1
  have hSt := h.kS hG (fun q j l1 l2 => by omega)
  refine ⟨h.kM hG (fun q j l => by unfold NR at l; omega) hSt, by omega, h.kT hG (fun q j l1 l2 => by omega), h.kR hG (by omega) (fun j => by omega) (fun i hi q j l => by have := hl.1 i hi; unfold ru_in at l; omega), ⟨by have := c5.1; omega, by omega, (hG.i (by omega) (by omega)).trans c5.2.2.1, fun f hf' => ?_, fun f l1 l2 => (hG.r (by omega) (by omega)).trans (c5.2.2.2.2.1 f (by omega) l2), fun f g l1 l2 e => ?_, fun f hf' => ?_⟩, h.kG hG (by omega) (fun j => by omega) (fun f hf' q j l1 l2 => by have := hl.2.2 f hf'; omega), h.kH hG (by omega) (fun j => by omega), h.kI hG (by omega) (by omega) (by omega), (h.2.2.2.2.2.2.2.2).1, fun i hi => ?_, (h.2.2.2.2.2.2.2.2).2.2⟩
  · by_cases e : f = hf
    · rw [e, up_at]; exact ⟨h13, by omega, by omega, hFo⟩
    · rw [up_lt (by omega)]
      obtain ⟨g1, g2, g3, g4⟩ := c5.2.2.2.1 f (by omega)
      have hlf := hl.2.1 f (by omega)
      exact ⟨(hG.r (by omega) (by omega)).trans g1, g2, by omega, g4.sm (hG.2 _ (by omega)).1 (hG.2 _ (by omega)).1 (hG.2 _ (by omega)).1 (hG.r (by omega) (by omega)) (hG.r (by omega) (by omega))⟩
  · by_cases e1 : f = hf
    · by_cases e2 : g = hf
      · omega
      · have := hl.2.1 g (by omega)
        rw [e1, up_at, up_lt (by omega)] at e
        omega
    · by_cases e2 : g = hf
      · have := hl.2.1 f (by omega)
        rw [e2, up_at, up_lt (by omega)] at e
        omega
      · rw [up_lt (by omega), up_lt (by omega)] at e
        exact c5.2.2.2.2.2.1 f g (by omega) (by omega) e
  · have hfh : f < hf := Nat.lt_of_lt_of_le hf' c5.1
    have hlf := hl.2.1 f hfh
    rw [up_lt hfh]
    exact (c5.2.2.2.2.2.2 f hf').sm (hG.smc (by omega) (fun j => by omega)) (hG.smc (by omega) (fun j => by omega))
  · by_cases e : i = hf
    · rw [e, up_at]; omega
    · rw [up_lt (by omega)]; exact (hl.2.1 i (by omega)).1
/-- a field more, in the next place -/
theorem CSx.fadd (h : CSx w o n tp nr rs nf fs ng gs sr P sx sy ra fa ga hf hg) (hn : nf < hf) (hG : mu_Gx (fun q j => (fa nf ≤ q ∧ q ≤ fa nf + 2) ∨ (q = o ∧ j = 7)) w w') (h7 : mu_iv w' o 7 = mI ((nf + 1 : Nat) : Int)) (hFo : CFo w' (fa nf)) {f' : mu_FS} (hf1 : CFs1 w' (fa nf) (ra (fs_r f')) f') : CSx w' o n tp nr rs (nf + 1) (rs_up fs nf f') ng gs sr P sx sy ra fa ga hf hg := by
  have hl := h.lo
  have hxo := h.2.1
  have c5 := h.2.2.2.2.1
  have hln := hl.2.1 nf hn
  have hSt := h.kS hG (fun q j l1 l2 => by omega)
  have sm : ∀ f, f < hf → f ≠ nf → smc w w' (fa f) ∧ smc w w' (fa f + 1) ∧ smc w w' (fa f + 2) := fun f hf' hne => by
    have h1 := hl.2.1 f hf'
    have h2 := h.dFF hf' hn hne
    exact ⟨hG.smc (by omega) (fun j => by omega), hG.smc (by omega) (fun j => by omega), hG.smc (by omega) (fun j => by omega)⟩
  refine ⟨h.kM hG (fun q j l => by unfold NR at l; omega) hSt, Nat.le_trans h.2.1 hG.1, h.kT hG (fun q j l1 l2 => by omega), h.kR hG (by omega) (fun j => by omega) (fun k hk q j l => by have := hl.1 k hk; have := h.dRF hk hn; unfold ru_in at l; omega), ⟨by omega, c5.2.1, h7, fun f hf' => ?_, fun f l1 l2 => (hG.r (by omega) (by omega)).trans (c5.2.2.2.2.1 f l1 l2), c5.2.2.2.2.2.1, fun f hf' => ?_⟩, h.kG hG (by omega) (fun j => by omega) (fun f hf' q j l1 l2 => by have := hl.2.2 f hf'; have := h.dFG hn hf'; omega), h.kH hG (by omega) (fun j => by omega), h.kI hG (by omega) (by omega) (by omega), h.2.2.2.2.2.2.2.2⟩
  · obtain ⟨g1, g2, g3, g4⟩ := c5.2.2.2.1 f hf'
    refine ⟨(hG.r (by omega) (by omega)).trans g1, g2, Nat.le_trans g3 hG.1, ?_⟩
    by_cases e : f = nf
    · rw [e]; exact hFo
    · obtain ⟨s0, s1, s2⟩ := sm f hf' e
      exact g4.sm s0.1 s1.1 s2.1 (s0.2.2.2 0) (s0.2.2.2 1)
  · by_cases e : f = nf
    · rw [e, up_at]; exact hf1
    · rw [up_lt (by omega)]
      obtain ⟨s0, s1, s2⟩ := sm f (by omega) e
      exact (c5.2.2.2.2.2.2 f (by omega)).sm s0 s1
/-- a grid's place more -/
theorem CSx.gplc (h : CSx w o n tp nr rs nf fs ng gs sr P sx sy ra fa ga hf hg) (hn : hg < 8) (hG : mu_Gx (fun q j => q = o + 14 ∧ j = hg) w w') (hx : mu_nx w' = mu_nx w + 2) (hFo : CGo w' (mu_nx w)) (h13 : mu_rv w' (o + 14) hg = some (mu_nx w)) : CSx w' o n tp nr rs nf fs ng gs sr P sx sy ra fa (rs_up ga hg (mu_nx w)) hf (hg + 1) := by
  have hl := h.lo
  have hxo := h.2.1
  have c6 := h.2.2.2.2.2.1
  have hSt := h.kS hG (fun q j l1 l2 => by omega)
  refine ⟨h.kM hG (fun q j l => by unfold NR at l; omega) hSt, by omega, h.kT hG (fun q j l1 l2 => by omega), h.kR hG (by omega) (fun j => by omega) (fun i hi q j l => by have := hl.1 i hi; unfold ru_in at l; omega), h.kF hG (by omega) (fun j => by omega) (fun f hf' q j l1 l2 => by have := hl.2.1 f hf'; omega), ⟨by have := c6.1; omega, by omega, (hG.i (by omega) (by omega)).trans c6.2.2.1, fun f hf' => ?_, fun f l1 l2 => (hG.r (by omega) (by omega)).trans (c6.2.2.2.2.1 f (by omega) l2), fun f g l1 l2 e => ?_, fun f hf' => ?_⟩, h.kH hG (by omega) (fun j => by omega), h.kI hG (by omega) (by omega) (by omega), (h.2.2.2.2.2.2.2.2).1, (h.2.2.2.2.2.2.2.2).2.1, fun i hi => ?_⟩
  · by_cases e : f = hg
    · rw [e, up_at]; exact ⟨h13, by omega, by omega, hFo⟩
    · rw [up_lt (by omega)]
      obtain ⟨g1, g2, g3, g4⟩ := c6.2.2.2.1 f (by omega)
      have hlf := hl.2.2 f (by omega)
      exact ⟨(hG.r (by omega) (by omega)).trans g1, g2, by omega, g4.sm (hG.2 _ (by omega)).1 (hG.2 _ (by omega)).1 (hG.r (by omega) (by omega))⟩
  · by_cases e1 : f = hg
    · by_cases e2 : g = hg
      · omega
      · have := hl.2.2 g (by omega)
        rw [e1, up_at, up_lt (by omega)] at e
        omega
    · by_cases e2 : g = hg
      · have := hl.2.2 f (by omega)
        rw [e2, up_at, up_lt (by omega)] at e
        omega
      · rw [up_lt (by omega), up_lt (by omega)] at e
        exact c6.2.2.2.2.2.1 f g (by omega) (by omega) e
  · have hfh : f < hg := Nat.lt_of_lt_of_le hf' c6.1
    have hlf := hl.2.2 f hfh
    rw [up_lt hfh]
    exact (c6.2.2.2.2.2.2 f hf').sm (hG.smc (by omega) (fun j => by omega)) (hG.smc (by omega) (fun j => by omega))
  · by_cases e : i = hg
    · rw [e, up_at]; omega
    · rw [up_lt (by omega)]; exact (hl.2.2 i (by omega)).1
/-- a grid more, in the next place -/
theorem CSx.gadd (h : CSx w o n tp nr rs nf fs ng gs sr P sx sy ra fa ga hf hg) (hn : ng < hg) (hG : mu_Gx (fun q j => (ga ng ≤ q ∧ q ≤ ga ng + 1) ∨ (q = o ∧ j = 9)) w w') (h9 : mu_iv w' o 9 = mI ((ng + 1 : Nat) : Int)) (hFo : CGo w' (ga ng)) {g' : mu_GS} (hf1 : CGs1 w' (ga ng) (ra (gs_r g')) (rs_S (rs (gs_r g'))) g') : CSx w' o n tp nr rs nf fs (ng + 1) (rs_up gs ng g') sr P sx sy ra fa ga hf hg := by
  have hl := h.lo
  have hxo := h.2.1
  have c6 := h.2.2.2.2.2.1
  have hln := hl.2.2 ng hn
  have hSt := h.kS hG (fun q j l1 l2 => by omega)
  have sm : ∀ f, f < hg → f ≠ ng → smc w w' (ga f) ∧ smc w w' (ga f + 1) := fun f hf' hne => by
    have h1 := hl.2.2 f hf'
    have h2 := h.dGG hf' hn hne
    exact ⟨hG.smc (by omega) (fun j => by omega), hG.smc (by omega) (fun j => by omega)⟩
  refine ⟨h.kM hG (fun q j l => by unfold NR at l; omega) hSt, Nat.le_trans h.2.1 hG.1, h.kT hG (fun q j l1 l2 => by omega), h.kR hG (by omega) (fun j => by omega) (fun k hk q j l => by have := hl.1 k hk; have := h.dRG hk hn; unfold ru_in at l; omega), h.kF hG (by omega) (fun j => by omega) (fun f hf' q j l1 l2 => by have := hl.2.1 f hf'; have := h.dFG hf' hn; omega), ⟨by omega, c6.2.1, h9, fun f hf' => ?_, fun f l1 l2 => (hG.r (by omega) (by omega)).trans (c6.2.2.2.2.1 f l1 l2), c6.2.2.2.2.2.1, fun f hf' => ?_⟩, h.kH hG (by omega) (fun j => by omega), h.kI hG (by omega) (by omega) (by omega), h.2.2.2.2.2.2.2.2⟩
  · obtain ⟨g1, g2, g3, g4⟩ := c6.2.2.2.1 f hf'
    refine ⟨(hG.r (by omega) (by omega)).trans g1, g2, Nat.le_trans g3 hG.1, ?_⟩
    by_cases e : f = ng
    · rw [e]; exact hFo
    · obtain ⟨s0, s1⟩ := sm f hf' e
      exact g4.sm s0.1 s1.1 (s0.2.2.2 0)
  · by_cases e : f = ng
    · rw [e, up_at]; exact hf1
    · rw [up_lt (by omega)]
      obtain ⟨s0, s1⟩ := sm f (by omega) e
      exact (c6.2.2.2.2.2.2 f (by omega)).sm s0 s1
end MAK
