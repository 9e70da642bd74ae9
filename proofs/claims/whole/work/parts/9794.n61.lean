/-! ===== the class's rules: what a rule laid holds ===== -/
theorem sp_dg_le (b : Nat → Int) : ∀ f p le t, (sp_dg b f p le t).1 ≤ p + f
  | 0, p, le, t => Nat.le_refl _
  | f + 1, p, le, t => by
    rw [sp_dg]
    by_cases hc : 48 + (le : Int) ≤ b p ∧ b p ≤ 56
    · rw [if_pos hc]
      have := sp_dg_le b f (p + 1) ((b p - 48).toNat + 1) (t ||| 2 ^ (b p - 48).toNat)
      omega
    · rw [if_neg hc]; show p ≤ _; omega
theorem sp_rule_more {n : Nat} {tp : Nat → Nat} (hg : (sp_rule n tp).1 = true) : n ≤ 1026 ∧ rs_len (sp_rule n tp).2.2 = n ∧ rs_tx (sp_rule n tp).2.2 = tp ∧ ((rs_nb (sp_rule n tp).2.2 = 0 ∧ ∀ k, k < rs_N (sp_rule n tp).2.2 → nbk (tb n tp) (rs_S (sp_rule n tp).2.2) (2 + 4 * k) 4 = ((rs_be (sp_rule n tp).2.2 k : Nat) : Int)) ∨ (rs_nb (sp_rule n tp).2.2 ≠ 0 ∧ rs_S (sp_rule n tp).2.2 = 0)) := by
  by_cases h0 : tb n tp 0 = 75
  · rw [sr_blk h0] at hg ⊢
    simp only [Bool.and_eq_true, decide_eq_true_eq] at hg
    obtain ⟨hg1, hg2⟩ := hg
    generalize hb : tb n tp = b at *
    unfold sp_blk at hg1 hg2 ⊢
    rw [if_neg (fun q => q h0)] at hg1 hg2 ⊢
    rcases sp_S_bd b with hS | ⟨hS1, hS2, hS3⟩
    · rw [if_pos hS] at hg1; cases hg1
    · rw [if_neg (by omega)] at hg1 hg2 ⊢
      generalize sp_S b = S at *
      by_cases hr : sp_run b S (4 * (S * S * S * S)) 2 < 2 + 4 * (S * S * S * S)
      · rw [if_pos hr] at hg1; cases hg1
      · rw [if_neg hr] at hg2 ⊢
        have hall := sp_run_all b S (4 * (S * S * S * S)) 2 (by have := sp_run_le b S (4 * (S * S * S * S)) 2; omega)
        have hg3 : 2 + 4 * (S * S * S * S) = n := hg2
        have h4 : S * S * S * S ≤ 4 * 4 * 4 * 4 := Nat.mul_le_mul (Nat.mul_le_mul (Nat.mul_le_mul hS2 hS2) hS2) hS2
        refine ⟨by omega, rfl, rfl, Or.inl ⟨rfl, fun k hk => ?_⟩⟩
        have hk' : k < S * S * S * S := hk
        show nbk b S (2 + 4 * k) 4 = ((sp_be b S k : Nat) : Int)
        refine nbk_be (fun i hi => ?_)
        have := hall (4 * k + i) (by omega)
        rw [show 2 + 4 * k + i = 2 + (4 * k + i) by omega]
        exact this.1
  · rw [sr_cnt h0] at hg ⊢
    simp only [Bool.and_eq_true, decide_eq_true_eq] at hg
    obtain ⟨hg1, hg2⟩ := hg
    generalize hb : tb n tp = b at *
    have hd := sp_dg_le b 9 1 0 0
    have he := sp_dg_le b 9 ((sp_dg b 9 1 0 0).1 + 2) 0 0
    unfold sp_cnt at hg1 hg2 ⊢
    generalize sp_dg b 9 1 0 0 = d at *
    generalize sp_dg b 9 (d.1 + 2) 0 0 = e at *
    by_cases c0 : b 0 ≠ 66
    · rw [if_pos c0] at hg1; cases hg1
    rw [if_neg c0] at hg1 hg2 ⊢
    by_cases c1 : b d.1 ≠ 47
    · rw [if_pos c1] at hg1; cases hg1
    rw [if_neg c1] at hg1 hg2 ⊢
    by_cases c2 : b (d.1 + 1) ≠ 83
    · rw [if_pos c2] at hg1; cases hg1
    rw [if_neg c2] at hg1 hg2 ⊢
    by_cases c3 : b e.1 ≠ 47
    · rw [if_pos c3] at hg1; cases hg1
    rw [if_neg c3] at hg1 hg2 ⊢
    by_cases c4 : sp_nb (b (e.1 + 1)) = 0 ∨ (d.2 ||| e.2) / 2 ^ (sp_nb (b (e.1 + 1)) + 1) ≠ 0
    · rw [if_pos c4] at hg1; cases hg1
    rw [if_neg c4] at hg2 ⊢
    have hg3 : e.1 + 2 = n := hg2
    exact ⟨by omega, rfl, rfl, Or.inr ⟨fun q => c4 (Or.inl q), rfl⟩⟩
/-- for each block, the least from m on that becomes it -/
def ORI (be : Nat → Nat) (N m : Nat) (o : Nat → Int) : Prop := ∀ b, b < N → (o b = -1 ∧ ∀ k, m ≤ k → k < N → be k ≠ b) ∨ ∃ k : Nat, m ≤ k ∧ k < N ∧ be k = b ∧ o b = (k : Int) ∧ ∀ k', m ≤ k' → k' < k → be k' ≠ b
/-- the clash of the blocks from m on -/
def CLI (be : Nat → Nat) (N m : Nat) (low high : Int) : Prop := (low = -1 ∧ high = -1 ∧ ∀ x y, m ≤ x → x < y → y < N → be x ≠ be y) ∨ ∃ lo hi : Nat, low = (lo : Int) ∧ high = (hi : Int) ∧ m ≤ lo ∧ lo < hi ∧ hi < N ∧ be lo = be hi ∧ (∀ x y, m ≤ x → x < lo → x < y → y < N → be x ≠ be y) ∧ ∀ y, lo < y → y < hi → be lo ≠ be y
theorem ORI.start (be : Nat → Nat) (N : Nat) : ORI be N N (fun _ => -1) := fun b hb => Or.inl ⟨rfl, fun k h1 h2 => by omega⟩
theorem CLI.start (be : Nat → Nat) (N : Nat) : CLI be N N (-1) (-1) := Or.inl ⟨rfl, rfl, fun x y h1 h2 h3 => by omega⟩
theorem ORI.step {be : Nat → Nat} {N m : Nat} {o : Nat → Int} (h : ORI be N (m + 1) o) (hm : m < N) : ORI be N m (fun b => if b = be m then (m : Int) else o b) := fun b hb => by
  by_cases e : b = be m
  · exact Or.inr ⟨m, Nat.le_refl _, hm, e.symm, if_pos e, fun k' h1 h2 => by omega⟩
  · rcases h b hb with ⟨h1, h2⟩ | ⟨k, h1, h2, h3, h4, h5⟩
    · refine Or.inl ⟨(if_neg e).trans h1, fun k k1 k2 => ?_⟩
      by_cases q : k = m
      · rw [q]; exact fun z => e z.symm
      · exact h2 k (by omega) k2
    · refine Or.inr ⟨k, by omega, h2, h3, (if_neg e).trans h4, fun k' k1 k2 => ?_⟩
      by_cases q : k' = m
      · rw [q]; exact fun z => e z.symm
      · exact h5 k' (by omega) k2
theorem ORI.bd {be : Nat → Nat} {N m : Nat} {o : Nat → Int} (h : ORI be N m o) {b : Nat} (hb : b < N) : -1 ≤ o b ∧ o b < N := by
  rcases h b hb with ⟨h1, h2⟩ | ⟨k, h1, h2, h3, h4, h5⟩ <;> omega
theorem CLI.clash {be : Nat → Nat} {N m : Nat} {o : Nat → Int} (h : ORI be N (m + 1) o) (hm : m < N) (hb : be m < N) (h0 : 0 ≤ o (be m)) : CLI be N m (m : Int) (o (be m)) := by
  rcases h (be m) hb with ⟨h1, h2⟩ | ⟨k, h1, h2, h3, h4, h5⟩
  · omega
  · exact Or.inr ⟨m, k, rfl, h4, Nat.le_refl _, by omega, h2, h3.symm, fun x y a1 a2 => by omega, fun y y1 y2 e => h5 y (by omega) y2 e.symm⟩
theorem CLI.none {be : Nat → Nat} {N m : Nat} {o : Nat → Int} {low high : Int} (h : ORI be N (m + 1) o) (hc : CLI be N (m + 1) low high) (hb : be m < N) (h0 : o (be m) < 0) : CLI be N m low high := by
  have hn : ∀ y, m < y → y < N → be m ≠ be y := fun y y1 y2 e => by
    rcases h (be m) hb with ⟨h1, h2⟩ | ⟨k, h1, h2, h3, h4, h5⟩
    · exact h2 y (by omega) y2 e.symm
    · omega
  rcases hc with ⟨h1, h2, h3⟩ | ⟨lo, hi, h1, h2, h3, h4, h5, h6, h7, h8⟩
  · refine Or.inl ⟨h1, h2, fun x y x1 x2 x3 => ?_⟩
    by_cases q : x = m
    · rw [q]; exact hn y (by omega) x3
    · exact h3 x y (by omega) x2 x3
  · refine Or.inr ⟨lo, hi, h1, h2, by omega, h4, h5, h6, fun x y x1 x2 x3 x4 => ?_, h8⟩
    by_cases q : x = m
    · rw [q]; exact hn y (by omega) x4
    · exact h7 x y (by omega) x2 x3 x4
theorem CLI.end {be : Nat → Nat} {N : Nat} {o : Nat → Int} {low high : Int} (hb : ∀ k, k < N → be k < N) (h : ORI be N 0 o) (hc : CLI be N 0 low high) : (sp_rev N be ∧ low = -1 ∧ ∀ b, b < N → o b = ((sp_inv be N b : Nat) : Int)) ∨ ∃ lo hi : Nat, sp_clash N be lo hi ∧ low = (lo : Int) ∧ high = (hi : Int) := by
  rcases hc with ⟨h1, h2, h3⟩ | ⟨lo, hi, h1, h2, h3, h4, h5, h6, h7, h8⟩
  · have hr : sp_rev N be := fun x y x1 x2 => h3 x y (Nat.zero_le _) x1 x2
    refine Or.inl ⟨hr, h1, fun b hbn => ?_⟩
    obtain ⟨g1, g2⟩ := sp_inv_at hr hb hbn
    rcases h b hbn with ⟨a1, a2⟩ | ⟨k, a1, a2, a3, a4, a5⟩
    · exact absurd g2 (a2 _ (Nat.zero_le _) g1)
    · rw [a4, ← a3, sp_inv_eq hr a2]
  · exact Or.inr ⟨lo, hi, ⟨h4, h5, h6, fun x y x1 x2 x3 => h7 x y (Nat.zero_le _) x1 x2 x3, h8⟩, h1, h2⟩
/-! the frame of growth: what lies below a stays, but for numbers in T -/
def RG (T : Nat → Nat → Prop) (a : Nat) (w0 w : mu_W) : Prop := ∀ q, q < a → mu_kd w q = mu_kd w0 q ∧ (∀ j, mu_rv w q j = mu_rv w0 q j) ∧ ∀ j, ¬ T q j → mu_iv w q j = mu_iv w0 q j ∧ mu_lg w q j = mu_lg w0 q j
theorem RG.refl {T : Nat → Nat → Prop} {a : Nat} (w : mu_W) : RG T a w w := fun _ _ => ⟨rfl, fun _ => rfl, fun _ _ => ⟨rfl, rfl⟩⟩
theorem RG.trans {T : Nat → Nat → Prop} {a : Nat} {w1 w2 w3 : mu_W} (h : RG T a w1 w2) (g : RG T a w2 w3) : RG T a w1 w3 := fun q hq => ⟨(g q hq).1.trans (h q hq).1, fun j => ((g q hq).2.1 j).trans ((h q hq).2.1 j), fun j hn => ⟨((g q hq).2.2 j hn).1.trans ((h q hq).2.2 j hn).1, ((g q hq).2.2 j hn).2.trans ((h q hq).2.2 j hn).2⟩⟩
theorem RG.mono {T T' : Nat → Nat → Prop} {a a' : Nat} {w1 w2 : mu_W} (h : RG T a w1 w2) (ha : a' ≤ a) (hT : ∀ q j, q < a' → T q j → T' q j) : RG T' a' w1 w2 := fun q hq => ⟨(h q (by omega)).1, (h q (by omega)).2.1, fun j hn => (h q (by omega)).2.2 j (fun z => hn (hT q j hq z))⟩
theorem RG.al {T : Nat → Nat → Prop} {a : Nat} {w0 w : mu_W} (h : RG T a w0 w) (ha : a ≤ mu_nx w) (t N : Nat) : RG T a w0 (mu_al w t N) := fun q hq => ⟨by rw [mu_kd_al, if_neg (by omega)]; exact (h q hq).1, fun j => by rw [mu_rv_al, if_neg (by omega)]; exact (h q hq).2.1 j, fun j hn => by rw [mu_iv_al, mu_lg_al, if_neg (by omega), if_neg (by omega)]; exact (h q hq).2.2 j hn⟩
theorem RG.si {T : Nat → Nat → Prop} {a : Nat} {w0 w : mu_W} (h : RG T a w0 w) {q k : Nat} (hq : a ≤ q) (x : Int32) : RG T a w0 (mu_si w q k x) := fun p hp => ⟨(h p hp).1, (h p hp).2.1, fun j hn => ⟨by rw [mu_iv_oth _ _ (by omega)]; exact ((h p hp).2.2 j hn).1, ((h p hp).2.2 j hn).2⟩⟩
theorem RG.sr {T : Nat → Nat → Prop} {a : Nat} {w0 w : mu_W} (h : RG T a w0 w) {q k : Nat} (hq : a ≤ q) (x : Option Nat) : RG T a w0 (mu_sr w q k x) := fun p hp => ⟨(h p hp).1, fun j => by rw [mu_rv_sr, if_neg (by omega)]; exact (h p hp).2.1 j, fun j hn => (h p hp).2.2 j hn⟩
theorem RG.ic {T : Nat → Nat → Prop} {a : Nat} {w0 w : mu_W} (h : RG T a w0 w) {q b n : Nat} (hq : a ≤ q) : RG T a w0 (mu_ic w q b n) := fun p hp => ⟨(h p hp).1, (h p hp).2.1, fun j hn => ⟨by rw [mu_iv_ic, if_neg (by omega)]; exact ((h p hp).2.2 j hn).1, ((h p hp).2.2 j hn).2⟩⟩
theorem RG.fi {S T : Nat → Nat → Prop} {a : Nat} {w0 w w' : mu_W} (h : RG T a w0 w) (hF : mu_Fi S w w') (hS : ∀ q j, q < a → S q j → T q j) : RG T a w0 w' := fun p hp => ⟨(hF.2.1 p).trans (h p hp).1, fun j => (hF.2.2.1 p j).trans ((h p hp).2.1 j), fun j hn => ⟨(hF.2.2.2 p j (fun z => hn (hS p j hp z))).1.trans ((h p hp).2.2 j hn).1, (hF.2.2.2 p j (fun z => hn (hS p j hp z))).2.trans ((h p hp).2.2 j hn).2⟩⟩
theorem RG.kd {T : Nat → Nat → Prop} {a : Nat} {w0 w : mu_W} (h : RG T a w0 w) {q : Nat} {x : Option (Nat × Nat)} (hk : mu_kd w0 q = x) (hq : q < a) : mu_kd w q = x := (h q hq).1.trans hk
theorem RG.rv {T : Nat → Nat → Prop} {a : Nat} {w0 w : mu_W} (h : RG T a w0 w) {q j : Nat} {x : Option Nat} (hk : mu_rv w0 q j = x) (hq : q < a) : mu_rv w q j = x := ((h q hq).2.1 j).trans hk
theorem RG.iv {T : Nat → Nat → Prop} {a : Nat} {w0 w : mu_W} (h : RG T a w0 w) {q j : Nat} {x : Int32} (hk : mu_iv w0 q j = x) (hq : q < a) (hn : ¬ T q j) : mu_iv w q j = x := ((h q hq).2.2 j hn).1.trans hk
theorem RG.lg {T : Nat → Nat → Prop} {a : Nat} {w0 w : mu_W} (h : RG T a w0 w) {q j : Nat} {x : Int64} (hk : mu_lg w0 q j = x) (hq : q < a) (hn : ¬ T q j) : mu_lg w q j = x := ((h q hq).2.2 j hn).2.trans hk
theorem CT.rg {T : Nat → Nat → Prop} {a : Nat} {w w' : mu_W} {t n : Nat} {tp : Nat → Nat} (h : CT w t n tp) (hF : RG T a w w') (ha : t + 1 < a) (h1 : ¬ T t 1) (h2 : ∀ j, ¬ T (t + 1) j) : CT w' t n tp := ⟨hF.kd h.1 (by omega), hF.rv h.2.1 (by omega), hF.kd h.2.2.1 ha, h.2.2.2.1, hF.iv h.2.2.2.2.1 (by omega) h1, fun j hj => hF.iv (h.2.2.2.2.2 j hj) ha (h2 j)⟩
theorem CBo.rg {T : Nat → Nat → Prop} {a : Nat} {w w' : mu_W} {b : Nat} (h : CBo w b) (hF : RG T a w w') (ha : b + 6 < a) : CBo w' b := ⟨hF.kd h.1 (by omega), hF.rv h.2.1 (by omega), hF.kd h.2.2.1 (by omega), fun p hp => ⟨hF.rv (h.2.2.2.1 p hp).1 (by omega), hF.kd (h.2.2.2.1 p hp).2 (by omega)⟩, hF.rv h.2.2.2.2.1 (by omega), hF.kd h.2.2.2.2.2 (by omega)⟩
/-! a rule on the way -/
def RQ (w0 : mu_W) (a b n : Nat) (tp : Nat → Nat) (ru : mu_RS) (s : mu_W) : Prop := mu_nx s = a + 4 ∧ RG (dmS b) a w0 s ∧ mu_kd s a = some (4, 0) ∧ mu_rv s a 0 = some (a + 1) ∧ mu_rv s a 5 = some (a + 2) ∧ mu_rv s a 6 = some (a + 3) ∧ mu_kd s (a + 1) = some (102, n) ∧ mu_kd s (a + 2) = some (100, rs_N ru) ∧ mu_kd s (a + 3) = some (100, rs_N ru) ∧ (∀ j, j < n → mu_iv s (a + 1) j = mb (tp j)) ∧ mu_iv s a 1 = mI (rs_nb ru) ∧ mu_iv s a 2 = mI (rs_bo ru) ∧ mu_iv s a 3 = mI (rs_st ru) ∧ mu_iv s a 4 = mI (rs_S ru)
theorem RQ.si {w0 : mu_W} {a b n : Nat} {tp : Nat → Nat} {ru : mu_RS} {s : mu_W} (h : RQ w0 a b n tp ru s) {q k : Nat} (hq : q = a + 2 ∨ q = a + 3) (x : Int32) : RQ w0 a b n tp ru (mu_si s q k x) := by
  obtain ⟨h1, h2, h3, h4, h5, h6, h7, h8, h9, g1, g2, g3, g4, g5⟩ := h
  exact ⟨h1, h2.si (by omega) x, h3, h4, h5, h6, h7, h8, h9, fun j hj => by rw [mu_iv_oth _ _ (by omega)]; exact g1 j hj, by rw [mu_iv_oth _ _ (by omega)]; exact g2, by rw [mu_iv_oth _ _ (by omega)]; exact g3, by rw [mu_iv_oth _ _ (by omega)]; exact g4, by rw [mu_iv_oth _ _ (by omega)]; exact g5⟩
