/-! ===== the reference's rules ===== -/
def MRu (w : mu_W) (m nr : Nat) (rs : Nat → mu_RS) : Prop := nr ≤ 16 ∧ mu_iv w m 3 = mI nr ∧ ∀ r, r < nr → rs_ok (rs r) ∧ mu_iv w (m + 3) r = mI (rs_len (rs r)) ∧ (∀ j, j < rs_len (rs r) → mu_iv w (m + 2) (2000 * r + j) = mI (rs_tx (rs r) j)) ∧ mu_iv w (m + 5) r = mI (rs_nb (rs r)) ∧
  (rs_nb (rs r) ≠ 0 → mu_iv w (m + 6) r = mI (rs_bo (rs r)) ∧ mu_iv w (m + 7) r = mI (rs_st (rs r))) ∧ (rs_nb (rs r) = 0 → mu_iv w (m + 4) r = mI (rs_S (rs r)) ∧ ∀ k, k < rs_S (rs r) * rs_S (rs r) * rs_S (rs r) * rs_S (rs r) → mu_iv w (m + 8) (256 * r + k) = mI (rs_be (rs r) k))
theorem rs_s4 {r : mu_RS} (h : rs_ok r) (h0 : rs_nb r = 0) : 2 ≤ rs_S r ∧ rs_S r ≤ 4 ∧ rs_S r * rs_S r * rs_S r * rs_S r ≤ 256 := by
  rcases h.2.2 with ⟨-, h1, h2, -⟩ | ⟨h1, -⟩
  · have := s4_cases h1 h2
    exact ⟨h1, h2, by omega⟩
  · omega
theorem MRu.eqs {w w' : mu_W} {m nr : Nat} {rs : Nat → mu_RS} (h : MRu w m nr rs) (h3 : mu_iv w' m 3 = mu_iv w m 3) (hs : ∀ a r, m + 3 ≤ a → a ≤ m + 7 → r < nr → mu_iv w' a r = mu_iv w a r) (ht : ∀ j, j < 2000 * nr → mu_iv w' (m + 2) j = mu_iv w (m + 2) j) (hb : ∀ j, j < 256 * nr → mu_iv w' (m + 8) j = mu_iv w (m + 8) j) : MRu w' m nr rs := by
  refine ⟨h.1, h3.trans h.2.1, fun r hr => ?_⟩
  obtain ⟨g1, g2, g3, g4, g5, g6⟩ := h.2.2 r hr
  refine ⟨g1, by rw [hs _ _ (by omega) (by omega) hr]; exact g2, fun j hj => ?_, by rw [hs _ _ (by omega) (by omega) hr]; exact g4, fun hn => ?_, fun hn => ?_⟩
  · have := g1.1
    rw [ht _ (by omega)]; exact g3 j hj
  · rw [hs _ _ (by omega) (by omega) hr, hs _ _ (by omega) (by omega) hr]; exact g5 hn
  · refine ⟨by rw [hs _ _ (by omega) (by omega) hr]; exact (g6 hn).1, fun k hk => ?_⟩
    have := (rs_s4 g1 hn).2.2
    rw [hb _ (by omega)]; exact (g6 hn).2 k hk
theorem MRu.rd {w w' : mu_W} {m nr : Nat} {rs : Nat → mu_RS} (h : MRu w m nr rs) (hF : mu_Fi (rd_S m nr) w w') : MRu w' m nr rs := by
  refine h.eqs (hF.2.2.2 m 3 ?_).1 (fun a r h1 h2 h3 => (hF.2.2.2 a r ?_).1) (fun j hj => (hF.2.2.2 _ j ?_).1) (fun j hj => (hF.2.2.2 _ j ?_).1)
  · unfold rd_S; omega
  · unfold rd_S; omega
  · unfold rd_S; omega
  · unfold rd_S; omega
def ru_S (m : Nat) : Nat → Nat → Prop := fun a j => (a = m ∧ (j = 2 ∨ j = 3 ∨ j = 11 ∨ j = 12)) ∨ (m + 2 ≤ a ∧ a ≤ m + 8)
/-- what rule() answers, and the rules behind it -/
def sp_ruleA (n : Nat) (tp : Nat → Nat) (nr : Nat) : Int := if 16 ≤ nr then -3 else if (sp_rule n tp).1 = true then nr else -10 - ((sp_rule n tp).2.1 : Int)
def sp_ruleN (n : Nat) (tp : Nat → Nat) (nr : Nat) : Nat := if 16 ≤ nr then nr else if (sp_rule n tp).1 = true then nr + 1 else nr
def sp_ruleR (n : Nat) (tp : Nat → Nat) (nr : Nat) (rs : Nat → mu_RS) : Nat → mu_RS := rs_up rs nr (sp_rule n tp).2.2
theorem MRu.same {w : mu_W} {m nr : Nat} {rs : Nat → mu_RS} (h : MRu w m nr rs) (v : mu_RS) : MRu w m nr (rs_up rs nr v) := ⟨h.1, h.2.1, fun r hr => by
  have e : rs_up rs nr v r = rs r := by unfold rs_up; rw [if_neg (by omega)]
  rw [e]
  exact h.2.2 r hr⟩
def ru_post (w : mu_W) (m n : Nat) (tp : Nat → Nat) (nr : Nat) (rs : Nat → mu_RS) (r : Option Value) (w' : mu_W) : Prop := r = some (.int (mI (sp_ruleA n tp nr))) ∧ mo_ok w' m ∧ MT w' m 0 tp ∧ MRu w' m (sp_ruleN n tp nr) (sp_ruleR n tp nr rs) ∧ mu_Fi (ru_S m) w w'
theorem rd_ru {m nr : Nat} {w w' : mu_W} (h : mu_Fi (rd_S m nr) w w') : mu_Fi (ru_S m) w w' := h.mono (fun a j hh => by unfold rd_S at hh; unfold ru_S; omega)

/-- the rule's numbers stand in the reference's rows at nr -/
def RRow (m nr : Nat) (v : mu_RS) (w : mu_W) : Prop := mu_iv w (m + 5) nr = mI (rs_nb v) ∧ (rs_nb v ≠ 0 → mu_iv w (m + 6) nr = mI (rs_bo v) ∧ mu_iv w (m + 7) nr = mI (rs_st v)) ∧ (rs_nb v = 0 → mu_iv w (m + 4) nr = mI (rs_S v) ∧ ∀ k, k < rs_S v * rs_S v * rs_S v * rs_S v → mu_iv w (m + 8) (256 * nr + k) = mI (rs_be v k))
theorem RRow.mu {m nr : Nat} {v : mu_RS} {w : mu_W} (h : RRow m nr v w) (a k : Nat) (x : Int32) (ha : a < m + 4 ∨ m + 8 < a) : RRow m nr v (mu_si w a k x) := by
  refine ⟨by rw [mu_iv_oth _ _ (by omega)]; exact h.1, fun hn => ?_, fun hn => ?_⟩
  · rw [mu_iv_oth _ _ (by omega), mu_iv_oth _ _ (by omega)]; exact h.2.1 hn
  · rw [mu_iv_oth _ _ (by omega)]
    refine ⟨(h.2.2 hn).1, fun q hq => ?_⟩
    rw [mu_iv_oth _ _ (by omega)]; exact (h.2.2 hn).2 q hq
theorem ru_fin {w w1 : mu_W} {m n nr p : Nat} {tp : Nat → Nat} {rs : Nat → mu_RS} (hru : MRu w m nr rs) (hnr : nr < 16) (hg : (sp_rule n tp).1 = true) (ht : tp_ok n tp) (hw : Rd w m n tp nr w1 p) (htx : ∀ j, j < n → mu_iv w1 (m + 2) (2000 * nr + j) = mI (tp j)) (hR : RRow m nr (sp_rule n tp).2.2 w1) : MRu (mu_si (mu_si w1 (m + 3) nr (mI n)) m 3 (mI ((nr : Int) + 1))) m (nr + 1) (sp_ruleR n tp nr rs) := by
  have hok := sp_rule_ok ht hg
  have hold := hru.rd hw.2.2.2.2.2
  refine ⟨by omega, by rw [mu_iv_same]; rfl, fun r hr => ?_⟩
  by_cases e : r = nr
  · subst e
    have e1 : sp_ruleR n tp r rs r = (sp_rule n tp).2.2 := by unfold sp_ruleR rs_up; rw [if_pos rfl]
    have e2 : rs_len (sp_rule n tp).2.2 = n := by
      unfold sp_rule
      by_cases h0 : tb n tp 0 = 75
      · rw [if_pos h0]; rfl
      · rw [if_neg h0]; rfl
    have e3 : rs_tx (sp_rule n tp).2.2 = tp := by
      unfold sp_rule
      by_cases h0 : tb n tp 0 = 75
      · rw [if_pos h0]; rfl
      · rw [if_neg h0]; rfl
    have hR2 := (hR.mu (m + 3) r (mI n) (by omega)).mu m 3 (mI ((r : Int) + 1)) (by omega)
    rw [e1, e2, e3]
    exact ⟨hok, by rw [mu_iv_oth _ _ (by omega), mu_iv_same], fun j hj => by rw [mu_iv_oth _ _ (by omega), mu_iv_oth _ _ (by omega)]; exact htx j hj, hR2.1, hR2.2.1, hR2.2.2⟩
  · have e1 : sp_ruleR n tp nr rs r = rs r := by unfold sp_ruleR rs_up; rw [if_neg e]
    have h9 : MRu (mu_si (mu_si w1 (m + 3) nr (mI n)) m 3 (mI (nr : Int))) m nr rs := hold.eqs (by rw [mu_iv_same]; exact hold.2.1.symm) (fun a r h5 h6 h7 => by rw [mu_iv_oth _ _ (by omega), mu_iv_oth _ _ (by omega)]) (fun j hj => by rw [mu_iv_oth _ _ (by omega), mu_iv_oth _ _ (by omega)]) (fun j hj => by rw [mu_iv_oth _ _ (by omega), mu_iv_oth _ _ (by omega)])
    have h8 := h9.2.2 r (by omega)
    rw [← mu_si_si _ m 3 (mI (nr : Int)), e1]
    generalize mu_si (mu_si w1 (m + 3) nr (mI n)) m 3 (mI (nr : Int)) = w9 at h8 ⊢
    obtain ⟨g1, g2, g3, g4, g5, g6⟩ := h8
    exact ⟨g1, by rw [mu_iv_oth _ _ (by omega)]; exact g2, fun j hj => by rw [mu_iv_oth _ _ (by omega)]; exact g3 j hj, by rw [mu_iv_oth _ _ (by omega)]; exact g4, fun hn => by rw [mu_iv_oth _ _ (by omega), mu_iv_oth _ _ (by omega)]; exact g5 hn, fun hn => ⟨by rw [mu_iv_oth _ _ (by omega)]; exact (g6 hn).1, fun k hk => by rw [mu_iv_oth _ _ (by omega)]; exact (g6 hn).2 k hk⟩⟩
theorem rr_blk {w0 w : mu_W} {m n nr : Nat} {tp : Nat → Nat} (h0 : tb n tp 0 = 75) (h : (sp_blk (tb n tp)).1 = true → mu_iv w (m + 5) nr = mI 0 ∧ mu_iv w (m + 4) nr = mI (sp_blk (tb n tp)).2.2 ∧ ∀ k, k < (sp_blk (tb n tp)).2.2 * (sp_blk (tb n tp)).2.2 * (sp_blk (tb n tp)).2.2 * (sp_blk (tb n tp)).2.2 → mu_iv w (m + 8) (256 * nr + k) = mI (sp_be (tb n tp) (sp_blk (tb n tp)).2.2 k)) (hg : (sp_blk (tb n tp)).1 = true ∧ (sp_blk (tb n tp)).2.1 = n) : (sp_rule n tp).1 = true ∧ RRow m nr (sp_rule n tp).2.2 w := by
  unfold sp_rule
  rw [if_pos h0]
  obtain ⟨a1, a2, a3⟩ := h hg.1
  refine ⟨by simp [hg.1, hg.2], a1, fun hn => absurd rfl hn, fun _ => ⟨a2, a3⟩⟩
theorem rr_cnt {w0 w : mu_W} {m n nr : Nat} {tp : Nat → Nat} (h0 : ¬ tb n tp 0 = 75) (h : (sp_cnt (tb n tp)).1 = true → mu_iv w (m + 5) nr = mI (sp_cnt (tb n tp)).2.2.1 ∧ mu_iv w (m + 6) nr = mI (sp_cnt (tb n tp)).2.2.2.1 ∧ mu_iv w (m + 7) nr = mI (sp_cnt (tb n tp)).2.2.2.2) (hg : (sp_cnt (tb n tp)).1 = true ∧ (sp_cnt (tb n tp)).2.1 = n) (ht : tp_ok n tp) : (sp_rule n tp).1 = true ∧ RRow m nr (sp_rule n tp).2.2 w := by
  have h1 : (sp_rule n tp).1 = true := by unfold sp_rule; rw [if_neg h0]; simp [hg.1, hg.2]
  have hok := sp_rule_ok ht h1
  refine ⟨h1, ?_⟩
  unfold sp_rule at hok ⊢
  rw [if_neg h0] at hok ⊢
  obtain ⟨a1, a2, a3⟩ := h hg.1
  refine ⟨a1, fun _ => ⟨a2, a3⟩, fun hn => ?_⟩
  rcases hok.2.2 with ⟨-, b1, -⟩ | ⟨b1, -⟩
  · exact absurd b1 (by show ¬ 2 ≤ 0; decide)
  · rw [hn] at b1; omega
theorem sr_no_b {n : Nat} {tp : Nat → Nat} (h0 : tb n tp 0 = 75) (hg : ¬ ((sp_blk (tb n tp)).1 = true ∧ (sp_blk (tb n tp)).2.1 = n)) : ¬ (sp_rule n tp).1 = true ∧ (sp_rule n tp).2.1 = (sp_blk (tb n tp)).2.1 := by
  unfold sp_rule
  rw [if_pos h0]
  exact ⟨fun hh => hg (by simpa using hh), rfl⟩
theorem sr_no_c {n : Nat} {tp : Nat → Nat} (h0 : ¬ tb n tp 0 = 75) (hg : ¬ ((sp_cnt (tb n tp)).1 = true ∧ (sp_cnt (tb n tp)).2.1 = n)) : ¬ (sp_rule n tp).1 = true ∧ (sp_rule n tp).2.1 = (sp_cnt (tb n tp)).2.1 := by
  unfold sp_rule
  rw [if_neg h0]
  exact ⟨fun hh => hg (by simpa using hh), rfl⟩

theorem sr_len {n : Nat} {tp : Nat → Nat} : rs_len (sp_rule n tp).2.2 = n := by
  unfold sp_rule
  by_cases h0 : tb n tp 0 = 75
  · rw [if_pos h0]; rfl
  · rw [if_neg h0]; rfl
theorem sr_tx {n : Nat} {tp : Nat → Nat} : rs_tx (sp_rule n tp).2.2 = tp := by
  unfold sp_rule
  by_cases h0 : tb n tp 0 = 75
  · rw [if_pos h0]; rfl
  · rw [if_neg h0]; rfl

set_option maxHeartbeats 4000000 in
set_option maxRecDepth 100000 in
theorem c_X12_rule (G : mu_G) {w : mu_W} {m : Nat} (hm : mo_ok w m) {n : Nat} {tp : Nat → Nat} (ht : MT w m n tp) {nr : Nat} {rs : Nat → mu_RS} (hru : MRu w m nr rs) : mu_Ct G M_X12_rule [.ref m] w (fun r w' => ru_post w m n tp nr rs r w') := by
  have hk0 := hm.1
  have hnr2 := hru.1
  refine mu_ofWA G M_X12_rule [.ref m, mu_no, mu_no, mu_no, mu_no] (by decide) rfl (Nat.le_of_ble_eq_true rfl) ?_
  intro X E
  have B : mu_B X G cX12_rule RX12 5 (mu_rm M_X12_rule) := E.1
  have hEnd : ∀ (w1 : mu_W) (z : Int) (u3 u4 : Value), z = sp_ruleA n tp nr → mo_ok w1 m → MRu w1 m (sp_ruleN n tp nr) (sp_ruleR n tp nr rs) → mu_Fi (ru_S m) w w1 → mu_WA X G 5 (mu_Q X G M_X12_rule (ru_post w m n tp nr rs)) w1 0 0 126 [.ref m, .int (mI n), .int (mI z), u3, u4] [] := by
    intro w1 z u3 u4 hz h1 h2 h3
    have hk1 := h1.1
    refine mu_al_0 B dX12_rule_126 ?_
    refine mu_iconst (v := mI 0) B dX12_rule_127 rfl ?_
    refine mu_putI B dX12_rule_128 fX12_128 fwX12_2 rfl (by assumption) ?_
    refine mu_il_2 B dX12_rule_131 ?_
    refine mu_iret E rfl (by decide) (by decide) dX12_rule_132 ?_
    exact ⟨by rw [hz], h1, ⟨⟨by omega, fun j hj => absurd hj (Nat.not_lt_zero j)⟩, mu_iv_same _ _ _ _, fun j hj => absurd hj (Nat.not_lt_zero j)⟩, h2.eqs (by rw [mu_iv_oth _ _ (by omega)]) (fun a r h5 h6 h7 => by rw [mu_iv_oth _ _ (by omega)]) (fun j hj => by rw [mu_iv_oth _ _ (by omega)]) (fun j hj => by rw [mu_iv_oth _ _ (by omega)]), h3.si (Or.inl ⟨rfl, Or.inl rfl⟩)⟩
  have hCopy : ∀ (w1 : mu_W) (p : Nat) (u3 : Int32) (u4 : Value), Rd w m n tp nr w1 p → (sp_rule n tp).1 = true → RRow m nr (sp_rule n tp).2.2 w1 → nr < 16 → mu_WA X G 5 (mu_Q X G M_X12_rule (ru_post w m n tp nr rs)) w1 0 0 67 [.ref m, .int (mI n), .int (mI nr), .int u3, u4] [] := by
    intro w1 p u3 u4 hw0 hg hR0 hnr
    have hok := sp_rule_ok ht.1 hg
    have h128 : ∀ j, j < n → tp j < 128 := fun j hj => by have := hok.2.1 j; rw [sr_len, sr_tx] at this; exact this hj
    have hn2 := ht.1.1
    refine mu_iconst (v := mI 0) B dX12_rule_67 rfl ?_
    refine mu_is_4 B dX12_rule_68 (by decide) rfl ?_
    refine mu_ind n (fun k w1 => mu_WA X G 5 (mu_Q X G M_X12_rule (ru_post w m n tp nr rs)) w1 0 0 70 [.ref m, .int (mI n), .int (mI nr), .int u3, .int (mI k)] []) (fun k w1 => Rd w m n tp nr w1 p ∧ (∀ j, j < k → mu_iv w1 (m + 2) (2000 * nr + j) = mI (tp j)) ∧ RRow m nr (sp_rule n tp).2.2 w1) ?_ 0 w1 (Nat.zero_le _) ⟨hw0, fun j hj => absurd hj (Nat.not_lt_zero j), hR0⟩
    intro k w1 hk hP ih
    obtain ⟨hw, htx, hRR⟩ := hP
    have hk0 := hw.1.1
    obtain ⟨r1, k1⟩ := mo_1 hw.1
    obtain ⟨r4, k4⟩ := mo_4 hw.1
    obtain ⟨r5, k5⟩ := mo_5 hw.1
    refine mu_il_4 B dX12_rule_70 ?_
    refine mu_il_1 B dX12_rule_72 ?_
    refine mu_icmp_ge (tgt := 106) B dX12_rule_73 (by decide) (fun c73 => ?_) (fun c73 => ?_)
    · try rw [mI_le ⟨by omega, by omega⟩ ⟨by omega, by omega⟩] at c73
      obtain rfl : k = n := by omega
      refine mu_al_0 B dX12_rule_106 ?_
      refine mu_getR B dX12_rule_107 fX12_17 rfl (by assumption) (by assumption) ?_
      refine mu_al_0 B dX12_rule_110 ?_
      refine mu_getI B dX12_rule_111 fX12_148 rfl (by assumption) ?_
      rw [hw.2.2.2.2.1]
      refine mu_il_1 B dX12_rule_114 ?_
      refine mu_iast B dX12_rule_115 (by assumption) (mI_inN (by omega) (by omega)) ?_
      rw [mI_clampN (by omega)]
      refine mu_al_0 B dX12_rule_116 ?_
      refine mu_dup B dX12_rule_117 rfl ?_
      refine mu_getI B dX12_rule_118 fX12_148 rfl (by assumption) ?_
      rw [mu_iv_oth _ _ (by omega), hw.2.2.2.2.1]
      refine mu_iconst (v := mI 1) B dX12_rule_121 rfl ?_
      refine mu_iadd B dX12_rule_122 ?_
      try rw [mI_add]
      refine mu_putI B dX12_rule_123 fX12_148 fwX12_3 rfl (by assumption) ?_
      have ez : sp_ruleA k tp nr = nr := by unfold sp_ruleA; rw [if_neg (by omega), if_pos hg]
      have en : sp_ruleN k tp nr = nr + 1 := by unfold sp_ruleN; rw [if_neg (by omega), if_pos hg]
      refine hEnd _ _ _ _ ez.symm hw.1 ?_ ?_
      · rw [en]
        exact ru_fin hru hnr hg ht.1 hw htx hRR
      · exact ((rd_ru hw.2.2.2.2.2).si (Or.inr ⟨by omega, by omega⟩)).si (Or.inl ⟨rfl, Or.inr (Or.inl rfl)⟩)
    · try rw [mI_le ⟨by omega, by omega⟩ ⟨by omega, by omega⟩] at c73
      refine mu_al_0 B dX12_rule_76 ?_
      refine mu_getR B dX12_rule_77 fX12_13 rfl (by assumption) (by assumption) ?_
      refine mu_sipush (v := mI 2000) B dX12_rule_80 (by decide) ?_
      refine mu_al_0 B dX12_rule_83 ?_
      refine mu_getI B dX12_rule_84 fX12_148 rfl (by assumption) ?_
      rw [hw.2.2.2.2.1]
      refine mu_imul B dX12_rule_87 ?_
      try rw [mI_mul]
      refine mu_il_4 B dX12_rule_88 ?_
      refine mu_iadd B dX12_rule_90 ?_
      try rw [mI_add]
      rw [show (2000 : Int) * (nr : Int) + (k : Int) = ((2000 * nr + k : Nat) : Int) by omega]
      refine mu_al_0 B dX12_rule_91 ?_
      refine mu_getR B dX12_rule_92 fX12_7 rfl (by assumption) (by assumption) ?_
      refine mu_il_4 B dX12_rule_95 ?_
      refine mu_iald B dX12_rule_97 (by assumption) (mI_inN (by omega) (by omega)) ?_
      rw [mI_clampN (by omega), hw.2.1.2.2 k (by omega)]
      refine mu_i2b B dX12_rule_98 rfl ?_
      refine mu_bast B dX12_rule_99 (by assumption) (mI_inN (by omega) (by omega)) ?_
      rw [mI_clampN (by omega), show ((mI (tp k : Int)).toInt8.toInt32).toInt8.toInt32 = mI (tp k) from (mb_mb (tp k) (by have := h128 k (by omega); omega)).trans (mb_lo (tp k) (h128 k (by omega)))]
      refine mu_inc_4 (c := mI 1) B dX12_rule_100 rfl (by decide) rfl ?_
      try rw [mI_add]
      refine mu_goto (tgt := 70) B dX12_rule_103 (by decide) ?_
      refine mu_to (ih (mu_si w1 (m + 2) (2000 * nr + k) (mI (tp k))) (by omega) ⟨hw.ast (by omega), fun j hj => ?_, hRR.mu _ _ _ (by omega)⟩) rfl (by rw [show ((k + 1 : Nat) : Int) = (k : Int) + 1 by omega])
      by_cases e : j = k
      · rw [e, mu_iv_same]
      · rw [mu_iv_oth _ _ (by omega)]; exact htx j (by omega)
  show mu_WA X G 5 _ _ 0 0 0 _ []
  refine mu_al_0 B dX12_rule_0 ?_
  refine mu_getI B dX12_rule_1 fX12_128 rfl (by assumption) ?_
  rw [ht.2.1]
  refine mu_is_1 B dX12_rule_4 (by decide) rfl ?_
  refine mu_bipush (v := mI (-3)) B dX12_rule_5 (by decide) ?_
  refine mu_is_2 B dX12_rule_7 (by decide) rfl ?_
  refine mu_al_0 B dX12_rule_8 ?_
  refine mu_getI B dX12_rule_9 fX12_148 rfl (by assumption) ?_
  rw [hru.2.1]
  refine mu_bipush (v := mI 16) B dX12_rule_12 (by decide) ?_
  refine mu_icmp_ge (tgt := 126) B dX12_rule_14 (by decide) (fun c14 => ?_) (fun c14 => ?_)
  · try rw [mI_le ⟨by omega, by omega⟩ ⟨by omega, by omega⟩] at c14
    exact hEnd w _ _ _ (by unfold sp_ruleA; rw [if_pos (by omega)]) hm (by unfold sp_ruleN; rw [if_pos (by omega)]; exact hru.same _) (mu_Fi.refl w)
  · try rw [mI_le ⟨by omega, by omega⟩ ⟨by omega, by omega⟩] at c14
    refine mu_al_0 B dX12_rule_17 ?_
    refine mu_iconst (v := mI 0) B dX12_rule_18 rfl ?_
    refine mu_putI B dX12_rule_19 fX12_134 fwX12_11 rfl (by assumption) ?_
    have h0 : Rd w m n tp nr (mu_si w m 11 (mI 0)) 0 := ⟨hm, ht.si (by decide), mu_iv_same _ _ _ _, by decide, by rw [mu_iv_oth _ _ (by omega)]; exact hru.2.1, (mu_Fi.refl w).si (Or.inl ⟨rfl, Or.inl rfl⟩)⟩
    generalize mu_si w m 11 (mI 0) = wa at h0 ⊢
    have hka := h0.1.1
    have hb0 := tb_bd ht.1 0
    refine mu_al_0 B dX12_rule_22 ?_
    refine mu_iconst (v := mI 0) B dX12_rule_23 rfl ?_
    refine mu_eV1 B dX12_rule_24 mX12_137 ⟨⟨by decide, by decide⟩, by decide, by decide⟩ (Nat.le_of_ble_eq_true rfl) (by assumption) (c_X12_byteAt2 G h0.1 h0.2.1 (i := 0) (by decide)) ?_
    refine mu_bipush (v := mI 75) B dX12_rule_27 (by decide) ?_
    refine mu_icmp_ne (tgt := 39) B dX12_rule_29 (by decide) (fun c29 => ?_) (fun c29 => ?_)
    · try rw [mI_eq ⟨by omega, by omega⟩ ⟨by omega, by omega⟩] at c29
      refine mu_al_0 B dX12_rule_39 ?_
      refine mu_cV0 B dX12_rule_40 mX12_155 ⟨⟨by decide, by decide⟩, by decide, by decide⟩ (Nat.le_of_ble_eq_true rfl) (by assumption) (c_X12_readCounts G h0 (by omega)) (fun r40 w40 q40 => ?_)
      obtain ⟨rfl, h1, h2⟩ := q40
      have hk1 := h1.1.1
      refine mu_is_3 B dX12_rule_43 (by decide) rfl ?_
      refine mu_il_3 B dX12_rule_44 ?_
      refine mu_if_eq (tgt := 55) B dX12_rule_45 (by decide) (fun c45 => ?_) (fun c45 => ?_)
      · have z45 := mu_bf c45
        refine mu_bipush (v := mI (-10)) B dX12_rule_55 (by decide) ?_
        refine mu_al_0 B dX12_rule_57 ?_
        refine mu_getI B dX12_rule_58 fX12_134 rfl (by assumption) ?_
        rw [h1.2.2.1]
        refine mu_isub B dX12_rule_61 ?_
        try rw [mI_sub]
        refine mu_is_2 B dX12_rule_62 (by decide) rfl ?_
        refine mu_il_3 B dX12_rule_63 ?_
        refine mu_if_eq (tgt := 126) B dX12_rule_64 (by decide) (fun c64 => ?_) (fun c64 => ?_)
        · have z64 := mu_bf c64
          first | exact absurd z45 z64 | exact (fun hh => hEnd _ _ _ _ (by unfold sp_ruleA; rw [if_neg (by omega), if_neg hh.1, hh.2]) h1.1 (by unfold sp_ruleN; rw [if_neg (by omega), if_neg hh.1]; exact (hru.rd h1.2.2.2.2.2).same _) (rd_ru h1.2.2.2.2.2)) (sr_no_b c29 z45) | exact (fun hh => hEnd _ _ _ _ (by unfold sp_ruleA; rw [if_neg (by omega), if_neg hh.1, hh.2]) h1.1 (by unfold sp_ruleN; rw [if_neg (by omega), if_neg hh.1]; exact (hru.rd h1.2.2.2.2.2).same _) (rd_ru h1.2.2.2.2.2)) (sr_no_c c29 z45)
        · have z64 := mu_bt c64
          first | exact absurd z64 z45 | exact (fun hh => hCopy _ _ _ _ h1 hh.1 hh.2 (by omega)) (rr_blk (w0 := w) c29 h2 z45) | exact (fun hh => hCopy _ _ _ _ h1 hh.1 hh.2 (by omega)) (rr_cnt (w0 := w) c29 h2 z45 ht.1)
      · have z45 := mu_bt c45
        refine mu_al_0 B dX12_rule_48 ?_
        refine mu_getI B dX12_rule_49 fX12_148 rfl (by assumption) ?_
        rw [h1.2.2.2.2.1]
        refine mu_goto (tgt := 62) B dX12_rule_52 (by decide) ?_
        refine mu_is_2 B dX12_rule_62 (by decide) rfl ?_
        refine mu_il_3 B dX12_rule_63 ?_
        refine mu_if_eq (tgt := 126) B dX12_rule_64 (by decide) (fun c64 => ?_) (fun c64 => ?_)
        · have z64 := mu_bf c64
          first | exact absurd z45 z64 | exact (fun hh => hEnd _ _ _ _ (by unfold sp_ruleA; rw [if_neg (by omega), if_neg hh.1, hh.2]) h1.1 (by unfold sp_ruleN; rw [if_neg (by omega), if_neg hh.1]; exact (hru.rd h1.2.2.2.2.2).same _) (rd_ru h1.2.2.2.2.2)) (sr_no_b c29 z45) | exact (fun hh => hEnd _ _ _ _ (by unfold sp_ruleA; rw [if_neg (by omega), if_neg hh.1, hh.2]) h1.1 (by unfold sp_ruleN; rw [if_neg (by omega), if_neg hh.1]; exact (hru.rd h1.2.2.2.2.2).same _) (rd_ru h1.2.2.2.2.2)) (sr_no_c c29 z45)
        · have z64 := mu_bt c64
          first | exact absurd z64 z45 | exact (fun hh => hCopy _ _ _ _ h1 hh.1 hh.2 (by omega)) (rr_blk (w0 := w) c29 h2 z45) | exact (fun hh => hCopy _ _ _ _ h1 hh.1 hh.2 (by omega)) (rr_cnt (w0 := w) c29 h2 z45 ht.1)
    · try rw [mI_eq ⟨by omega, by omega⟩ ⟨by omega, by omega⟩] at c29
      refine mu_al_0 B dX12_rule_32 ?_
      refine mu_cV0 B dX12_rule_33 mX12_151 ⟨⟨by decide, by decide⟩, by decide, by decide⟩ (Nat.le_of_ble_eq_true rfl) (by assumption) (c_X12_readBlocks G h0 (by omega)) (fun r33 w33 q33 => ?_)
      obtain ⟨rfl, h1, h2⟩ := q33
      have hk1 := h1.1.1
      refine mu_goto (tgt := 43) B dX12_rule_36 (by decide) ?_
      refine mu_is_3 B dX12_rule_43 (by decide) rfl ?_
      refine mu_il_3 B dX12_rule_44 ?_
      refine mu_if_eq (tgt := 55) B dX12_rule_45 (by decide) (fun c45 => ?_) (fun c45 => ?_)
      · have z45 := mu_bf c45
        refine mu_bipush (v := mI (-10)) B dX12_rule_55 (by decide) ?_
        refine mu_al_0 B dX12_rule_57 ?_
        refine mu_getI B dX12_rule_58 fX12_134 rfl (by assumption) ?_
        rw [h1.2.2.1]
        refine mu_isub B dX12_rule_61 ?_
        try rw [mI_sub]
        refine mu_is_2 B dX12_rule_62 (by decide) rfl ?_
        refine mu_il_3 B dX12_rule_63 ?_
        refine mu_if_eq (tgt := 126) B dX12_rule_64 (by decide) (fun c64 => ?_) (fun c64 => ?_)
        · have z64 := mu_bf c64
          first | exact absurd z45 z64 | exact (fun hh => hEnd _ _ _ _ (by unfold sp_ruleA; rw [if_neg (by omega), if_neg hh.1, hh.2]) h1.1 (by unfold sp_ruleN; rw [if_neg (by omega), if_neg hh.1]; exact (hru.rd h1.2.2.2.2.2).same _) (rd_ru h1.2.2.2.2.2)) (sr_no_b c29 z45) | exact (fun hh => hEnd _ _ _ _ (by unfold sp_ruleA; rw [if_neg (by omega), if_neg hh.1, hh.2]) h1.1 (by unfold sp_ruleN; rw [if_neg (by omega), if_neg hh.1]; exact (hru.rd h1.2.2.2.2.2).same _) (rd_ru h1.2.2.2.2.2)) (sr_no_c c29 z45)
        · have z64 := mu_bt c64
          first | exact absurd z64 z45 | exact (fun hh => hCopy _ _ _ _ h1 hh.1 hh.2 (by omega)) (rr_blk (w0 := w) c29 h2 z45) | exact (fun hh => hCopy _ _ _ _ h1 hh.1 hh.2 (by omega)) (rr_cnt (w0 := w) c29 h2 z45 ht.1)
      · have z45 := mu_bt c45
        refine mu_al_0 B dX12_rule_48 ?_
        refine mu_getI B dX12_rule_49 fX12_148 rfl (by assumption) ?_
        rw [h1.2.2.2.2.1]
        refine mu_goto (tgt := 62) B dX12_rule_52 (by decide) ?_
        refine mu_is_2 B dX12_rule_62 (by decide) rfl ?_
        refine mu_il_3 B dX12_rule_63 ?_
        refine mu_if_eq (tgt := 126) B dX12_rule_64 (by decide) (fun c64 => ?_) (fun c64 => ?_)
        · have z64 := mu_bf c64
          first | exact absurd z45 z64 | exact (fun hh => hEnd _ _ _ _ (by unfold sp_ruleA; rw [if_neg (by omega), if_neg hh.1, hh.2]) h1.1 (by unfold sp_ruleN; rw [if_neg (by omega), if_neg hh.1]; exact (hru.rd h1.2.2.2.2.2).same _) (rd_ru h1.2.2.2.2.2)) (sr_no_b c29 z45) | exact (fun hh => hEnd _ _ _ _ (by unfold sp_ruleA; rw [if_neg (by omega), if_neg hh.1, hh.2]) h1.1 (by unfold sp_ruleN; rw [if_neg (by omega), if_neg hh.1]; exact (hru.rd h1.2.2.2.2.2).same _) (rd_ru h1.2.2.2.2.2)) (sr_no_c c29 z45)
        · have z64 := mu_bt c64
          first | exact absurd z64 z45 | exact (fun hh => hCopy _ _ _ _ h1 hh.1 hh.2 (by omega)) (rr_blk (w0 := w) c29 h2 z45) | exact (fun hh => hCopy _ _ _ _ h1 hh.1 hh.2 (by omega)) (rr_cnt (w0 := w) c29 h2 z45 ht.1)
