/-! ===== run texts, letter by letter ===== -/
def isB (c : Int) : Prop := c = 10 ∨ c = 32
def isD (c : Int) : Prop := 48 ≤ c ∧ c ≤ 57
def isL (c : Int) : Prop := c = 98 ∨ c = 111 ∨ c = 36
theorem isL33 : ¬ isL 33 := by unfold isL; decide
theorem isL0 : ¬ isL 0 := by unfold isL; decide
def skf (b : Nat → Int) : Nat → Nat → Nat
  | 0, p => p
  | f + 1, p => if b p = 10 ∨ b p = 32 then skf b f (p + 1) else p
def sk (b : Nat → Int) (p : Nat) : Nat := skf b (2001 - p) p
theorem sk_blank {b : Nat → Int} {p : Nat} (hp : p ≤ 2000) (h : b p = 10 ∨ b p = 32) : sk b p = sk b (p + 1) := by
  unfold sk
  rw [show 2001 - p = (2001 - (p + 1)) + 1 by omega, skf, if_pos h]
theorem sk_stop {b : Nat → Int} {p : Nat} (h : ¬ (b p = 10 ∨ b p = 32)) : sk b p = p := by
  unfold sk
  cases 2001 - p with
  | zero => rfl
  | succ f => rw [skf, if_neg h]
/-- how many digits, up to 4 -/
def tk_nd (b : Nat → Int) (p : Nat) : Nat := if ¬ (48 ≤ b p ∧ b p ≤ 57) then 0 else if ¬ (48 ≤ b (p + 1) ∧ b (p + 1) ≤ 57) then 1 else if ¬ (48 ≤ b (p + 2) ∧ b (p + 2) ≤ 57) then 2 else if ¬ (48 ≤ b (p + 3) ∧ b (p + 3) ≤ 57) then 3 else 4
def tk_v (b : Nat → Int) (p : Nat) : Nat → Nat
  | 0 => 0
  | d + 1 => 10 * tk_v b p d + (b (p + d) - 48).toNat
/-- a letter with its count at p: the fault or -1, the next place, the letter (0 at a fault), the count -/
def tkn (b : Nat → Int) (p : Nat) : Int × Nat × Int × Nat :=
  if tk_nd b p = 0 then (if (b p = 98 ∨ b p = 111 ∨ b p = 36) ∨ b p = 33 then (-1, p + 1, b p, 1) else ((p : Int), p, 0, 0))
  else if b p = 48 then ((p : Int), p, 0, 0)
  else if tk_nd b p = 4 then (((p + 3 : Nat) : Int), p, 0, 0)
  else if tk_v b p (tk_nd b p) < 2 then (((p + tk_nd b p - 1 : Nat) : Int), p, 0, 0)
  else if b (p + tk_nd b p) = 98 ∨ b (p + tk_nd b p) = 111 ∨ b (p + tk_nd b p) = 36 then (-1, p + tk_nd b p + 1, b (p + tk_nd b p), tk_v b p (tk_nd b p)) else (((p + tk_nd b p : Nat) : Int), p, 0, 0)
def ps (b : Nat → Int) : Nat → Nat
  | 0 => 0
  | k + 1 => (tkn b (sk b (ps b k))).2.1
def tq (b : Nat → Int) (k : Nat) : Int × Nat × Int × Nat := tkn b (sk b (ps b k))
def RT (b : Nat → Int) (K : Nat) : Prop := (∀ k, k < K → isL (tq b k).2.2.1) ∧ ¬ isL (tq b K).2.2.1
theorem RT.uniq {b : Nat → Int} {K K' : Nat} (h : RT b K) (h' : RT b K') : K = K' := by
  by_cases q : K < K'
  · exact absurd (h'.1 K q) h.2
  · by_cases q2 : K' < K
    · exact absurd (h.1 K' q2) h'.2
    · omega
def rt_f (b : Nat → Int) (n K : Nat) : Int := if (tq b K).2.2.1 = 33 then (if sk b (ps b (K + 1)) < n then (sk b (ps b (K + 1)) : Int) else -1) else (tq b K).1
theorem tk_nd0 {b : Nat → Int} {p : Nat} (h : ¬ (48 ≤ b p ∧ b p ≤ 57)) : tk_nd b p = 0 := by unfold tk_nd; rw [if_pos h]
theorem tk_ndd {b : Nat → Int} {p d : Nat} (hd1 : 1 ≤ d) (hd3 : d ≤ 3) (hall : ∀ e, e < d → 48 ≤ b (p + e) ∧ b (p + e) ≤ 57) (h : ¬ (48 ≤ b (p + d) ∧ b (p + d) ≤ 57)) : tk_nd b p = d := by
  unfold tk_nd
  have h0 := hall 0 (by omega)
  rw [Nat.add_zero] at h0
  rw [if_neg (fun q => q h0)]
  rcases (show d = 1 ∨ d = 2 ∨ d = 3 by omega) with rfl | rfl | rfl
  · rw [if_pos h]
  · rw [if_neg (fun q => q (hall 1 (by omega))), if_pos h]
  · rw [if_neg (fun q => q (hall 1 (by omega))), if_neg (fun q => q (hall 2 (by omega))), if_pos h]
theorem tk_nd4 {b : Nat → Int} {p : Nat} (hall : ∀ e, e < 4 → 48 ≤ b (p + e) ∧ b (p + e) ≤ 57) : tk_nd b p = 4 := by
  unfold tk_nd
  have h0 := hall 0 (by omega)
  rw [Nat.add_zero] at h0
  rw [if_neg (fun q => q h0), if_neg (fun q => q (hall 1 (by omega))), if_neg (fun q => q (hall 2 (by omega))), if_neg (fun q => q (hall 3 (by omega)))]
theorem tk_v_le {b : Nat → Int} {p : Nat} : ∀ {d : Nat}, (∀ e, e < d → 48 ≤ b (p + e) ∧ b (p + e) ≤ 57) → tk_v b p d + 1 ≤ 10 ^ d
  | 0, _ => Nat.le_refl _
  | d + 1, h => by
    have h1 := tk_v_le (d := d) (fun e he => h e (by omega))
    have h2 := h d (by omega)
    rw [tk_v, Nat.pow_succ]
    omega
theorem tk_v3 {b : Nat → Int} {p d : Nat} (hd : d ≤ 3) (h : ∀ e, e < d → 48 ≤ b (p + e) ∧ b (p + e) ≤ 57) : tk_v b p d < 1000 := by
  have h1 := tk_v_le h
  have h2 : 10 ^ d ≤ 10 ^ 3 := Nat.pow_le_pow_right (by decide) hd
  omega
theorem ps_le {b : Nat → Int} (k : Nat) : (tkn b k).2.2.2 ≤ 999 ∨ True := Or.inr trivial
def rr_S (m : Nat) : Nat → Nat → Prop := fun q j => (q = m ∧ j = 24) ∨ q = m + 14 ∨ q = m + 15
def RRW (w : mu_W) (m : Nat) (b : Nat → Int) (k : Nat) : Prop := mu_iv w m 24 = mI k ∧ ∀ j, j < k → isL (tq b j).2.2.1 ∧ (tq b j).2.2.2 < 1000 ∧ mu_iv w (m + 14) j = mI (tq b j).2.2.2 ∧ mu_iv w (m + 15) j = mI (tq b j).2.2.1
def rr_post (w : mu_W) (m n : Nat) (tp : Nat → Nat) (r : Option Value) (w' : mu_W) : Prop := mu_Fi (rr_S m) w w' ∧ ∃ K, K ≤ 2000 ∧ RT (tb n tp) K ∧ RRW w' m (tb n tp) K ∧ r = some (.int (mI (rt_f (tb n tp) n K))) ∧ -1 ≤ rt_f (tb n tp) n K ∧ rt_f (tb n tp) n K ≤ 2003
theorem MT.rr {w w' : mu_W} {m n : Nat} {tp : Nat → Nat} (h : MT w m n tp) (hF : mu_Fi (rr_S m) w w') : MT w' m n tp := ⟨h.1, hF.iv (by unfold rr_S; omega) h.2.1, fun j hj => hF.iv (by unfold rr_S; omega) (h.2.2 j hj)⟩
theorem RRW.ext {w : mu_W} {m : Nat} {b : Nat → Int} {k t : Nat} {c : Int} (h : RRW w m b k) (hk : k < 2000) (hL : isL c) (ht : t < 1000) (hq : (tq b k).2.2 = (c, t)) : RRW (mu_si (mu_si (mu_si w (m + 14) k (mI t)) (m + 15) k (mI c)) m 24 (mI ((k + 1 : Nat) : Int))) m b (k + 1) := ⟨mu_iv_same _ _ _ _, fun j hj => by
  by_cases e : j = k
  · subst e
    rw [hq]
    refine ⟨hL, ht, ?_, ?_⟩
    · rw [mu_iv_oth _ _ (by omega), mu_iv_oth _ _ (by omega), mu_iv_same]
    · rw [mu_iv_oth _ _ (by omega), mu_iv_same]
  · obtain ⟨h1, h2, h3, h4⟩ := h.2 j (by omega)
    refine ⟨h1, h2, ?_, ?_⟩
    · rw [mu_iv_oth _ _ (by omega), mu_iv_oth _ _ (by omega), mu_iv_oth _ _ (by omega)]; exact h3
    · rw [mu_iv_oth _ _ (by omega), mu_iv_oth _ _ (by omega), mu_iv_oth _ _ (by omega)]; exact h4⟩

set_option maxHeartbeats 4000000 in
set_option maxRecDepth 100000 in
theorem c_X12_readRuns (G : mu_G) {w : mu_W} {m : Nat} (hm : mo_ok w m) {n : Nat} {tp : Nat → Nat} (ht : MT w m n tp) : mu_Ct G M_X12_readRuns [.ref m] w (fun r w' => rr_post w m n tp r w') := by
  have hk0 := hm.1
  have hb := tb_bd ht.1
  have hn2 := ht.1.1
  refine mu_ofWA G M_X12_readRuns [.ref m, mu_no, mu_no, mu_no, mu_no] (by decide) rfl (Nat.le_of_ble_eq_true rfl) ?_
  intro X E
  have B : mu_B X G cX12_readRuns RX12 5 (mu_rm M_X12_readRuns) := E.1
  have LM : ∀ st : Nat × Nat × mu_W, (st.1 ≤ n ∧ st.2.1 ≤ st.1 ∧ mu_Fi (rr_S m) w st.2.2 ∧ RRW st.2.2 m (tb n tp) st.2.1 ∧ sk (tb n tp) st.1 = sk (tb n tp) (ps (tb n tp) st.2.1)) → mu_WA X G 5 (mu_Q X G M_X12_readRuns (rr_post w m n tp)) st.2.2 0 0 7 [.ref m, .int (mI (st.1 : Int)), mu_no, mu_no, mu_no] [] := by
    refine mu_wf (fun st => 2001 - st.1) _ _ ?_
    rintro ⟨i, k, s⟩ ⟨hi, hki, hF, hrr, hsk0⟩ ih
    dsimp only at hi hki hF hrr hsk0 ih ⊢
    have hm1 := hm.fi hF
    have hk1 := hm1.1
    have ht1 := ht.rr hF
    have hbi := hb i
    obtain ⟨r25, k25⟩ := mo_25 hm1
    obtain ⟨r26, k26⟩ := mo_26 hm1
    refine mu_al_0 B dX12_readRuns_7 ?_
    refine mu_il_1 B dX12_readRuns_8 ?_
    refine mu_eV1 B dX12_readRuns_9 mX12_137 ⟨⟨by decide, by decide⟩, by decide, by decide⟩ (Nat.le_of_ble_eq_true rfl) (by assumption) (c_X12_byteAt2 G hm1 ht1 (i := i) (by omega)) ?_
    refine mu_bipush (v := mI 33) B dX12_readRuns_12 (by decide) ?_
    refine mu_icmp_eq (tgt := 170) B dX12_readRuns_14 (by decide) (fun c14 => ?_) (fun c14 => ?_)
    · try rw [mI_eq ⟨by omega, by omega⟩ ⟨by omega, by omega⟩] at c14
      have hqe : tq (tb n tp) k = (-1, i + 1, 33, 1) := by unfold tq; rw [← hsk0, sk_stop (by omega)]; unfold tkn; rw [tk_nd0 (by omega), if_pos rfl, if_pos (Or.inr c14), c14]
      have hin := tb_in (n := n) (tp := tp) (i := i) (by omega)
      have LE : ∀ p : Nat, (p ≤ 2001 ∧ i + 1 ≤ p ∧ p ≤ n ∧ sk (tb n tp) p = sk (tb n tp) (i + 1)) → ∀ u2 u3 u4 : Value, mu_WA X G 5 (mu_Q X G M_X12_readRuns (rr_post w m n tp)) s 0 0 173 [.ref m, .int (mI p), u2, u3, u4] [] := by
        refine mu_wf (fun p => 2001 - p) _ _ ?_
        rintro p ⟨hp1, hp2, hp3, hp4⟩ ihp u2 u3 u4
        have hbp := hb p
        refine mu_al_0 B dX12_readRuns_173 ?_
        refine mu_il_1 B dX12_readRuns_174 ?_
        refine mu_eV1 B dX12_readRuns_175 mX12_137 ⟨⟨by decide, by decide⟩, by decide, by decide⟩ (Nat.le_of_ble_eq_true rfl) (by assumption) (c_X12_byteAt2 G hm1 ht1 (i := p) (by omega)) ?_
        refine mu_eS1 B dX12_readRuns_178 mX12_226 ⟨⟨by decide, by decide⟩, by decide, by decide⟩ (Nat.le_of_ble_eq_true rfl) (c_X12_isBlank G (z := tb n tp (p)) ⟨by omega, by omega⟩) ?_
        refine mu_if_eq (tgt := 190) B dX12_readRuns_181 (by decide) (fun c181 => ?_) (fun c181 => ?_)
        · have z181 := mu_bf c181
          have hsk : sk (tb n tp) (ps (tb n tp) (k + 1)) = p := by rw [ps]; show sk _ (tq (tb n tp) k).2.1 = p; rw [hqe]; show sk _ (i + 1) = p; rw [← hp4]; exact sk_stop z181
          refine mu_il_1 B dX12_readRuns_190 ?_
          refine mu_al_0 B dX12_readRuns_191 ?_
          refine mu_getI B dX12_readRuns_192 fX12_128 rfl (by assumption) ?_
          rw [ht1.2.1]
          refine mu_icmp_ge (tgt := 202) B dX12_readRuns_195 (by decide) (fun c195 => ?_) (fun c195 => ?_)
          · try rw [mI_le ⟨by omega, by omega⟩ ⟨by omega, by omega⟩] at c195
            refine mu_iconst (v := mI (-1)) B dX12_readRuns_202 rfl ?_
            refine mu_iret E rfl (by decide) (by decide) dX12_readRuns_203 ?_
            have hv : rt_f (tb n tp) n k = if p < n then (p : Int) else -1 := by unfold rt_f; rw [hsk, if_pos (by rw [hqe])]
            refine ⟨hF, k, by omega, ⟨fun j hj => (hrr.2 j hj).1, by rw [hqe]; exact isL33⟩, hrr, ?_, ?_⟩
            · rw [hv]; first | rw [if_pos (by omega)] | rw [if_neg (by omega)]
            · rw [hv]; by_cases e9 : p < n
              · rw [if_pos e9]; omega
              · rw [if_neg e9]; omega
          · try rw [mI_le ⟨by omega, by omega⟩ ⟨by omega, by omega⟩] at c195
            refine mu_il_1 B dX12_readRuns_198 ?_
            refine mu_goto (tgt := 203) B dX12_readRuns_199 (by decide) ?_
            refine mu_iret E rfl (by decide) (by decide) dX12_readRuns_203 ?_
            have hv : rt_f (tb n tp) n k = if p < n then (p : Int) else -1 := by unfold rt_f; rw [hsk, if_pos (by rw [hqe])]
            refine ⟨hF, k, by omega, ⟨fun j hj => (hrr.2 j hj).1, by rw [hqe]; exact isL33⟩, hrr, ?_, ?_⟩
            · rw [hv]; first | rw [if_pos (by omega)] | rw [if_neg (by omega)]
            · rw [hv]; by_cases e9 : p < n
              · rw [if_pos e9]; omega
              · rw [if_neg e9]; omega
        · have z181 := mu_bt c181
          refine mu_inc_1 (c := mI 1) B dX12_readRuns_184 rfl (by decide) rfl ?_
          try rw [mI_add]
          refine mu_goto (tgt := 173) B dX12_readRuns_187 (by decide) ?_
          refine mu_to (ihp (p + 1) ⟨by omega, by omega, by have := tb_in (n := n) (tp := tp) (i := p) (by omega); omega, by rw [← hp4]; exact (sk_blank (by omega) z181).symm⟩ (by omega) _ _ _) rfl (by rw [show ((p + 1 : Nat) : Int) = (p : Int) + 1 by omega])
      refine mu_inc_1 (c := mI 1) B dX12_readRuns_170 rfl (by decide) rfl ?_
      try rw [mI_add]
      refine mu_to (LE (i + 1) ⟨by omega, by omega, by omega, rfl⟩ _ _ _) rfl (by rw [show ((i + 1 : Nat) : Int) = (i : Int) + 1 by omega])
    · try rw [mI_eq ⟨by omega, by omega⟩ ⟨by omega, by omega⟩] at c14
      refine mu_al_0 B dX12_readRuns_17 ?_
      refine mu_il_1 B dX12_readRuns_18 ?_
      refine mu_eV1 B dX12_readRuns_19 mX12_137 ⟨⟨by decide, by decide⟩, by decide, by decide⟩ (Nat.le_of_ble_eq_true rfl) (by assumption) (c_X12_byteAt2 G hm1 ht1 (i := i) (by omega)) ?_
      refine mu_is_2 B dX12_readRuns_22 (by decide) rfl ?_
      refine mu_il_2 B dX12_readRuns_23 ?_
      refine mu_eS1 B dX12_readRuns_24 mX12_226 ⟨⟨by decide, by decide⟩, by decide, by decide⟩ (Nat.le_of_ble_eq_true rfl) (c_X12_isBlank G (z := tb n tp (i)) ⟨by omega, by omega⟩) ?_
      refine mu_if_eq (tgt := 36) B dX12_readRuns_27 (by decide) (fun c27 => ?_) (fun c27 => ?_)
      · have z27 := mu_bf c27
        have htq : tq (tb n tp) k = tkn (tb n tp) i := by unfold tq; rw [← hsk0, sk_stop z27]
        have K114 : ∀ (j t : Nat) (u4 : Value), i ≤ j → j ≤ 2000 → t < 1000 → (isL (tb n tp j) → tq (tb n tp) k = (-1, j + 1, tb n tp j, t)) → (¬ isL (tb n tp j) → (tq (tb n tp) k).2.2.1 = 0 ∧ (tq (tb n tp) k).1 = (j : Int)) → mu_WA X G 5 (mu_Q X G M_X12_readRuns (rr_post w m n tp)) s 0 0 114 [.ref m, .int (mI j), .int (mI (tb n tp j)), .int (mI t), u4] [] := by
          intro j t u4 hij hj2 ht9 hyes hno
          have hbj := hb j
          refine mu_il_2 B dX12_readRuns_114 ?_
          refine mu_bipush (v := mI 98) B dX12_readRuns_115 (by decide) ?_
          refine mu_icmp_eq (tgt := 134) B dX12_readRuns_117 (by decide) (fun c117 => ?_) (fun c117 => ?_)
          · try rw [mI_eq ⟨by omega, by omega⟩ ⟨by omega, by omega⟩] at c117
            have hL : isL (tb n tp j) := by unfold isL; omega
            have hjn := tb_in (n := n) (tp := tp) (i := j) (by unfold isL at hL; omega)
            have hqy := hyes hL
            refine mu_al_0 B dX12_readRuns_134 ?_
            refine mu_getR B dX12_readRuns_135 fX12_52 rfl (by assumption) (by assumption) ?_
            refine mu_al_0 B dX12_readRuns_138 ?_
            refine mu_getI B dX12_readRuns_139 fX12_223 rfl (by assumption) ?_
            rw [hrr.1]
            refine mu_il_3 B dX12_readRuns_142 ?_
            refine mu_iast B dX12_readRuns_143 (by assumption) (mI_inN (by omega) (by decide)) ?_
            rw [mI_clampN (by omega)]
            refine mu_al_0 B dX12_readRuns_144 ?_
            refine mu_getR B dX12_readRuns_145 fX12_55 rfl (by assumption) (by assumption) ?_
            refine mu_al_0 B dX12_readRuns_148 ?_
            refine mu_getI B dX12_readRuns_149 fX12_223 rfl (by assumption) ?_
            rw [mu_iv_oth _ _ (by omega), hrr.1]
            refine mu_il_2 B dX12_readRuns_152 ?_
            refine mu_iast B dX12_readRuns_153 (by assumption) (mI_inN (by omega) (by decide)) ?_
            rw [mI_clampN (by omega)]
            refine mu_al_0 B dX12_readRuns_154 ?_
            refine mu_dup B dX12_readRuns_155 rfl ?_
            refine mu_getI B dX12_readRuns_156 fX12_223 rfl (by assumption) ?_
            rw [mu_iv_oth _ _ (by omega), mu_iv_oth _ _ (by omega), hrr.1]
            refine mu_iconst (v := mI 1) B dX12_readRuns_159 rfl ?_
            refine mu_iadd B dX12_readRuns_160 ?_
            try rw [mI_add]
            refine mu_putI B dX12_readRuns_161 fX12_223 fwX12_24 rfl (by assumption) ?_
            rw [show (k : Int) + 1 = ((k + 1 : Nat) : Int) by omega]
            refine mu_inc_1 (c := mI 1) B dX12_readRuns_164 rfl (by decide) rfl ?_
            try rw [mI_add]
            refine mu_goto (tgt := 7) B dX12_readRuns_167 (by decide) ?_
            refine mu_fg (ih (j + 1, k + 1, _) ⟨by show j + 1 ≤ n; omega, by show k + 1 ≤ j + 1; omega, ((hF.si (Or.inr (Or.inl rfl))).si (Or.inr (Or.inr rfl))).si (Or.inl ⟨rfl, rfl⟩), hrr.ext (by omega) hL ht9 (by rw [hqy]), by rw [ps]; show sk _ (j + 1) = sk _ (tq (tb n tp) k).2.1; rw [hqy]⟩ (by show 2001 - (j + 1) < 2001 - i; omega)) rfl (by rw [show ((j + 1 : Nat) : Int) = (j : Int) + 1 by omega]; exact ⟨Or.inl rfl, Or.inl rfl, Or.inr rfl, Or.inr rfl, Or.inr rfl, trivial⟩)
          · try rw [mI_eq ⟨by omega, by omega⟩ ⟨by omega, by omega⟩] at c117
            refine mu_il_2 B dX12_readRuns_120 ?_
            refine mu_bipush (v := mI 111) B dX12_readRuns_121 (by decide) ?_
            refine mu_icmp_eq (tgt := 134) B dX12_readRuns_123 (by decide) (fun c123 => ?_) (fun c123 => ?_)
            · try rw [mI_eq ⟨by omega, by omega⟩ ⟨by omega, by omega⟩] at c123
              have hL : isL (tb n tp j) := by unfold isL; omega
              have hjn := tb_in (n := n) (tp := tp) (i := j) (by unfold isL at hL; omega)
              have hqy := hyes hL
              refine mu_al_0 B dX12_readRuns_134 ?_
              refine mu_getR B dX12_readRuns_135 fX12_52 rfl (by assumption) (by assumption) ?_
              refine mu_al_0 B dX12_readRuns_138 ?_
              refine mu_getI B dX12_readRuns_139 fX12_223 rfl (by assumption) ?_
              rw [hrr.1]
              refine mu_il_3 B dX12_readRuns_142 ?_
              refine mu_iast B dX12_readRuns_143 (by assumption) (mI_inN (by omega) (by decide)) ?_
              rw [mI_clampN (by omega)]
              refine mu_al_0 B dX12_readRuns_144 ?_
              refine mu_getR B dX12_readRuns_145 fX12_55 rfl (by assumption) (by assumption) ?_
              refine mu_al_0 B dX12_readRuns_148 ?_
              refine mu_getI B dX12_readRuns_149 fX12_223 rfl (by assumption) ?_
              rw [mu_iv_oth _ _ (by omega), hrr.1]
              refine mu_il_2 B dX12_readRuns_152 ?_
              refine mu_iast B dX12_readRuns_153 (by assumption) (mI_inN (by omega) (by decide)) ?_
              rw [mI_clampN (by omega)]
              refine mu_al_0 B dX12_readRuns_154 ?_
              refine mu_dup B dX12_readRuns_155 rfl ?_
              refine mu_getI B dX12_readRuns_156 fX12_223 rfl (by assumption) ?_
              rw [mu_iv_oth _ _ (by omega), mu_iv_oth _ _ (by omega), hrr.1]
              refine mu_iconst (v := mI 1) B dX12_readRuns_159 rfl ?_
              refine mu_iadd B dX12_readRuns_160 ?_
              try rw [mI_add]
              refine mu_putI B dX12_readRuns_161 fX12_223 fwX12_24 rfl (by assumption) ?_
              rw [show (k : Int) + 1 = ((k + 1 : Nat) : Int) by omega]
              refine mu_inc_1 (c := mI 1) B dX12_readRuns_164 rfl (by decide) rfl ?_
              try rw [mI_add]
              refine mu_goto (tgt := 7) B dX12_readRuns_167 (by decide) ?_
              refine mu_fg (ih (j + 1, k + 1, _) ⟨by show j + 1 ≤ n; omega, by show k + 1 ≤ j + 1; omega, ((hF.si (Or.inr (Or.inl rfl))).si (Or.inr (Or.inr rfl))).si (Or.inl ⟨rfl, rfl⟩), hrr.ext (by omega) hL ht9 (by rw [hqy]), by rw [ps]; show sk _ (j + 1) = sk _ (tq (tb n tp) k).2.1; rw [hqy]⟩ (by show 2001 - (j + 1) < 2001 - i; omega)) rfl (by rw [show ((j + 1 : Nat) : Int) = (j : Int) + 1 by omega]; exact ⟨Or.inl rfl, Or.inl rfl, Or.inr rfl, Or.inr rfl, Or.inr rfl, trivial⟩)
            · try rw [mI_eq ⟨by omega, by omega⟩ ⟨by omega, by omega⟩] at c123
              refine mu_il_2 B dX12_readRuns_126 ?_
              refine mu_bipush (v := mI 36) B dX12_readRuns_127 (by decide) ?_
              refine mu_icmp_eq (tgt := 134) B dX12_readRuns_129 (by decide) (fun c129 => ?_) (fun c129 => ?_)
              · try rw [mI_eq ⟨by omega, by omega⟩ ⟨by omega, by omega⟩] at c129
                have hL : isL (tb n tp j) := by unfold isL; omega
                have hjn := tb_in (n := n) (tp := tp) (i := j) (by unfold isL at hL; omega)
                have hqy := hyes hL
                refine mu_al_0 B dX12_readRuns_134 ?_
                refine mu_getR B dX12_readRuns_135 fX12_52 rfl (by assumption) (by assumption) ?_
                refine mu_al_0 B dX12_readRuns_138 ?_
                refine mu_getI B dX12_readRuns_139 fX12_223 rfl (by assumption) ?_
                rw [hrr.1]
                refine mu_il_3 B dX12_readRuns_142 ?_
                refine mu_iast B dX12_readRuns_143 (by assumption) (mI_inN (by omega) (by decide)) ?_
                rw [mI_clampN (by omega)]
                refine mu_al_0 B dX12_readRuns_144 ?_
                refine mu_getR B dX12_readRuns_145 fX12_55 rfl (by assumption) (by assumption) ?_
                refine mu_al_0 B dX12_readRuns_148 ?_
                refine mu_getI B dX12_readRuns_149 fX12_223 rfl (by assumption) ?_
                rw [mu_iv_oth _ _ (by omega), hrr.1]
                refine mu_il_2 B dX12_readRuns_152 ?_
                refine mu_iast B dX12_readRuns_153 (by assumption) (mI_inN (by omega) (by decide)) ?_
                rw [mI_clampN (by omega)]
                refine mu_al_0 B dX12_readRuns_154 ?_
                refine mu_dup B dX12_readRuns_155 rfl ?_
                refine mu_getI B dX12_readRuns_156 fX12_223 rfl (by assumption) ?_
                rw [mu_iv_oth _ _ (by omega), mu_iv_oth _ _ (by omega), hrr.1]
                refine mu_iconst (v := mI 1) B dX12_readRuns_159 rfl ?_
                refine mu_iadd B dX12_readRuns_160 ?_
                try rw [mI_add]
                refine mu_putI B dX12_readRuns_161 fX12_223 fwX12_24 rfl (by assumption) ?_
                rw [show (k : Int) + 1 = ((k + 1 : Nat) : Int) by omega]
                refine mu_inc_1 (c := mI 1) B dX12_readRuns_164 rfl (by decide) rfl ?_
                try rw [mI_add]
                refine mu_goto (tgt := 7) B dX12_readRuns_167 (by decide) ?_
                refine mu_fg (ih (j + 1, k + 1, _) ⟨by show j + 1 ≤ n; omega, by show k + 1 ≤ j + 1; omega, ((hF.si (Or.inr (Or.inl rfl))).si (Or.inr (Or.inr rfl))).si (Or.inl ⟨rfl, rfl⟩), hrr.ext (by omega) hL ht9 (by rw [hqy]), by rw [ps]; show sk _ (j + 1) = sk _ (tq (tb n tp) k).2.1; rw [hqy]⟩ (by show 2001 - (j + 1) < 2001 - i; omega)) rfl (by rw [show ((j + 1 : Nat) : Int) = (j : Int) + 1 by omega]; exact ⟨Or.inl rfl, Or.inl rfl, Or.inr rfl, Or.inr rfl, Or.inr rfl, trivial⟩)
              · try rw [mI_eq ⟨by omega, by omega⟩ ⟨by omega, by omega⟩] at c129
                refine mu_il_1 B dX12_readRuns_132 ?_
                refine mu_iret E rfl (by decide) (by decide) dX12_readRuns_133 ?_
                obtain ⟨hq0, hqf⟩ := hno (by unfold isL; omega)
                refine ⟨hF, k, by omega, ⟨fun j hj => (hrr.2 j hj).1, by rw [hq0]; exact isL0⟩, hrr, by unfold rt_f; rw [hq0, if_neg (by decide), hqf], by unfold rt_f; rw [hq0, if_neg (by decide), hqf]; omega, by unfold rt_f; rw [hq0, if_neg (by decide), hqf]; omega⟩
        refine mu_iconst (v := mI 1) B dX12_readRuns_36 rfl ?_
        refine mu_is_3 B dX12_readRuns_37 (by decide) rfl ?_
        refine mu_il_2 B dX12_readRuns_38 ?_
        refine mu_eS1 B dX12_readRuns_39 mX12_229 ⟨⟨by decide, by decide⟩, by decide, by decide⟩ (Nat.le_of_ble_eq_true rfl) (c_X12_isDigit G (z := tb n tp (i)) ⟨by omega, by omega⟩) ?_
        refine mu_if_eq (tgt := 114) B dX12_readRuns_42 (by decide) (fun c42 => ?_) (fun c42 => ?_)
        · have z42 := mu_bf c42
          refine K114 i 1 _ (Nat.le_refl _) (by omega) (by decide) (fun hL => ?_) (fun hL => ?_)
          · rw [htq]; unfold tkn; rw [tk_nd0 z42, if_pos rfl, if_pos (Or.inl (show tb n tp i = 98 ∨ tb n tp i = 111 ∨ tb n tp i = 36 from hL))]
          · rw [htq]; unfold tkn; rw [tk_nd0 z42, if_pos rfl, if_neg (fun hh => hh.elim (show ¬ (tb n tp i = 98 ∨ tb n tp i = 111 ∨ tb n tp i = 36) from hL) (fun h9 => by omega))]; exact ⟨rfl, rfl⟩
        · have z42 := mu_bt c42
          have hin := tb_in (n := n) (tp := tp) (i := i) (by omega)
          have hdig := z42
          refine mu_il_2 B dX12_readRuns_45 ?_
          refine mu_bipush (v := mI 48) B dX12_readRuns_46 (by decide) ?_
          refine mu_icmp_ne (tgt := 53) B dX12_readRuns_48 (by decide) (fun c48 => ?_) (fun c48 => ?_)
          · try rw [mI_eq ⟨by omega, by omega⟩ ⟨by omega, by omega⟩] at c48
            have LD : ∀ d (u9 : Unit), d ≤ 3 → (∀ e, e < d → 48 ≤ tb n tp (i + e) ∧ tb n tp (i + e) ≤ 57) → mu_WA X G 5 (mu_Q X G M_X12_readRuns (rr_post w m n tp)) s 0 0 58 [.ref m, .int (mI ((i + d : Nat) : Int)), .int (mI (tb n tp i)), .int (mI (tk_v (tb n tp) i d : Int)), .int (mI i)] [] := by
              refine mu_ind (3) (fun d (u9 : Unit) => mu_WA X G 5 (mu_Q X G M_X12_readRuns (rr_post w m n tp)) s 0 0 58 [.ref m, .int (mI ((i + d : Nat) : Int)), .int (mI (tb n tp i)), .int (mI (tk_v (tb n tp) i d : Int)), .int (mI i)] []) (fun d (u9 : Unit) => ∀ e, e < d → 48 ≤ tb n tp (i + e) ∧ tb n tp (i + e) ≤ 57) ?_
              intro d u9 hd hall ihd
              have hbd := hb (i + d)
              have hv9 := tk_v3 hd hall
              have hin9 : i + d ≤ n := by have := hin; by_cases e9 : d = 0; (rw [e9]; omega); (have := tb_in (n := n) (tp := tp) (i := i + (d - 1)) (by have := hall (d - 1) (by omega); omega); omega)
              refine mu_al_0 B dX12_readRuns_58 ?_
              refine mu_il_1 B dX12_readRuns_59 ?_
              refine mu_eV1 B dX12_readRuns_60 mX12_137 ⟨⟨by decide, by decide⟩, by decide, by decide⟩ (Nat.le_of_ble_eq_true rfl) (by assumption) (c_X12_byteAt2 G hm1 ht1 (i := i + d) (by omega)) ?_
              refine mu_eS1 B dX12_readRuns_63 mX12_229 ⟨⟨by decide, by decide⟩, by decide, by decide⟩ (Nat.le_of_ble_eq_true rfl) (c_X12_isDigit G (z := tb n tp (i + d)) ⟨by omega, by omega⟩) ?_
              refine mu_if_eq (tgt := 99) B dX12_readRuns_66 (by decide) (fun c66 => ?_) (fun c66 => ?_)
              · have z66 := mu_bf c66
                have hd1 : 1 ≤ d := by by_cases e9 : d = 0; (rw [e9, Nat.add_zero] at z66; exact absurd hdig z66); omega
                have hnd := tk_ndd hd1 hd hall z66
                refine mu_il_3 B dX12_readRuns_99 ?_
                refine mu_iconst (v := mI 2) B dX12_readRuns_100 rfl ?_
                refine mu_icmp_ge (tgt := 108) B dX12_readRuns_101 (by decide) (fun c101 => ?_) (fun c101 => ?_)
                · try rw [mI_le ⟨by omega, by omega⟩ ⟨by omega, by omega⟩] at c101
                  refine mu_al_0 B dX12_readRuns_108 ?_
                  refine mu_il_1 B dX12_readRuns_109 ?_
                  refine mu_eV1 B dX12_readRuns_110 mX12_137 ⟨⟨by decide, by decide⟩, by decide, by decide⟩ (Nat.le_of_ble_eq_true rfl) (by assumption) (c_X12_byteAt2 G hm1 ht1 (i := i + d) (by omega)) ?_
                  refine mu_is_2 B dX12_readRuns_113 (by decide) rfl ?_
                  refine K114 (i + d) (tk_v (tb n tp) i d) _ (by omega) (by omega) hv9 (fun hL => ?_) (fun hL => ?_)
                  · rw [htq]; unfold tkn; rw [hnd, if_neg (by omega), if_neg (by omega), if_neg (by omega), if_neg (by omega), if_pos (show tb n tp (i + d) = 98 ∨ tb n tp (i + d) = 111 ∨ tb n tp (i + d) = 36 from hL)]
                  · rw [htq]; unfold tkn; rw [hnd, if_neg (by omega), if_neg (by omega), if_neg (by omega), if_neg (by omega), if_neg (show ¬ (tb n tp (i + d) = 98 ∨ tb n tp (i + d) = 111 ∨ tb n tp (i + d) = 36) from hL)]; exact ⟨rfl, rfl⟩
                · try rw [mI_le ⟨by omega, by omega⟩ ⟨by omega, by omega⟩] at c101
                  refine mu_il_1 B dX12_readRuns_104 ?_
                  refine mu_iconst (v := mI 1) B dX12_readRuns_105 rfl ?_
                  refine mu_isub B dX12_readRuns_106 ?_
                  try rw [mI_sub]
                  refine mu_iret E rfl (by decide) (by decide) dX12_readRuns_107 ?_
                  have hq9 : tq (tb n tp) k = (((i + d - 1 : Nat) : Int), i, 0, 0) := by rw [htq]; unfold tkn; rw [hnd, if_neg (by omega), if_neg (by omega), if_neg (by omega), if_pos (by omega)]
                  have hq0 : (tq (tb n tp) k).2.2.1 = 0 := by rw [hq9]
                  have hqf : (tq (tb n tp) k).1 = ((i + d : Nat) : Int) - 1 := by rw [hq9]; show ((i + d - 1 : Nat) : Int) = _; omega
                  refine ⟨hF, k, by omega, ⟨fun j hj => (hrr.2 j hj).1, by rw [hq0]; exact isL0⟩, hrr, by unfold rt_f; rw [hq0, if_neg (by decide), hqf], by unfold rt_f; rw [hq0, if_neg (by decide), hqf]; omega, by unfold rt_f; rw [hq0, if_neg (by decide), hqf]; omega⟩
              · have z66 := mu_bt c66
                refine mu_il_1 B dX12_readRuns_69 ?_
                refine mu_il_4 B dX12_readRuns_70 ?_
                refine mu_isub B dX12_readRuns_72 ?_
                try rw [mI_sub]
                refine mu_iconst (v := mI 3) B dX12_readRuns_73 rfl ?_
                refine mu_icmp_ne (tgt := 79) B dX12_readRuns_74 (by decide) (fun c74 => ?_) (fun c74 => ?_)
                · try rw [mI_eq ⟨by omega, by omega⟩ ⟨by omega, by omega⟩] at c74
                  refine mu_bipush (v := mI 10) B dX12_readRuns_79 (by decide) ?_
                  refine mu_il_3 B dX12_readRuns_81 ?_
                  refine mu_imul B dX12_readRuns_82 ?_
                  try rw [mI_mul]
                  refine mu_al_0 B dX12_readRuns_83 ?_
                  refine mu_il_1 B dX12_readRuns_84 ?_
                  refine mu_eV1 B dX12_readRuns_85 mX12_137 ⟨⟨by decide, by decide⟩, by decide, by decide⟩ (Nat.le_of_ble_eq_true rfl) (by assumption) (c_X12_byteAt2 G hm1 ht1 (i := i + d) (by omega)) ?_
                  refine mu_iadd B dX12_readRuns_88 ?_
                  try rw [mI_add]
                  refine mu_bipush (v := mI 48) B dX12_readRuns_89 (by decide) ?_
                  refine mu_isub B dX12_readRuns_91 ?_
                  try rw [mI_sub]
                  refine mu_is_3 B dX12_readRuns_92 (by decide) rfl ?_
                  refine mu_inc_1 (c := mI 1) B dX12_readRuns_93 rfl (by decide) rfl ?_
                  try rw [mI_add]
                  refine mu_goto (tgt := 58) B dX12_readRuns_96 (by decide) ?_
                  refine mu_to (ihd () (by omega) (fun e he => ?_)) rfl (by rw [tk_v, show ((i + (d + 1) : Nat) : Int) = ((i + d : Nat) : Int) + 1 by omega, show ((10 * tk_v (tb n tp) i d + (tb n tp (i + d) - 48).toNat : Nat) : Int) = 10 * (tk_v (tb n tp) i d : Int) + tb n tp (i + d) - 48 by omega])
                  by_cases e9 : e = d
                  · rw [e9]; omega
                  · exact hall e (by omega)
                · try rw [mI_eq ⟨by omega, by omega⟩ ⟨by omega, by omega⟩] at c74
                  refine mu_il_1 B dX12_readRuns_77 ?_
                  refine mu_iret E rfl (by decide) (by decide) dX12_readRuns_78 ?_
                  obtain rfl : 3 = d := by omega
                  have hnd := tk_nd4 (b := tb n tp) (p := i) (fun e he => by by_cases e9 : e = 3; (rw [e9]; exact z66); exact hall e (by omega))
                  have hq9 : tq (tb n tp) k = (((i + 3 : Nat) : Int), i, 0, 0) := by rw [htq]; unfold tkn; rw [hnd, if_neg (by omega), if_neg (by omega), if_pos rfl]
                  have hq0 : (tq (tb n tp) k).2.2.1 = 0 := by rw [hq9]
                  have hqf : (tq (tb n tp) k).1 = ((i + 3 : Nat) : Int) := by rw [hq9]
                  refine ⟨hF, k, by omega, ⟨fun j hj => (hrr.2 j hj).1, by rw [hq0]; exact isL0⟩, hrr, by unfold rt_f; rw [hq0, if_neg (by decide), hqf], by unfold rt_f; rw [hq0, if_neg (by decide), hqf]; omega, by unfold rt_f; rw [hq0, if_neg (by decide), hqf]; omega⟩
            refine mu_il_1 B dX12_readRuns_53 ?_
            refine mu_is_4 B dX12_readRuns_54 (by decide) rfl ?_
            refine mu_iconst (v := mI 0) B dX12_readRuns_56 rfl ?_
            refine mu_is_3 B dX12_readRuns_57 (by decide) rfl ?_
            exact LD 0 () (by decide) (fun e he => absurd he (Nat.not_lt_zero e))
          · try rw [mI_eq ⟨by omega, by omega⟩ ⟨by omega, by omega⟩] at c48
            refine mu_il_1 B dX12_readRuns_51 ?_
            refine mu_iret E rfl (by decide) (by decide) dX12_readRuns_52 ?_
            have hnd : tk_nd (tb n tp) i ≠ 0 := by unfold tk_nd; rw [if_neg (fun q => q hdig)]; split; decide; split; decide; split <;> decide
            have hq9 : tq (tb n tp) k = ((i : Int), i, 0, 0) := by rw [htq]; unfold tkn; rw [if_neg hnd, if_pos (by omega)]
            have hq0 : (tq (tb n tp) k).2.2.1 = 0 := by rw [hq9]
            have hqf : (tq (tb n tp) k).1 = (i : Int) := by rw [hq9]
            refine ⟨hF, k, by omega, ⟨fun j hj => (hrr.2 j hj).1, by rw [hq0]; exact isL0⟩, hrr, by unfold rt_f; rw [hq0, if_neg (by decide), hqf], by unfold rt_f; rw [hq0, if_neg (by decide), hqf]; omega, by unfold rt_f; rw [hq0, if_neg (by decide), hqf]; omega⟩
      · have z27 := mu_bt c27
        refine mu_inc_1 (c := mI 1) B dX12_readRuns_30 rfl (by decide) rfl ?_
        try rw [mI_add]
        refine mu_goto (tgt := 7) B dX12_readRuns_33 (by decide) ?_
        refine mu_fg (ih (i + 1, k, s) ⟨by show i + 1 ≤ n; have := tb_in (n := n) (tp := tp) (i := i) (by omega); omega, by show k ≤ i + 1; omega, hF, hrr, by rw [← hsk0]; exact (sk_blank (by omega) z27).symm⟩ (by show 2001 - (i + 1) < 2001 - i; omega)) rfl (by rw [show ((i + 1 : Nat) : Int) = (i : Int) + 1 by omega]; exact ⟨Or.inl rfl, Or.inl rfl, Or.inr rfl, Or.inr rfl, Or.inr rfl, trivial⟩)
  show mu_WA X G 5 _ _ 0 0 0 _ []
  refine mu_al_0 B dX12_readRuns_0 ?_
  refine mu_iconst (v := mI 0) B dX12_readRuns_1 rfl ?_
  refine mu_putI B dX12_readRuns_2 fX12_223 fwX12_24 rfl (by assumption) ?_
  refine mu_iconst (v := mI 0) B dX12_readRuns_5 rfl ?_
  refine mu_is_1 B dX12_readRuns_6 (by decide) rfl ?_
  exact LM (0, 0, _) ⟨Nat.zero_le _, Nat.le_refl _, (mu_Fi.refl _).si (Or.inl ⟨rfl, rfl⟩), ⟨mu_iv_same _ _ _ _, fun j hj => absurd hj (Nat.not_lt_zero j)⟩, rfl⟩
