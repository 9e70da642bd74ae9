def wk_S (m : Nat) : Nat → Nat → Prop := fun q j => (q = m ∧ j = 56) ∨ (m + 33 ≤ q ∧ q ≤ m + 36)
def WK (s : mu_W) (m S rr : Nat) (pv : Nat → Nat) (Rw : Nat → Nat → Int) : Prop := mu_iv s m 56 = mI rr ∧ (∀ i, i < rr → mu_iv s (m + 34) i = mI (pv i) ∧ LR s (m + 33) (4 * i) S (Rw i)) ∧ ∀ c, c < S → ((∃ i, i < rr ∧ pv i = c) → mu_iv s (m + 35) c = mI 0) ∧ (¬ (∃ i, i < rr ∧ pv i = c) → mu_iv s (m + 35) c = mI 1)
def wk_post (w : mu_W) (m : Nat) (r : mu_RS) (o : Option Value) (w' : mu_W) : Prop := o = none ∧ mu_Fi (wk_S m) w w' ∧ ∃ rr pv Rw, RSY r (rs_N r) rr pv Rw ∧ WK w' m (rs_S r) rr pv Rw
theorem wk_ru {w w' : mu_W} {m nr : Nat} {rs : Nat → mu_RS} (h : MRu w m nr rs) (hF : mu_Fi (wk_S m) w w') : MRu w' m nr rs := h.eqs (hF.2.2.2 _ _ (by unfold wk_S; omega)).1 (fun a r h1 h2 _ => (hF.2.2.2 _ _ (by unfold wk_S; omega)).1) (fun j _ => (hF.2.2.2 _ _ (by unfold wk_S; omega)).1) (fun j _ => (hF.2.2.2 _ _ (by unfold wk_S; omega)).1)
theorem LR.fi {T : Nat → Nat → Prop} {w w' : mu_W} {a fr s : Nat} {e : Nat → Int} (h : LR w a fr s e) (hF : mu_Fi T w w') (hn : ∀ j, fr ≤ j → j < fr + s → ¬ T a j) : LR w' a fr s e := fun c hc => hF.lg (hn _ (by omega) (by omega)) (h c hc)
theorem WK.fi {T : Nat → Nat → Prop} {w w' : mu_W} {m S rr : Nat} {pv : Nat → Nat} {Rw : Nat → Nat → Int} (h : WK w m S rr pv Rw) (hF : mu_Fi T w w') (h1 : ¬ T m 56) (h2 : ∀ q j, m + 33 ≤ q → q ≤ m + 35 → ¬ T q j) : WK w' m S rr pv Rw := ⟨hF.iv h1 h.1, fun i hi => ⟨hF.iv (h2 _ _ (by omega) (by omega)) (h.2.1 i hi).1, (h.2.1 i hi).2.fi hF (fun j _ _ => h2 _ _ (by omega) (by omega))⟩, fun c hc => ⟨fun q => hF.iv (h2 _ _ (by omega) (by omega)) ((h.2.2 c hc).1 q), fun q => hF.iv (h2 _ _ (by omega) (by omega)) ((h.2.2 c hc).2 q)⟩⟩
theorem lr_wk {m a fr s : Nat} {w w' : mu_W} (h : mu_Fi (lr_S a fr s) w w') (ha : m + 33 ≤ a ∧ a ≤ m + 36) : mu_Fi (wk_S m) w w' := h.mono (fun q j hh => by unfold lr_S at hh; unfold wk_S; omega)
theorem bdk_le (rr : Nat) : bdk rr ≤ 256 := by
  unfold bdk
  by_cases h : rr = 1
  · rw [if_pos h]; decide
  · rw [if_neg h]
    by_cases h2 : rr = 2
    · rw [if_pos h2]; decide
    · rw [if_neg h2]; decide

set_option maxHeartbeats 4000000 in
set_option maxRecDepth 100000 in
theorem c_X12_work (G : mu_G) {w : mu_W} {m : Nat} (hm : mo_ok w m) {nr : Nat} {rs : Nat → mu_RS} (hru : MRu w m nr rs) {k0 : Nat} (hk : k0 < nr) (h0 : rs_nb (rs k0) = 0) : mu_Ct G M_X12_work [.ref m, .int (mI k0)] w (fun r w' => wk_post w m (rs k0) r w') := by
  have hk0 := hm.1
  obtain ⟨r6, k6⟩ := mo_6 hm
  have hnr := hru.1
  obtain ⟨u1, u2, u3, u4, u5, u6⟩ := hru.2.2 k0 hk
  replace u6 := u6 h0
  have hS := rs_S_bd u1 h0
  have hN4 : rs_N (rs k0) ≤ 256 := (s4_le ⟨hS.1, hS.2.1⟩).2
  refine mu_ofWA G M_X12_work [.ref m, .int (mI k0), mu_no, mu_no, mu_no, mu_no, mu_no, mu_no] (by decide) rfl (Nat.le_of_ble_eq_true rfl) ?_
  intro X E
  have B : mu_B X G cX12_work RX12 8 (mu_rm M_X12_work) := E.1
  have LKk : ∀ k (st : mu_W × Nat × (Nat → Nat) × (Nat → Nat → Int)), k ≤ rs_N (rs k0) → (mu_Fi (wk_S m) w st.1 ∧ RSY (rs k0) k st.2.1 st.2.2.1 st.2.2.2 ∧ WK st.1 m (rs_S (rs k0)) st.2.1 st.2.2.1 st.2.2.2) → mu_WA X G 8 (mu_Q X G M_X12_work (wk_post w m (rs k0))) st.1 0 0 34 [.ref m, .int (mI k0), .int (mI (rs_S (rs k0))), .int (mI k), mu_no, mu_no, mu_no, mu_no] [] := by
    refine mu_ind (rs_N (rs k0)) (fun k (st : mu_W × Nat × (Nat → Nat) × (Nat → Nat → Int)) => mu_WA X G 8 (mu_Q X G M_X12_work (wk_post w m (rs k0))) st.1 0 0 34 [.ref m, .int (mI k0), .int (mI (rs_S (rs k0))), .int (mI k), mu_no, mu_no, mu_no, mu_no] []) (fun k (st : mu_W × Nat × (Nat → Nat) × (Nat → Nat → Int)) => mu_Fi (wk_S m) w st.1 ∧ RSY (rs k0) k st.2.1 st.2.2.1 st.2.2.2 ∧ WK st.1 m (rs_S (rs k0)) st.2.1 st.2.2.1 st.2.2.2) ?_
    rintro k ⟨s, rr, pv, Rw⟩ hk9 ⟨hF, hsy, hwk⟩ ihk
    dsimp only at hF hsy hwk ihk ⊢
    have hm1 := hm.fi hF
    have hk1 := hm1.1
    obtain ⟨r55, k55⟩ := mo_55 hm1
    obtain ⟨r57, k57⟩ := mo_57 hm1
    obtain ⟨r58, k58⟩ := mo_58 hm1
    obtain ⟨r59, k59⟩ := mo_59 hm1
    obtain ⟨r10, k10⟩ := mo_10 hm1
    have hru1 := wk_ru hru hF
    refine mu_il_3 B dX12_work_34 ?_
    refine mu_al_0 B dX12_work_35 ?_
    refine mu_il_1 B dX12_work_36 ?_
    refine mu_eV1 B dX12_work_37 mX12_328 ⟨⟨by decide, by decide⟩, by decide, by decide⟩ (Nat.le_of_ble_eq_true rfl) (by assumption) (c_X12_blocksOf G hm1 hru1 hk h0) ?_
    rw [show rs_S (rs k0) * rs_S (rs k0) * rs_S (rs k0) * rs_S (rs k0) = rs_N (rs k0) from rfl]
    refine mu_icmp_ge (tgt := 335) B dX12_work_40 (by decide) (fun c40 => ?_) (fun c40 => ?_)
    · try rw [mI_le ⟨by omega, by omega⟩ ⟨by omega, by omega⟩] at c40
      obtain rfl : rs_N (rs k0) = k := by omega
      refine mu_vret E rfl (by decide) (by decide) dX12_work_335 ?_
      exact ⟨rfl, hF, rr, pv, Rw, hsy, hwk⟩
    · try rw [mI_le ⟨by omega, by omega⟩ ⟨by omega, by omega⟩] at c40
      have hkN : k < rs_N (rs k0) := by omega
      have hkb : (rs_be (rs k0) k) < rs_N (rs k0) := hS.2.2 k hkN
      have hrS := hsy.1
      have hak := wk_a_ok hsy (e := (pe (rs_S (rs k0)) k (rs_be (rs k0) k) 4)) (pe_sum (by omega) 4) (fun q _ => pe_bd 4 q) rr (Nat.le_refl _)
      have K329 : ∀ (s : mu_W) (rr : Nat) (pv : Nat → Nat) (Rw : Nat → Nat → Int) (u4 u5 u6 u7 : Value), mu_Fi (wk_S m) w s → WK s m (rs_S (rs k0)) rr pv Rw → RSY (rs k0) (k + 1) rr pv Rw → mu_WA X G 8 (mu_Q X G M_X12_work (wk_post w m (rs k0))) s 0 0 329 [.ref m, .int (mI k0), .int (mI (rs_S (rs k0))), .int (mI k), u4, u5, u6, u7] [] := by
        intro s rr pv Rw u4 u5 u6 u7 hF hwk hsy
        refine mu_inc_3 (c := mI 1) B dX12_work_329 rfl (by decide) rfl ?_
        rw [mI_add]
        refine mu_goto (tgt := 34) B dX12_work_332 (by decide) ?_
        refine mu_fg (ihk (s, rr, pv, Rw) (by omega) ⟨hF, hsy, hwk⟩) rfl (by rw [show ((k + 1 : Nat) : Int) = (k : Int) + 1 by omega]; exact ⟨Or.inl rfl, Or.inl rfl, Or.inl rfl, Or.inl rfl, Or.inr rfl, Or.inr rfl, Or.inr rfl, Or.inr rfl, trivial⟩)
      have K175 : ∀ (s : mu_W) (u4 u5 u6 : Int32) (u7 : Value), mu_Fi (wk_S m) w s → WK s m (rs_S (rs k0)) rr pv Rw → LR s (m + 36) 0 (rs_S (rs k0)) (wk_a (rs_S (rs k0)) pv Rw (pe (rs_S (rs k0)) k (rs_be (rs k0) k) 4) rr) → mu_WA X G 8 (mu_Q X G M_X12_work (wk_post w m (rs k0))) s 0 0 175 [.ref m, .int (mI k0), .int (mI (rs_S (rs k0))), .int (mI k), .int u4, .int u5, .int u6, u7] [] := by
        intro s u4 u5 u6 u7 hF hwk hask
        have hm1 := hm.fi hF
        have hk1 := hm1.1
        obtain ⟨r55, k55⟩ := mo_55 hm1
        obtain ⟨r57, k57⟩ := mo_57 hm1
        obtain ⟨r58, k58⟩ := mo_58 hm1
        obtain ⟨r59, k59⟩ := mo_59 hm1
        obtain ⟨r10, k10⟩ := mo_10 hm1
        have LDd : ∀ n (u9 : Unit), n ≤ (rs_S (rs k0)) → (∀ q, (rs_S (rs k0)) - n ≤ q → q < (rs_S (rs k0)) → (wk_a (rs_S (rs k0)) pv Rw (pe (rs_S (rs k0)) k (rs_be (rs k0) k) 4) rr) q = 0) → mu_WA X G 8 (mu_Q X G M_X12_work (wk_post w m (rs k0))) s 0 0 180 [.ref m, .int (mI k0), .int (mI (rs_S (rs k0))), .int (mI k), .int u4, .int u5, .int (mI (((rs_S (rs k0)) : Int) - 1 - (n : Int))), u7] [] := by
          refine mu_ind ((rs_S (rs k0))) (fun n (u9 : Unit) => mu_WA X G 8 (mu_Q X G M_X12_work (wk_post w m (rs k0))) s 0 0 180 [.ref m, .int (mI k0), .int (mI (rs_S (rs k0))), .int (mI k), .int u4, .int u5, .int (mI (((rs_S (rs k0)) : Int) - 1 - (n : Int))), u7] []) (fun n (u9 : Unit) => ∀ q, (rs_S (rs k0)) - n ≤ q → q < (rs_S (rs k0)) → (wk_a (rs_S (rs k0)) pv Rw (pe (rs_S (rs k0)) k (rs_be (rs k0) k) 4) rr) q = 0) ?_
          intro n u9 hn hz ihn
          refine mu_il_6 B dX12_work_180 ?_
          refine mu_if_lt (tgt := 203) B dX12_work_182 (by decide) (fun c182 => ?_) (fun c182 => ?_)
          · try rw [mI_lt0 ⟨by omega, by omega⟩] at c182
            try rw [mI_lt0 ⟨by omega, by omega⟩] at c182
            have hall : (rs_S (rs k0)) ≤ n := by omega
            have hsk := hsy.skip (e := (pe (rs_S (rs k0)) k (rs_be (rs k0) k) 4)) (fun v _ => pe_4 _ _ _) (pe_sum (by omega) 4) (fun q _ => pe_bd 4 q) (fun q hq => hz q (by omega) hq)
            refine mu_il_6 B dX12_work_203 ?_
            refine mu_if_ge (tgt := 211) B dX12_work_205 (by decide) (fun c205 => ?_) (fun c205 => ?_)
            · try rw [mI_ge0 ⟨by omega, by omega⟩] at c205
              exfalso
              omega
            · try rw [mI_ge0 ⟨by omega, by omega⟩] at c205
              refine mu_goto (tgt := 329) B dX12_work_208 (by decide) ?_
              exact K329 s rr pv Rw _ _ _ _ hF hwk hsk
          · try rw [mI_lt0 ⟨by omega, by omega⟩] at c182
            refine mu_al_0 B dX12_work_185 ?_
            refine mu_getR B dX12_work_186 fX12_121 rfl (by assumption) (by assumption) ?_
            refine mu_il_6 B dX12_work_189 ?_
            refine mu_lald B dX12_work_191 (by assumption) (mI_in (by omega) (by omega) (by decide)) ?_
            rw [mI_clamp ⟨by omega, by omega⟩]
            rw [show (((rs_S (rs k0)) : Int) - 1 - (n : Int)).toNat = (rs_S (rs k0)) - 1 - n by omega]
            have e0 := hask ((rs_S (rs k0)) - 1 - n) (by omega)
            rw [Nat.zero_add] at e0
            rw [e0]
            have eb := Nat.le_trans (hak.2.1 ((rs_S (rs k0)) - 1 - n) (by omega)) (ab_le rr rr (by omega) (Nat.le_refl _)).1
            refine mu_lconst (v := mL 0) B dX12_work_192 rfl ?_
            refine mu_lcmp B dX12_work_193 ?_
            refine mu_if_ne (tgt := 203) B dX12_work_194 (by decide) (fun c194 => ?_) (fun c194 => ?_)
            · rw [lg_cmp_eq] at c194; try rw [mL_eq ⟨by omega, by omega⟩ ⟨by omega, by omega⟩] at c194
              have hnz : (wk_a (rs_S (rs k0)) pv Rw (pe (rs_S (rs k0)) k (rs_be (rs k0) k) 4) rr) ((rs_S (rs k0)) - 1 - n) ≠ 0 := c194
              obtain ⟨c, hcd⟩ : ∃ c : Nat, c = (rs_S (rs k0)) - 1 - n := ⟨_, rfl⟩
              have hc : c < (rs_S (rs k0)) := by omega
              have hcn : (wk_a (rs_S (rs k0)) pv Rw (pe (rs_S (rs k0)) k (rs_be (rs k0) k) 4) rr) c ≠ 0 := by rw [hcd]; exact hnz
              have hcl : ∀ q, q < (rs_S (rs k0)) → c < q → (wk_a (rs_S (rs k0)) pv Rw (pe (rs_S (rs k0)) k (rs_be (rs k0) k) 4) rr) q = 0 := fun q h1 h2 => hz q (by omega) h1
              have hadd := hsy.add (by omega) (e := (pe (rs_S (rs k0)) k (rs_be (rs k0) k) 4)) (fun v _ => pe_4 _ _ _) (pe_sum (by omega) 4) (fun q _ => pe_bd 4 q) hc hcn hcl (pv' := rs_up pv rr c) (Rw' := (fun j => if j < rr then wo (rs_S (rs k0)) (Rw j) (lt (rs_S (rs k0)) (wk_a (rs_S (rs k0)) pv Rw (pe (rs_S (rs k0)) k (rs_be (rs k0) k) 4) rr)) c else if j = rr then (lt (rs_S (rs k0)) (wk_a (rs_S (rs k0)) pv Rw (pe (rs_S (rs k0)) k (rs_be (rs k0) k) 4) rr)) else Rw j)) (fun j hj => by unfold rs_up; rw [if_neg (by omega)]) (by unfold rs_up; rw [if_pos rfl]) (fun j hj q hq => by rw [if_pos hj]) (fun q hq => by rw [if_neg (by omega), if_pos rfl])
              have hrr2 := hadd.2
              rw [show ((rs_S (rs k0)) : Int) - 1 - (n : Int) = (c : Int) by omega]
              have LFf : ∀ i (s : mu_W), i ≤ (rs_S (rs k0)) → ((mu_Fi (wk_S m) w s ∧ WK s m (rs_S (rs k0)) rr pv Rw) ∧ LR s (m + 36) 0 (rs_S (rs k0)) (lt (rs_S (rs k0)) (wk_a (rs_S (rs k0)) pv Rw (pe (rs_S (rs k0)) k (rs_be (rs k0) k) 4) rr)) ∧ ∀ v, v < i → mu_lg s (m + 33) (4 * rr + v) = mL ((lt (rs_S (rs k0)) (wk_a (rs_S (rs k0)) pv Rw (pe (rs_S (rs k0)) k (rs_be (rs k0) k) 4) rr)) v)) → mu_WA X G 8 (mu_Q X G M_X12_work (wk_post w m (rs k0))) s 0 0 224 [.ref m, .int (mI k0), .int (mI (rs_S (rs k0))), .int (mI k), .int u4, .int u5, .int (mI c), .int (mI i)] [] := by
                refine mu_ind ((rs_S (rs k0))) (fun i (s : mu_W) => mu_WA X G 8 (mu_Q X G M_X12_work (wk_post w m (rs k0))) s 0 0 224 [.ref m, .int (mI k0), .int (mI (rs_S (rs k0))), .int (mI k), .int u4, .int u5, .int (mI c), .int (mI i)] []) (fun i (s : mu_W) => (mu_Fi (wk_S m) w s ∧ WK s m (rs_S (rs k0)) rr pv Rw) ∧ LR s (m + 36) 0 (rs_S (rs k0)) (lt (rs_S (rs k0)) (wk_a (rs_S (rs k0)) pv Rw (pe (rs_S (rs k0)) k (rs_be (rs k0) k) 4) rr)) ∧ ∀ v, v < i → mu_lg s (m + 33) (4 * rr + v) = mL ((lt (rs_S (rs k0)) (wk_a (rs_S (rs k0)) pv Rw (pe (rs_S (rs k0)) k (rs_be (rs k0) k) 4) rr)) v)) ?_
                rintro i s hi ⟨⟨hF, hwk⟩, hask, hnew⟩ ihi
                have hm1 := hm.fi hF
                have hk1 := hm1.1
                obtain ⟨r55, k55⟩ := mo_55 hm1
                obtain ⟨r57, k57⟩ := mo_57 hm1
                obtain ⟨r58, k58⟩ := mo_58 hm1
                obtain ⟨r59, k59⟩ := mo_59 hm1
                obtain ⟨r10, k10⟩ := mo_10 hm1
                refine mu_il_7 B dX12_work_224 ?_
                refine mu_il_2 B dX12_work_226 ?_
                refine mu_icmp_ge (tgt := 257) B dX12_work_227 (by decide) (fun c227 => ?_) (fun c227 => ?_)
                · try rw [mI_le ⟨by omega, by omega⟩ ⟨by omega, by omega⟩] at c227
                  obtain rfl : (rs_S (rs k0)) = i := by omega
                  refine mu_al_0 B dX12_work_257 ?_
                  refine mu_getR B dX12_work_258 fX12_115 rfl (by assumption) (by assumption) ?_
                  refine mu_al_0 B dX12_work_261 ?_
                  refine mu_getI B dX12_work_262 fX12_348 rfl (by assumption) ?_
                  rw [hwk.1]
                  refine mu_il_6 B dX12_work_265 ?_
                  refine mu_iast B dX12_work_267 (by assumption) (mI_inN (by omega) (by decide)) ?_
                  rw [mI_clampN (by omega)]
                  refine mu_al_0 B dX12_work_268 ?_
                  refine mu_getR B dX12_work_269 fX12_118 rfl (by assumption) (by assumption) ?_
                  refine mu_il_6 B dX12_work_272 ?_
                  refine mu_iconst (v := mI 0) B dX12_work_274 rfl ?_
                  refine mu_zast B dX12_work_275 (by assumption) (mI_inN (by omega) (by decide)) (Or.inl rfl) ?_
                  rw [mI_clampN (by omega)]
                  refine mu_al_0 B dX12_work_276 ?_
                  refine mu_dup B dX12_work_277 rfl ?_
                  refine mu_getI B dX12_work_278 fX12_348 rfl (by assumption) ?_
                  rw [mu_iv_oth _ _ (by omega), mu_iv_oth _ _ (by omega), hwk.1]
                  refine mu_iconst (v := mI 1) B dX12_work_281 rfl ?_
                  refine mu_iadd B dX12_work_282 ?_
                  try rw [mI_add]
                  refine mu_putI B dX12_work_283 fX12_348 fwX12_56 rfl (by assumption) ?_
                  rw [show (rr : Int) + 1 = ((rr + 1 : Nat) : Int) by omega]
                  refine mu_iconst (v := mI 0) B dX12_work_286 rfl ?_
                  refine mu_is_7 B dX12_work_287 (by decide) rfl ?_
                  have LGg : ∀ i (s : mu_W), i ≤ rr → (mu_Fi (wk_S m) w s ∧ mu_iv s m 56 = mI ((rr + 1 : Nat) : Int) ∧ (∀ j, j < rr + 1 → mu_iv s (m + 34) j = mI ((rs_up pv rr c j : Nat) : Int)) ∧ (∀ v, v < (rs_S (rs k0)) → ((∃ j, j < rr + 1 ∧ rs_up pv rr c j = v) → mu_iv s (m + 35) v = mI 0) ∧ (¬ (∃ j, j < rr + 1 ∧ rs_up pv rr c j = v) → mu_iv s (m + 35) v = mI 1)) ∧ (∀ j, j < rr + 1 → LR s (m + 33) (4 * j) (rs_S (rs k0)) ((fun j => if j < i then wo (rs_S (rs k0)) (Rw j) (lt (rs_S (rs k0)) (wk_a (rs_S (rs k0)) pv Rw (pe (rs_S (rs k0)) k (rs_be (rs k0) k) 4) rr)) c else if j = rr then (lt (rs_S (rs k0)) (wk_a (rs_S (rs k0)) pv Rw (pe (rs_S (rs k0)) k (rs_be (rs k0) k) 4) rr)) else Rw j) j))) → mu_WA X G 8 (mu_Q X G M_X12_work (wk_post w m (rs k0))) s 0 0 289 [.ref m, .int (mI k0), .int (mI (rs_S (rs k0))), .int (mI k), .int u4, .int u5, .int (mI c), .int (mI i)] [] := by
                    refine mu_ind (rr) (fun i (s : mu_W) => mu_WA X G 8 (mu_Q X G M_X12_work (wk_post w m (rs k0))) s 0 0 289 [.ref m, .int (mI k0), .int (mI (rs_S (rs k0))), .int (mI k), .int u4, .int u5, .int (mI c), .int (mI i)] []) (fun i (s : mu_W) => mu_Fi (wk_S m) w s ∧ mu_iv s m 56 = mI ((rr + 1 : Nat) : Int) ∧ (∀ j, j < rr + 1 → mu_iv s (m + 34) j = mI ((rs_up pv rr c j : Nat) : Int)) ∧ (∀ v, v < (rs_S (rs k0)) → ((∃ j, j < rr + 1 ∧ rs_up pv rr c j = v) → mu_iv s (m + 35) v = mI 0) ∧ (¬ (∃ j, j < rr + 1 ∧ rs_up pv rr c j = v) → mu_iv s (m + 35) v = mI 1)) ∧ (∀ j, j < rr + 1 → LR s (m + 33) (4 * j) (rs_S (rs k0)) ((fun j => if j < i then wo (rs_S (rs k0)) (Rw j) (lt (rs_S (rs k0)) (wk_a (rs_S (rs k0)) pv Rw (pe (rs_S (rs k0)) k (rs_be (rs k0) k) 4) rr)) c else if j = rr then (lt (rs_S (rs k0)) (wk_a (rs_S (rs k0)) pv Rw (pe (rs_S (rs k0)) k (rs_be (rs k0) k) 4) rr)) else Rw j) j))) ?_
                    rintro i s hi ⟨hF, h56, hpv, hfr, hrows⟩ ihi
                    dsimp only at hrows
                    have hm1 := hm.fi hF
                    have hk1 := hm1.1
                    obtain ⟨r55, k55⟩ := mo_55 hm1
                    obtain ⟨r57, k57⟩ := mo_57 hm1
                    obtain ⟨r58, k58⟩ := mo_58 hm1
                    obtain ⟨r59, k59⟩ := mo_59 hm1
                    obtain ⟨r10, k10⟩ := mo_10 hm1
                    refine mu_il_7 B dX12_work_289 ?_
                    refine mu_al_0 B dX12_work_291 ?_
                    refine mu_getI B dX12_work_292 fX12_348 rfl (by assumption) ?_
                    rw [h56]
                    refine mu_iconst (v := mI 1) B dX12_work_295 rfl ?_
                    refine mu_isub B dX12_work_296 ?_
                    try rw [mI_sub]
                    try rw [mI_sub]
                    rw [show ((rr + 1 : Nat) : Int) - 1 = (rr : Int) by omega]
                    refine mu_icmp_ge (tgt := 329) B dX12_work_297 (by decide) (fun c297 => ?_) (fun c297 => ?_)
                    · try rw [mI_le ⟨by omega, by omega⟩ ⟨by omega, by omega⟩] at c297
                      obtain rfl : rr = i := by omega
                      exact K329 s (rr + 1) (rs_up pv rr c) (fun j => if j < rr then wo (rs_S (rs k0)) (Rw j) (lt (rs_S (rs k0)) (wk_a (rs_S (rs k0)) pv Rw (pe (rs_S (rs k0)) k (rs_be (rs k0) k) 4) rr)) c else if j = rr then (lt (rs_S (rs k0)) (wk_a (rs_S (rs k0)) pv Rw (pe (rs_S (rs k0)) k (rs_be (rs k0) k) 4) rr)) else Rw j) _ _ _ _ hF ⟨h56, fun j hj => ⟨hpv j hj, hrows j hj⟩, hfr⟩ hadd.1
                    · try rw [mI_le ⟨by omega, by omega⟩ ⟨by omega, by omega⟩] at c297
                      have hi9 : i < rr := by omega
                      have e1 := hrows i (by omega)
                      rw [if_neg (by omega), if_neg (by omega)] at e1
                      have e2 := hrows rr (by omega)
                      rw [if_neg (by omega), if_pos rfl] at e2
                      refine mu_al_0 B dX12_work_300 ?_
                      refine mu_al_0 B dX12_work_301 ?_
                      refine mu_getR B dX12_work_302 fX12_111 rfl (by assumption) (by assumption) ?_
                      refine mu_iconst (v := mI 4) B dX12_work_305 rfl ?_
                      refine mu_il_7 B dX12_work_306 ?_
                      refine mu_imul B dX12_work_308 ?_
                      try rw [mI_mul]
                      try rw [mI_mul]
                      rw [show (4 : Int) * (i : Int) = ((4 * i : Nat) : Int) by omega]
                      refine mu_iconst (v := mI 4) B dX12_work_309 rfl ?_
                      refine mu_al_0 B dX12_work_310 ?_
                      refine mu_getI B dX12_work_311 fX12_348 rfl (by assumption) ?_
                      rw [h56]
                      refine mu_iconst (v := mI 1) B dX12_work_314 rfl ?_
                      refine mu_isub B dX12_work_315 ?_
                      try rw [mI_sub]
                      try rw [mI_sub]
                      rw [show ((rr + 1 : Nat) : Int) - 1 = (rr : Int) by omega]
                      refine mu_imul B dX12_work_316 ?_
                      try rw [mI_mul]
                      try rw [mI_mul]
                      rw [show (4 : Int) * (rr : Int) = ((4 * rr : Nat) : Int) by omega]
                      refine mu_il_6 B dX12_work_317 ?_
                      refine mu_il_2 B dX12_work_319 ?_
                      refine mu_cV5 B dX12_work_320 mX12_351 ⟨⟨by decide, by decide⟩, by decide, by decide⟩ (Nat.le_of_ble_eq_true rfl) (by assumption) (c_X12_without G hm1 (a := m + 33) (N := 16) (fr := 4 * i) (by_ := 4 * rr) (c := c) (s := (rs_S (rs k0))) k55 (by omega) (by omega) (by omega) (by omega) hc (by omega) e1 e2 (A := bdk rr) (B := 1048576) (hsy.2.1 i hi9).2.2.2.2.2.2 (fun q hq => Nat.le_trans (lt_le hq) (Nat.le_trans (hak.2.1 q hq) (ab_le rr rr (by omega) (Nat.le_refl _)).1)) (by have := bdk_le rr; omega) (by have := bdk_le rr; omega)) (fun r320 w320 q320 => ?_)
                      obtain ⟨rfl, hFw, hLw⟩ := q320
                      show mu_WA X G 8 _ w320 0 0 323 _ []
                      refine mu_inc_7 (c := mI 1) B dX12_work_323 rfl (by decide) rfl ?_
                      try rw [mI_add]
                      refine mu_goto (tgt := 289) B dX12_work_326 (by decide) ?_
                      refine mu_to (ihi w320 (by omega) ⟨hF.trans (lr_wk hFw (by omega)), hFw.iv (by unfold lr_S; omega) h56, fun j hj => hFw.iv (by unfold lr_S; omega) (hpv j hj), fun v hv => ⟨fun q => hFw.iv (by unfold lr_S; omega) ((hfr v hv).1 q), fun q => hFw.iv (by unfold lr_S; omega) ((hfr v hv).2 q)⟩, fun j hj => ?_⟩) rfl (by rw [show ((i + 1 : Nat) : Int) = (i : Int) + 1 by omega])
                      dsimp only
                      by_cases e9 : j = i
                      · rw [if_pos (by omega), e9]; exact hLw
                      · have e8 := hrows j hj
                        by_cases e7 : j < i
                        · rw [if_pos e7] at e8; rw [if_pos (by omega)]; exact e8.fi hFw (fun q h1 h2 => by unfold lr_S; omega)
                        · rw [if_neg e7] at e8; rw [if_neg (by omega)]; exact e8.fi hFw (fun q h1 h2 => by unfold lr_S; omega)
                  refine LGg 0 _ (Nat.zero_le _) ⟨((hF.si (Or.inr ⟨by omega, by omega⟩)).si (Or.inr ⟨by omega, by omega⟩)).si (Or.inl ⟨rfl, rfl⟩), mu_iv_same _ _ _ _, fun j hj => ?_, fun v hv => ?_, fun j hj => ?_⟩
                  · rw [mu_iv_oth _ _ (by omega), mu_iv_oth _ _ (by omega)]
                    unfold rs_up
                    by_cases e9 : j = rr
                    · rw [if_pos e9, e9, mu_iv_same]
                    · rw [if_neg e9, mu_iv_oth _ _ (by omega)]; exact (hwk.2.1 j (by omega)).1
                  · rw [mu_iv_oth _ _ (by omega)]
                    by_cases e9 : v = c
                    · rw [e9, mu_iv_same]
                      exact ⟨fun _ => rfl, fun q => absurd ⟨rr, by omega, by unfold rs_up; rw [if_pos rfl]⟩ q⟩
                    · rw [mu_iv_oth _ _ (by omega), mu_iv_oth _ _ (by omega)]
                      have e8 : (∃ j, j < rr + 1 ∧ rs_up pv rr c j = v) ↔ ∃ j, j < rr ∧ pv j = v := ⟨fun ⟨j, h1, h2⟩ => by unfold rs_up at h2; by_cases e7 : j = rr; (rw [if_pos e7] at h2; exact absurd h2.symm e9); (rw [if_neg e7] at h2; exact ⟨j, by omega, h2⟩), fun ⟨j, h1, h2⟩ => ⟨j, by omega, by unfold rs_up; rw [if_neg (by omega)]; exact h2⟩⟩
                      rw [e8]
                      exact hwk.2.2 v hv
                  · show LR _ (m + 33) (4 * j) (rs_S (rs k0)) (if j < 0 then wo (rs_S (rs k0)) (Rw j) (lt (rs_S (rs k0)) (wk_a (rs_S (rs k0)) pv Rw (pe (rs_S (rs k0)) k (rs_be (rs k0) k) 4) rr)) c else if j = rr then (lt (rs_S (rs k0)) (wk_a (rs_S (rs k0)) pv Rw (pe (rs_S (rs k0)) k (rs_be (rs k0) k) 4) rr)) else Rw j)
                    rw [if_neg (by omega)]
                    by_cases e9 : j = rr
                    · rw [if_pos e9, e9]; exact hnew
                    · rw [if_neg e9]; exact (hwk.2.1 j (by omega)).2
                · try rw [mI_le ⟨by omega, by omega⟩ ⟨by omega, by omega⟩] at c227
                  refine mu_al_0 B dX12_work_230 ?_
                  refine mu_getR B dX12_work_231 fX12_111 rfl (by assumption) (by assumption) ?_
                  refine mu_iconst (v := mI 4) B dX12_work_234 rfl ?_
                  refine mu_al_0 B dX12_work_235 ?_
                  refine mu_getI B dX12_work_236 fX12_348 rfl (by assumption) ?_
                  rw [hwk.1]
                  refine mu_imul B dX12_work_239 ?_
                  try rw [mI_mul]
                  try rw [mI_mul]
                  rw [show (4 : Int) * (rr : Int) = ((4 * rr : Nat) : Int) by omega]
                  refine mu_il_7 B dX12_work_240 ?_
                  refine mu_iadd B dX12_work_242 ?_
                  try rw [mI_add]
                  try rw [mI_add]
                  rw [← Int.natCast_add]
                  refine mu_al_0 B dX12_work_243 ?_
                  refine mu_getR B dX12_work_244 fX12_121 rfl (by assumption) (by assumption) ?_
                  refine mu_il_7 B dX12_work_247 ?_
                  refine mu_lald B dX12_work_249 (by assumption) (mI_inN (by omega) (by decide)) ?_
                  rw [mI_clampN (by omega)]
                  have e0 := hask i (by omega)
                  rw [Nat.zero_add] at e0
                  rw [e0]
                  refine mu_last B dX12_work_250 (by assumption) (mI_inN (by omega) (by decide)) ?_
                  rw [mI_clampN (by omega)]
                  refine mu_inc_7 (c := mI 1) B dX12_work_251 rfl (by decide) rfl ?_
                  try rw [mI_add]
                  refine mu_goto (tgt := 224) B dX12_work_254 (by decide) ?_
                  refine mu_to (ihi _ (by omega) ⟨⟨hF.sl (Or.inr ⟨by omega, by omega⟩), ⟨hwk.1, fun j hj => ⟨(hwk.2.1 j hj).1, fun v hv => (mu_lg_oth _ _ (by omega)).trans ((hwk.2.1 j hj).2 v hv)⟩, hwk.2.2⟩⟩, fun v hv => (mu_lg_oth _ _ (by omega)).trans (hask v hv), fun v hv => ?_⟩) rfl (by rw [show ((i + 1 : Nat) : Int) = (i : Int) + 1 by omega])
                  by_cases e9 : v = i
                  · rw [e9, mu_lg_same]
                  · rw [mu_lg_oth _ _ (by omega)]; exact hnew v (by omega)
              refine mu_il_6 B dX12_work_203 ?_
              refine mu_if_ge (tgt := 211) B dX12_work_205 (by decide) (fun c205 => ?_) (fun c205 => ?_)
              · try rw [mI_ge0 ⟨by omega, by omega⟩] at c205
                refine mu_al_0 B dX12_work_211 ?_
                refine mu_al_0 B dX12_work_212 ?_
                refine mu_getR B dX12_work_213 fX12_121 rfl (by assumption) (by assumption) ?_
                refine mu_iconst (v := mI 0) B dX12_work_216 rfl ?_
                refine mu_il_2 B dX12_work_217 ?_
                refine mu_cV3 B dX12_work_218 mX12_355 ⟨⟨by decide, by decide⟩, by decide, by decide⟩ (Nat.le_of_ble_eq_true rfl) (by assumption) (c_X12_lighter G (m := m) (a := m + 36) (N := 4) (fr := 0) k59 (by omega) (by omega) (by omega) hask (fun q hq => Nat.le_trans (hak.2.1 q hq) (Nat.le_trans (ab_le rr rr (by omega) (Nat.le_refl _)).1 (by decide)))) (fun r218 w218 q218 => ?_)
                obtain ⟨rfl, hF2, hL2⟩ := q218
                show mu_WA X G 8 _ w218 0 0 221 _ []
                refine mu_iconst (v := mI 0) B dX12_work_221 rfl ?_
                refine mu_is_7 B dX12_work_222 (by decide) rfl ?_
                exact LFf 0 w218 (Nat.zero_le _) ⟨⟨hF.trans (lr_wk hF2 (by omega)), hwk.fi hF2 (by unfold lr_S; omega) (fun q j h1 h2 => by unfold lr_S; omega)⟩, hL2, fun v hv => absurd hv (Nat.not_lt_zero v)⟩
              · try rw [mI_ge0 ⟨by omega, by omega⟩] at c205
                exfalso
                omega
            · rw [lg_cmp_eq] at c194; try rw [mL_eq ⟨by omega, by omega⟩ ⟨by omega, by omega⟩] at c194
              have hnz : (wk_a (rs_S (rs k0)) pv Rw (pe (rs_S (rs k0)) k (rs_be (rs k0) k) 4) rr) ((rs_S (rs k0)) - 1 - n) = 0 := by omega
              refine mu_inc_6 (c := mI (-1)) B dX12_work_197 rfl (by decide) rfl ?_
              try rw [mI_add]
              refine mu_goto (tgt := 180) B dX12_work_200 (by decide) ?_
              refine mu_to (ihn () (by omega) (fun q h1 h2 => ?_)) rfl (by rw [show ((rs_S (rs k0)) : Int) - 1 - ((n + 1 : Nat) : Int) = ((rs_S (rs k0)) : Int) - 1 - (n : Int) + -1 by omega])
              by_cases e9 : q = (rs_S (rs k0)) - 1 - n
              · rw [e9]; exact hnz
              · exact hz q (by omega) h2
        refine mu_il_2 B dX12_work_175 ?_
        refine mu_iconst (v := mI 1) B dX12_work_176 rfl ?_
        refine mu_isub B dX12_work_177 ?_
        try rw [mI_sub]
        refine mu_is_6 B dX12_work_178 (by decide) rfl ?_
        exact mu_to (LDd 0 () (Nat.zero_le _) (fun q h1 h2 => absurd h2 (by omega))) rfl (by rw [Int.natCast_zero, Int.sub_zero])
      have LCc : ∀ (u4 u5 : Int32) (u7 : Value), ∀ i (s : mu_W), i ≤ rr → (mu_Fi (wk_S m) w s ∧ WK s m (rs_S (rs k0)) rr pv Rw ∧ LR s (m + 36) 0 (rs_S (rs k0)) (wk_a (rs_S (rs k0)) pv Rw (pe (rs_S (rs k0)) k (rs_be (rs k0) k) 4) i)) → mu_WA X G 8 (mu_Q X G M_X12_work (wk_post w m (rs k0))) s 0 0 139 [.ref m, .int (mI k0), .int (mI (rs_S (rs k0))), .int (mI k), .int u4, .int u5, .int (mI i), u7] [] := by
        intro u4 u5 u7
        refine mu_ind (rr) (fun i (s : mu_W) => mu_WA X G 8 (mu_Q X G M_X12_work (wk_post w m (rs k0))) s 0 0 139 [.ref m, .int (mI k0), .int (mI (rs_S (rs k0))), .int (mI k), .int u4, .int u5, .int (mI i), u7] []) (fun i (s : mu_W) => mu_Fi (wk_S m) w s ∧ WK s m (rs_S (rs k0)) rr pv Rw ∧ LR s (m + 36) 0 (rs_S (rs k0)) (wk_a (rs_S (rs k0)) pv Rw (pe (rs_S (rs k0)) k (rs_be (rs k0) k) 4) i)) ?_
        rintro i s hi ⟨hF, hwk, hask⟩ ihi
        have hm1 := hm.fi hF
        have hk1 := hm1.1
        obtain ⟨r55, k55⟩ := mo_55 hm1
        obtain ⟨r57, k57⟩ := mo_57 hm1
        obtain ⟨r58, k58⟩ := mo_58 hm1
        obtain ⟨r59, k59⟩ := mo_59 hm1
        obtain ⟨r10, k10⟩ := mo_10 hm1
        refine mu_il_6 B dX12_work_139 ?_
        refine mu_al_0 B dX12_work_141 ?_
        refine mu_getI B dX12_work_142 fX12_348 rfl (by assumption) ?_
        rw [hwk.1]
        refine mu_icmp_ge (tgt := 175) B dX12_work_145 (by decide) (fun c145 => ?_) (fun c145 => ?_)
        · try rw [mI_le ⟨by omega, by omega⟩ ⟨by omega, by omega⟩] at c145
          obtain rfl : rr = i := by omega
          exact K175 s _ _ _ _ hF hwk hask
        · try rw [mI_le ⟨by omega, by omega⟩ ⟨by omega, by omega⟩] at c145
          refine mu_al_0 B dX12_work_148 ?_
          refine mu_al_0 B dX12_work_149 ?_
          refine mu_getR B dX12_work_150 fX12_121 rfl (by assumption) (by assumption) ?_
          refine mu_iconst (v := mI 0) B dX12_work_153 rfl ?_
          refine mu_iconst (v := mI 4) B dX12_work_154 rfl ?_
          refine mu_il_6 B dX12_work_155 ?_
          refine mu_imul B dX12_work_157 ?_
          try rw [mI_mul]
          try rw [mI_mul]
          rw [show (4 : Int) * (i : Int) = ((4 * i : Nat) : Int) by omega]
          refine mu_al_0 B dX12_work_158 ?_
          refine mu_getR B dX12_work_159 fX12_115 rfl (by assumption) (by assumption) ?_
          refine mu_il_6 B dX12_work_162 ?_
          refine mu_iald B dX12_work_164 (by assumption) (mI_inN (by omega) (by decide)) ?_
          rw [mI_clampN (by omega), (hwk.2.1 i (by omega)).1]
          refine mu_il_2 B dX12_work_165 ?_
          refine mu_cV5 B dX12_work_166 mX12_351 ⟨⟨by decide, by decide⟩, by decide, by decide⟩ (Nat.le_of_ble_eq_true rfl) (by assumption) (c_X12_without G hm1 (a := m + 36) (N := 4) (fr := 0) (by_ := 4 * i) (c := pv i) (s := (rs_S (rs k0))) k59 (by omega) (by omega) (by omega) (by omega) (hsy.2.1 i (by omega)).1.2 (by omega) hask (hwk.2.1 i (by omega)).2 (A := ab (bdk rr) i) (B := bdk rr) (wk_a_ok hsy (pe_sum (by omega) 4) (fun q _ => pe_bd 4 q) i (by omega)).2.1 (hsy.2.1 i (by omega)).2.2.2.2.2.2 (ab_le rr i (by omega) (by omega)).2 (Nat.le_trans (ab_le rr i (by omega) (by omega)).1 (by decide))) (fun r166 w166 q166 => ?_)
          obtain ⟨rfl, hF2, hL2⟩ := q166
          show mu_WA X G 8 _ w166 0 0 169 _ []
          refine mu_inc_6 (c := mI 1) B dX12_work_169 rfl (by decide) rfl ?_
          try rw [mI_add]
          refine mu_goto (tgt := 139) B dX12_work_172 (by decide) ?_
          exact mu_to (ihi w166 (by omega) ⟨hF.trans (lr_wk hF2 (by omega)), hwk.fi hF2 (by unfold lr_S; omega) (fun q j h1 h2 => by unfold lr_S; omega), hL2⟩) rfl (by rw [show ((i + 1 : Nat) : Int) = (i : Int) + 1 by omega])
      have LBb : ∀ u7 : Value, ∀ i (s : mu_W), i ≤ 4 → (mu_Fi (wk_S m) w s ∧ WK s m (rs_S (rs k0)) rr pv Rw ∧ LR s (m + 36) 0 (rs_S (rs k0)) (pe (rs_S (rs k0)) k (rs_be (rs k0) k) i)) → mu_WA X G 8 (mu_Q X G M_X12_work (wk_post w m (rs k0))) s 0 0 86 [.ref m, .int (mI k0), .int (mI (rs_S (rs k0))), .int (mI k), .int (mI ((k / (rs_S (rs k0)) ^ i : Nat) : Int)), .int (mI (((rs_be (rs k0) k) / (rs_S (rs k0)) ^ i : Nat) : Int)), .int (mI i), u7] [] := by
        intro u7
        refine mu_ind (4) (fun i (s : mu_W) => mu_WA X G 8 (mu_Q X G M_X12_work (wk_post w m (rs k0))) s 0 0 86 [.ref m, .int (mI k0), .int (mI (rs_S (rs k0))), .int (mI k), .int (mI ((k / (rs_S (rs k0)) ^ i : Nat) : Int)), .int (mI (((rs_be (rs k0) k) / (rs_S (rs k0)) ^ i : Nat) : Int)), .int (mI i), u7] []) (fun i (s : mu_W) => mu_Fi (wk_S m) w s ∧ WK s m (rs_S (rs k0)) rr pv Rw ∧ LR s (m + 36) 0 (rs_S (rs k0)) (pe (rs_S (rs k0)) k (rs_be (rs k0) k) i)) ?_
        rintro i s hi ⟨hF, hwk, hask⟩ ihi
        have hm1 := hm.fi hF
        have hk1 := hm1.1
        obtain ⟨r55, k55⟩ := mo_55 hm1
        obtain ⟨r57, k57⟩ := mo_57 hm1
        obtain ⟨r58, k58⟩ := mo_58 hm1
        obtain ⟨r59, k59⟩ := mo_59 hm1
        obtain ⟨r10, k10⟩ := mo_10 hm1
        have hv1 := Nat.div_le_self k ((rs_S (rs k0)) ^ i)
        have hv2 := Nat.div_le_self (rs_be (rs k0) k) ((rs_S (rs k0)) ^ i)
        refine mu_il_6 B dX12_work_86 ?_
        refine mu_iconst (v := mI 4) B dX12_work_88 rfl ?_
        refine mu_icmp_ge (tgt := 136) B dX12_work_89 (by decide) (fun c89 => ?_) (fun c89 => ?_)
        · try rw [mI_le ⟨by omega, by omega⟩ ⟨by omega, by omega⟩] at c89
          obtain rfl : 4 = i := by omega
          refine mu_iconst (v := mI 0) B dX12_work_136 rfl ?_
          refine mu_is_6 B dX12_work_137 (by decide) rfl ?_
          exact LCc _ _ _ 0 s (Nat.zero_le _) ⟨hF, hwk, hask⟩
        · try rw [mI_le ⟨by omega, by omega⟩ ⟨by omega, by omega⟩] at c89
          refine mu_al_0 B dX12_work_92 ?_
          refine mu_getR B dX12_work_93 fX12_121 rfl (by assumption) (by assumption) ?_
          refine mu_il_4 B dX12_work_96 ?_
          refine mu_il_2 B dX12_work_98 ?_
          refine mu_irem B dX12_work_99 ?_ ?_
          · exact mu_ne (by omega) (by omega)
          rw [mI_rem (Int.natCast_nonneg _) (by omega) (by omega) (by omega)]
          rw [show ((k / (rs_S (rs k0)) ^ i : Nat) : Int) % ((rs_S (rs k0)) : Int) = ((bd (rs_S (rs k0)) k i) : Int) from rfl]
          have hd1 : (bd (rs_S (rs k0)) k i) < (rs_S (rs k0)) := Nat.mod_lt _ (by omega)
          have e0 := hask _ hd1
          rw [Nat.zero_add] at e0
          refine mu_dup2_11 B dX12_work_100 rfl rfl ?_
          refine mu_lald B dX12_work_101 (by assumption) (mI_inN (by omega) (by decide)) ?_
          rw [mI_clampN (by omega), e0]
          refine mu_lconst (v := mL 1) B dX12_work_102 rfl ?_
          refine mu_ladd B dX12_work_103 ?_
          try rw [mL_add]
          refine mu_last B dX12_work_104 (by assumption) (mI_inN (by omega) (by decide)) ?_
          rw [mI_clampN (by omega)]
          have hL1 : LR (mu_sl s (m + 36) (bd (rs_S (rs k0)) k i) (mL (pe (rs_S (rs k0)) k (rs_be (rs k0) k) i (bd (rs_S (rs k0)) k i) + 1))) (m + 36) 0 (rs_S (rs k0)) (fun v => pe (rs_S (rs k0)) k (rs_be (rs k0) k) i v + (if (bd (rs_S (rs k0)) k i) = v then 1 else 0)) := fun v hv => by
            rw [Nat.zero_add]
            dsimp only
            by_cases e9 : (bd (rs_S (rs k0)) k i) = v
            · rw [if_pos e9, ← e9, mu_lg_same]
            · rw [if_neg e9, mu_lg_oth _ _ (by omega)]; have := hask v hv; rw [Nat.zero_add] at this; rw [this, Int.add_zero]
          have hF1 := hF.sl (a := m + 36) (k := (bd (rs_S (rs k0)) k i)) (x := mL (pe (rs_S (rs k0)) k (rs_be (rs k0) k) i (bd (rs_S (rs k0)) k i) + 1)) (Or.inr ⟨by omega, by omega⟩)
          have hwk1 : WK (mu_sl s (m + 36) (bd (rs_S (rs k0)) k i) (mL (pe (rs_S (rs k0)) k (rs_be (rs k0) k) i (bd (rs_S (rs k0)) k i) + 1))) m (rs_S (rs k0)) rr pv Rw := ⟨hwk.1, fun j hj => ⟨(hwk.2.1 j hj).1, fun v hv => (mu_lg_oth _ _ (by omega)).trans ((hwk.2.1 j hj).2 v hv)⟩, hwk.2.2⟩
          generalize mu_sl s (m + 36) (bd (rs_S (rs k0)) k i) (mL (pe (rs_S (rs k0)) k (rs_be (rs k0) k) i (bd (rs_S (rs k0)) k i) + 1)) = s1 at hL1 hF1 hwk1 ⊢
          have hm2 := hm.fi hF1
          have hk2 := hm2.1
          obtain ⟨r59b, k59b⟩ := mo_59 hm2
          refine mu_al_0 B dX12_work_105 ?_
          refine mu_getR B dX12_work_106 fX12_121 rfl hk2 r59b ?_
          refine mu_il_5 B dX12_work_109 ?_
          refine mu_il_2 B dX12_work_111 ?_
          refine mu_irem B dX12_work_112 ?_ ?_
          · exact mu_ne (by omega) (by omega)
          rw [mI_rem (Int.natCast_nonneg _) (by omega) (by omega) (by omega)]
          rw [show (((rs_be (rs k0) k) / (rs_S (rs k0)) ^ i : Nat) : Int) % ((rs_S (rs k0)) : Int) = ((bd (rs_S (rs k0)) (rs_be (rs k0) k) i) : Int) from rfl]
          have hd2 : (bd (rs_S (rs k0)) (rs_be (rs k0) k) i) < (rs_S (rs k0)) := Nat.mod_lt _ (by omega)
          have e1 := hL1 _ hd2
          rw [Nat.zero_add] at e1
          refine mu_dup2_11 B dX12_work_113 rfl rfl ?_
          refine mu_lald B dX12_work_114 k59b (mI_inN (by omega) (by decide)) ?_
          rw [mI_clampN (by omega), e1]
          refine mu_lconst (v := mL 1) B dX12_work_115 rfl ?_
          refine mu_lsub B dX12_work_116 ?_
          try rw [mL_sub]
          refine mu_last B dX12_work_117 k59b (mI_inN (by omega) (by decide)) ?_
          rw [mI_clampN (by omega)]
          refine mu_il_4 B dX12_work_118 ?_
          refine mu_il_2 B dX12_work_120 ?_
          refine mu_idiv B dX12_work_121 ?_ ?_
          · exact mu_ne (by omega) (by omega)
          rw [mI_div (Int.natCast_nonneg _) (by omega) (by omega) (by omega)]
          rw [show ((k / (rs_S (rs k0)) ^ i : Nat) : Int) / ((rs_S (rs k0)) : Int) = ((k / (rs_S (rs k0)) ^ (i + 1) : Nat) : Int) by rw [Nat.pow_succ, ← Nat.div_div_eq_div_mul]; rfl]
          refine mu_is_4 B dX12_work_122 (by decide) rfl ?_
          refine mu_il_5 B dX12_work_124 ?_
          refine mu_il_2 B dX12_work_126 ?_
          refine mu_idiv B dX12_work_127 ?_ ?_
          · exact mu_ne (by omega) (by omega)
          rw [mI_div (Int.natCast_nonneg _) (by omega) (by omega) (by omega)]
          rw [show (((rs_be (rs k0) k) / (rs_S (rs k0)) ^ i : Nat) : Int) / ((rs_S (rs k0)) : Int) = (((rs_be (rs k0) k) / (rs_S (rs k0)) ^ (i + 1) : Nat) : Int) by rw [Nat.pow_succ, ← Nat.div_div_eq_div_mul]; rfl]
          refine mu_is_5 B dX12_work_128 (by decide) rfl ?_
          refine mu_inc_6 (c := mI 1) B dX12_work_130 rfl (by decide) rfl ?_
          try rw [mI_add]
          refine mu_goto (tgt := 86) B dX12_work_133 (by decide) ?_
          refine mu_to (ihi _ (by omega) ⟨hF1.sl (Or.inr ⟨by omega, by omega⟩), ⟨hwk1.1, fun j hj => ⟨(hwk1.2.1 j hj).1, fun v hv => (mu_lg_oth _ _ (by omega)).trans ((hwk1.2.1 j hj).2 v hv)⟩, hwk1.2.2⟩, fun v hv => ?_⟩) rfl (by rw [show ((i + 1 : Nat) : Int) = (i : Int) + 1 by omega])
          rw [Nat.zero_add]
          show _ = mL (pe (rs_S (rs k0)) k (rs_be (rs k0) k) i v + (if (bd (rs_S (rs k0)) k i) = v then 1 else 0) - (if (bd (rs_S (rs k0)) (rs_be (rs k0) k) i) = v then 1 else 0))
          by_cases e9 : (bd (rs_S (rs k0)) (rs_be (rs k0) k) i) = v
          · rw [if_pos e9, ← e9, mu_lg_same]
          · rw [if_neg e9, mu_lg_oth _ _ (by omega)]; have := hL1 v hv; rw [Nat.zero_add] at this; rw [this, Int.sub_zero]
      have LAa : ∀ i (s : mu_W), i ≤ (rs_S (rs k0)) → (mu_Fi (wk_S m) w s ∧ WK s m (rs_S (rs k0)) rr pv Rw ∧ ∀ v, v < i → mu_lg s (m + 36) v = mL 0) → mu_WA X G 8 (mu_Q X G M_X12_work (wk_post w m (rs k0))) s 0 0 46 [.ref m, .int (mI k0), .int (mI (rs_S (rs k0))), .int (mI k), .int (mI i), mu_no, mu_no, mu_no] [] := by
        refine mu_ind ((rs_S (rs k0))) (fun i (s : mu_W) => mu_WA X G 8 (mu_Q X G M_X12_work (wk_post w m (rs k0))) s 0 0 46 [.ref m, .int (mI k0), .int (mI (rs_S (rs k0))), .int (mI k), .int (mI i), mu_no, mu_no, mu_no] []) (fun i (s : mu_W) => mu_Fi (wk_S m) w s ∧ WK s m (rs_S (rs k0)) rr pv Rw ∧ ∀ v, v < i → mu_lg s (m + 36) v = mL 0) ?_
        rintro i s hi ⟨hF, hwk, hz0⟩ ihi
        have hm1 := hm.fi hF
        have hk1 := hm1.1
        obtain ⟨r55, k55⟩ := mo_55 hm1
        obtain ⟨r57, k57⟩ := mo_57 hm1
        obtain ⟨r58, k58⟩ := mo_58 hm1
        obtain ⟨r59, k59⟩ := mo_59 hm1
        obtain ⟨r10, k10⟩ := mo_10 hm1
        have hru1 := wk_ru hru hF
        have u6a := (hru1.2.2 k0 hk).2.2.2.2.2 h0
        refine mu_il_4 B dX12_work_46 ?_
        refine mu_il_2 B dX12_work_48 ?_
        refine mu_icmp_ge (tgt := 66) B dX12_work_49 (by decide) (fun c49 => ?_) (fun c49 => ?_)
        · try rw [mI_le ⟨by omega, by omega⟩ ⟨by omega, by omega⟩] at c49
          obtain rfl : (rs_S (rs k0)) = i := by omega
          refine mu_il_3 B dX12_work_66 ?_
          refine mu_is_4 B dX12_work_67 (by decide) rfl ?_
          refine mu_al_0 B dX12_work_69 ?_
          refine mu_getR B dX12_work_70 fX12_32 rfl (by assumption) (by assumption) ?_
          refine mu_sipush (v := mI 256) B dX12_work_73 (by decide) ?_
          refine mu_il_1 B dX12_work_76 ?_
          refine mu_imul B dX12_work_77 ?_
          try rw [mI_mul]
          refine mu_il_3 B dX12_work_78 ?_
          refine mu_iadd B dX12_work_79 ?_
          try rw [mI_add]
          try rw [mI_add]
          rw [show (256 : Int) * (k0 : Int) + (k : Int) = ((256 * k0 + k : Nat) : Int) by omega]
          refine mu_iald B dX12_work_80 (by assumption) (mI_inN (by omega) (by decide)) ?_
          rw [mI_clampN (by omega), u6a.2 k (by show k < rs_N (rs k0); omega)]
          refine mu_is_5 B dX12_work_81 (by decide) rfl ?_
          refine mu_iconst (v := mI 0) B dX12_work_83 rfl ?_
          refine mu_is_6 B dX12_work_84 (by decide) rfl ?_
          refine mu_fg (LBb mu_no 0 s (by decide) ⟨hF, hwk, fun v hv => by rw [Nat.zero_add]; exact hz0 v hv⟩) rfl (by rw [Nat.pow_zero, Nat.div_one, Nat.div_one]; exact ⟨Or.inl rfl, Or.inl rfl, Or.inl rfl, Or.inl rfl, Or.inl rfl, Or.inl rfl, Or.inl rfl, Or.inr rfl, trivial⟩)
        · try rw [mI_le ⟨by omega, by omega⟩ ⟨by omega, by omega⟩] at c49
          refine mu_al_0 B dX12_work_52 ?_
          refine mu_getR B dX12_work_53 fX12_121 rfl (by assumption) (by assumption) ?_
          refine mu_il_4 B dX12_work_56 ?_
          refine mu_lconst (v := mL 0) B dX12_work_58 rfl ?_
          refine mu_last B dX12_work_59 (by assumption) (mI_inN (by omega) (by decide)) ?_
          rw [mI_clampN (by omega)]
          refine mu_inc_4 (c := mI 1) B dX12_work_60 rfl (by decide) rfl ?_
          try rw [mI_add]
          refine mu_goto (tgt := 46) B dX12_work_63 (by decide) ?_
          refine mu_fg (ihi _ (by omega) ⟨hF.sl (Or.inr ⟨by omega, by omega⟩), ⟨hwk.1, fun j hj => ⟨(hwk.2.1 j hj).1, fun v hv => (mu_lg_oth _ _ (by omega)).trans ((hwk.2.1 j hj).2 v hv)⟩, hwk.2.2⟩, fun v hv => ?_⟩) rfl (by rw [show ((i + 1 : Nat) : Int) = (i : Int) + 1 by omega]; exact ⟨Or.inl rfl, Or.inl rfl, Or.inl rfl, Or.inl rfl, Or.inl rfl, Or.inr rfl, Or.inr rfl, Or.inr rfl, trivial⟩)
          by_cases e9 : v = i
          · rw [e9, mu_lg_same]
          · rw [mu_lg_oth _ _ (by omega)]; exact hz0 v (by omega)
      refine mu_iconst (v := mI 0) B dX12_work_43 rfl ?_
      refine mu_is_4 B dX12_work_44 (by decide) rfl ?_
      exact mu_fg (LAa 0 s (Nat.zero_le _) ⟨hF, hwk, fun v hv => absurd hv (Nat.not_lt_zero v)⟩) rfl (⟨Or.inl rfl, Or.inl rfl, Or.inl rfl, Or.inl rfl, Or.inl rfl, Or.inr rfl, Or.inr rfl, Or.inr rfl, trivial⟩)
  have L00 : ∀ c (s : mu_W), c ≤ (rs_S (rs k0)) → (mu_Fi (wk_S m) w s ∧ mu_iv s m 56 = mI 0 ∧ ∀ v, v < c → mu_iv s (m + 35) v = mI 1) → mu_WA X G 8 (mu_Q X G M_X12_work (wk_post w m (rs k0))) s 0 0 14 [.ref m, .int (mI k0), .int (mI (rs_S (rs k0))), .int (mI c), mu_no, mu_no, mu_no, mu_no] [] := by
    refine mu_ind ((rs_S (rs k0))) (fun c (s : mu_W) => mu_WA X G 8 (mu_Q X G M_X12_work (wk_post w m (rs k0))) s 0 0 14 [.ref m, .int (mI k0), .int (mI (rs_S (rs k0))), .int (mI c), mu_no, mu_no, mu_no, mu_no] []) (fun c (s : mu_W) => mu_Fi (wk_S m) w s ∧ mu_iv s m 56 = mI 0 ∧ ∀ v, v < c → mu_iv s (m + 35) v = mI 1) ?_
    rintro c s hc ⟨hF, h56, hz0⟩ ihc
    have hm1 := hm.fi hF
    have hk1 := hm1.1
    obtain ⟨r55, k55⟩ := mo_55 hm1
    obtain ⟨r57, k57⟩ := mo_57 hm1
    obtain ⟨r58, k58⟩ := mo_58 hm1
    obtain ⟨r59, k59⟩ := mo_59 hm1
    obtain ⟨r10, k10⟩ := mo_10 hm1
    refine mu_il_3 B dX12_work_14 ?_
    refine mu_il_2 B dX12_work_15 ?_
    refine mu_icmp_ge (tgt := 32) B dX12_work_16 (by decide) (fun c16 => ?_) (fun c16 => ?_)
    · try rw [mI_le ⟨by omega, by omega⟩ ⟨by omega, by omega⟩] at c16
      obtain rfl : (rs_S (rs k0)) = c := by omega
      refine mu_iconst (v := mI 0) B dX12_work_32 rfl ?_
      refine mu_is_3 B dX12_work_33 (by decide) rfl ?_
      exact mu_fg (LKk 0 (s, 0, fun _ => 0, fun _ _ => 0) (Nat.zero_le _) ⟨hF, RSY.start _ hS.1 _ _, h56, fun i hi => absurd hi (Nat.not_lt_zero i), fun v hv => ⟨fun ⟨i, hi, _⟩ => absurd hi (Nat.not_lt_zero i), fun _ => hz0 v hv⟩⟩) rfl (⟨Or.inl rfl, Or.inl rfl, Or.inl rfl, Or.inl rfl, Or.inr rfl, Or.inr rfl, Or.inr rfl, Or.inr rfl, trivial⟩)
    · try rw [mI_le ⟨by omega, by omega⟩ ⟨by omega, by omega⟩] at c16
      refine mu_al_0 B dX12_work_19 ?_
      refine mu_getR B dX12_work_20 fX12_118 rfl (by assumption) (by assumption) ?_
      refine mu_il_3 B dX12_work_23 ?_
      refine mu_iconst (v := mI 1) B dX12_work_24 rfl ?_
      refine mu_zast B dX12_work_25 (by assumption) (mI_inN (by omega) (by decide)) (Or.inr rfl) ?_
      rw [mI_clampN (by omega)]
      refine mu_inc_3 (c := mI 1) B dX12_work_26 rfl (by decide) rfl ?_
      try rw [mI_add]
      refine mu_goto (tgt := 14) B dX12_work_29 (by decide) ?_
      refine mu_fg (ihc _ (by omega) ⟨hF.si (Or.inr ⟨by omega, by omega⟩), (mu_iv_oth _ _ (by omega)).trans h56, fun v hv => ?_⟩) rfl (by rw [show ((c + 1 : Nat) : Int) = (c : Int) + 1 by omega]; exact ⟨Or.inl rfl, Or.inl rfl, Or.inl rfl, Or.inl rfl, Or.inr rfl, Or.inr rfl, Or.inr rfl, Or.inr rfl, trivial⟩)
      by_cases e9 : v = c
      · rw [e9, mu_iv_same]
      · rw [mu_iv_oth _ _ (by omega)]; exact hz0 v (by omega)
  show mu_WA X G 8 _ _ 0 0 0 _ []
  refine mu_al_0 B dX12_work_0 ?_
  refine mu_getR B dX12_work_1 fX12_20 rfl (by assumption) (by assumption) ?_
  refine mu_il_1 B dX12_work_4 ?_
  refine mu_iald B dX12_work_5 (by assumption) (mI_inN (by omega) (by decide)) ?_
  rw [mI_clampN (by omega), u6.1]
  refine mu_is_2 B dX12_work_6 (by decide) rfl ?_
  refine mu_al_0 B dX12_work_7 ?_
  refine mu_iconst (v := mI 0) B dX12_work_8 rfl ?_
  refine mu_putI B dX12_work_9 fX12_348 fwX12_56 rfl (by assumption) ?_
  refine mu_iconst (v := mI 0) B dX12_work_12 rfl ?_
  refine mu_is_3 B dX12_work_13 (by decide) rfl ?_
  exact mu_fg (L00 0 _ (Nat.zero_le _) ⟨(mu_Fi.refl _).si (Or.inl ⟨rfl, rfl⟩), mu_iv_same _ _ _ _, fun v hv => absurd hv (Nat.not_lt_zero v)⟩) rfl (⟨Or.inl rfl, Or.inl rfl, Or.inl rfl, Or.inl rfl, Or.inr rfl, Or.inr rfl, Or.inr rfl, Or.inr rfl, trivial⟩)
