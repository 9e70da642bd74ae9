/-! ===== the class: read ===== -/
theorem skf_in {n : Nat} {tp : Nat → Nat} : ∀ f p, p ≤ n → skf (tb n tp) f p ≤ n
  | 0, p, h => h
  | f + 1, p, h => by
    rw [skf]
    by_cases q : tb n tp p = 10 ∨ tb n tp p = 32
    · rw [if_pos q]
      have : p < n := tb_in (tp := tp) (by omega)
      exact skf_in f (p + 1) this
    · rw [if_neg q]; exact h
theorem tkn_in {n : Nat} {tp : Nat → Nat} {p : Nat} (h : isL (tkn (tb n tp) p).2.2.1) : (tkn (tb n tp) p).2.1 ≤ n := by
  unfold tkn at h ⊢
  by_cases q1 : tk_nd (tb n tp) p = 0
  · rw [if_pos q1] at h ⊢
    by_cases q2 : (tb n tp p = 98 ∨ tb n tp p = 111 ∨ tb n tp p = 36) ∨ tb n tp p = 33
    · rw [if_pos q2]
      exact tb_in (tp := tp) (i := p) (by omega)
    · rw [if_neg q2] at h; exact absurd h isL0
  · rw [if_neg q1] at h ⊢
    by_cases q2 : tb n tp p = 48
    · rw [if_pos q2] at h; exact absurd h isL0
    · rw [if_neg q2] at h ⊢
      by_cases q3 : tk_nd (tb n tp) p = 4
      · rw [if_pos q3] at h; exact absurd h isL0
      · rw [if_neg q3] at h ⊢
        by_cases q4 : tk_v (tb n tp) p (tk_nd (tb n tp) p) < 2
        · rw [if_pos q4] at h; exact absurd h isL0
        · rw [if_neg q4] at h ⊢
          by_cases q5 : tb n tp (p + tk_nd (tb n tp) p) = 98 ∨ tb n tp (p + tk_nd (tb n tp) p) = 111 ∨ tb n tp (p + tk_nd (tb n tp) p) = 36
          · rw [if_pos q5]
            exact tb_in (tp := tp) (i := p + tk_nd (tb n tp) p) (by omega)
          · rw [if_neg q5] at h; exact absurd h isL0
theorem tk_nd_le (b : Nat → Int) (p : Nat) : tk_nd b p ≤ 4 := by
  unfold tk_nd
  (repeat' split) <;> omega
theorem tkn_ft {b : Nat → Int} {p : Nat} (h : (tkn b p).2.2.1 = 0) : 0 ≤ (tkn b p).1 ∧ (tkn b p).1 ≤ p + 3 := by
  have h4 := tk_nd_le b p
  unfold tkn at h ⊢
  by_cases q1 : tk_nd b p = 0
  · rw [if_pos q1] at h ⊢
    by_cases q2 : (b p = 98 ∨ b p = 111 ∨ b p = 36) ∨ b p = 33
    · rw [if_pos q2] at h
      have h' : b p = 0 := h
      omega
    · rw [if_neg q2]; show 0 ≤ (p : Int) ∧ (p : Int) ≤ p + 3; omega
  · rw [if_neg q1] at h ⊢
    by_cases q2 : b p = 48
    · rw [if_pos q2]; show 0 ≤ (p : Int) ∧ (p : Int) ≤ p + 3; omega
    · rw [if_neg q2] at h ⊢
      by_cases q3 : tk_nd b p = 4
      · rw [if_pos q3]; show 0 ≤ ((p + 3 : Nat) : Int) ∧ ((p + 3 : Nat) : Int) ≤ p + 3; omega
      · rw [if_neg q3] at h ⊢
        by_cases q4 : tk_v b p (tk_nd b p) < 2
        · rw [if_pos q4]; show 0 ≤ ((p + tk_nd b p - 1 : Nat) : Int) ∧ ((p + tk_nd b p - 1 : Nat) : Int) ≤ p + 3; omega
        · rw [if_neg q4] at h ⊢
          by_cases q5 : b (p + tk_nd b p) = 98 ∨ b (p + tk_nd b p) = 111 ∨ b (p + tk_nd b p) = 36
          · rw [if_pos q5] at h
            have h' : b (p + tk_nd b p) = 0 := h
            omega
          · rw [if_neg q5]; show 0 ≤ ((p + tk_nd b p : Nat) : Int) ∧ ((p + tk_nd b p : Nat) : Int) ≤ p + 3; omega
theorem ps_in {n : Nat} {tp : Nat → Nat} : ∀ k, (∀ j, j < k → isL (tq (tb n tp) j).2.2.1) → ps (tb n tp) k ≤ n
  | 0, _ => Nat.zero_le _
  | k + 1, h => by
    rw [ps]
    exact tkn_in (h k (Nat.lt_succ_self k))
theorem rt_bd {n : Nat} {tp : Nat → Nat} {K : Nat} (hn : n ≤ 2000) (h : RT (tb n tp) K) : -1 ≤ rt_f (tb n tp) n K ∧ rt_f (tb n tp) n K ≤ 2003 := by
  unfold rt_f
  by_cases q : (tq (tb n tp) K).2.2.1 = 33
  · rw [if_pos q]
    by_cases q2 : sk (tb n tp) (ps (tb n tp) (K + 1)) < n
    · rw [if_pos q2]; omega
    · rw [if_neg q2]; omega
  · rw [if_neg q]
    have h0 : (tq (tb n tp) K).2.2.1 = 0 := by
      rcases tq_let (tb n tp) K with z | z | z
      · exact z
      · exact absurd z q
      · exact absurd z h.2
    have h1 := tkn_ft h0
    have h2 : sk (tb n tp) (ps (tb n tp) K) ≤ n := skf_in _ _ (ps_in K h.1)
    have e : (tq (tb n tp) K).1 = (tkn (tb n tp) (sk (tb n tp) (ps (tb n tp) K))).1 := rfl
    rw [e]
    omega
def rdr_post (w : mu_W) (o a n : Nat) (tp : Nat → Nat) (c : Nat → Nat → Nat) (x y : Int) (r : Option Value) (w' : mu_W) : Prop := ∃ K, RT (tb n tp) K ∧ (∀ k, k < K → (tq (tb n tp) k).2.2.2 < 1000) ∧ K ≤ 2000 ∧
  (0 ≤ rt_f (tb n tp) n K → r = some (.int (mI (-10 - rt_f (tb n tp) n K))) ∧ mu_Fi (rt_S (o + 4)) w w') ∧
  (rt_f (tb n tp) n K < 0 → ¬ tl_F (tb n tp) x y K → r = some (.int (mI (-2))) ∧ mu_Fi (rt_S (o + 4)) w w') ∧
  (rt_f (tb n tp) n K < 0 → tl_F (tb n tp) x y K → r = some (.int (mI (tl_n (tb n tp) K))) ∧ mu_Fi (pnS (o + 4) a) w w' ∧ FLD w' a (tl_c (tb n tp) x y c K))

set_option maxHeartbeats 4000000 in
set_option maxRecDepth 100000 in
theorem c_X11_readRuns_n (G : mu_G) {w : mu_W} {o : Nat} (hm : CMo w o) {ra : Nat → Nat} {nf : Nat} {fs : Nat → mu_FS} {hf : Nat} {fa : Nat → Nat} (hF : CFs w o ra nf fs hf fa) {z : Int} (hz : mi_ok z) (hn : ¬ (0 ≤ z ∧ z < nf)) {x y : Int32} : mu_Ct G M_X11_readRuns [.ref o, .int (mI z), .int x, .int y] w (fun r w' => r = some (.int (mI (-1))) ∧ w' = w) := by
  obtain ⟨ko, hox, ⟨r0, r1, r2, r3, r4, r6, r8, r10, r11, r12, r13, r14⟩, ⟨k1, k3, k4, kB, k12, k13, k14⟩, kS, kF, kQ, k26, kH⟩ := id hm
  obtain ⟨hn1, hn8, hnf, hfs, hfn, hfi, hf1⟩ := id hF
  refine mu_ofWA G M_X11_readRuns [.ref o, .int (mI z), .int x, .int y, mu_no, mu_no, mu_no, mu_no] (by decide) rfl (Nat.le_of_ble_eq_true rfl) ?_
  intro X E
  have B : mu_B X G cX11_readRuns RX11 8 (mu_rm M_X11_readRuns) := E.1
  show mu_WA X G 8 _ _ 0 0 0 _ []
  refine mu_al_0 B dX11_readRuns_0 ?_
  refine mu_il_1 B dX11_readRuns_1 ?_
  refine mu_eV1 B dX11_readRuns_2 mX11_139 ⟨⟨by decide, by decide⟩, by decide, by decide⟩ (Nat.le_of_ble_eq_true rfl) (by exact ko) (c_X11_fieldAt_n G hm hF hz hn) ?_
  refine mu_ns_4 B dX11_readRuns_5 (by decide) rfl ?_
  refine mu_nl_4 B dX11_readRuns_7 ?_
  refine mu_ifnullN (tgt := 20) B dX11_readRuns_9 (by decide) ?_
  refine mu_iconst (v := mI (-1)) B dX11_readRuns_20 rfl ?_
  refine mu_iret E rfl (by decide) (by decide) dX11_readRuns_21 ?_
  exact ⟨rfl, rfl⟩

set_option maxHeartbeats 4000000 in
set_option maxRecDepth 100000 in
theorem c_X11_readRuns_b (G : mu_G) {w : mu_W} {o : Nat} (hm : CMo w o) {ra : Nat → Nat} {nf : Nat} {fs : Nat → mu_FS} {hf : Nat} {fa : Nat → Nat} (hF : CFs w o ra nf fs hf fa) {i : Nat} (hi : i < nf) {x y : Int} (hx9 : mi_ok x) (hy9 : mi_ok y) (hbad : ¬ (-128 ≤ x ∧ x < 128 ∧ -128 ≤ y ∧ y < 128)) : mu_Ct G M_X11_readRuns [.ref o, .int (mI (i : Nat)), .int (mI x), .int (mI y)] w (fun r w' => r = some (.int (mI (-1))) ∧ w' = w) := by
  obtain ⟨ko, hox, ⟨r0, r1, r2, r3, r4, r6, r8, r10, r11, r12, r13, r14⟩, ⟨k1, k3, k4, kB, k12, k13, k14⟩, kS, kF, kQ, k26, kH⟩ := id hm
  obtain ⟨hn1, hn8, hnf, hfs, hfn, hfi, hf1⟩ := id hF
  obtain ⟨hx1, hx2⟩ := hx9
  obtain ⟨hy1, hy2⟩ := hy9
  refine mu_ofWA G M_X11_readRuns [.ref o, .int (mI (i : Nat)), .int (mI x), .int (mI y), mu_no, mu_no, mu_no, mu_no] (by decide) rfl (Nat.le_of_ble_eq_true rfl) ?_
  intro X E
  have B : mu_B X G cX11_readRuns RX11 8 (mu_rm M_X11_readRuns) := E.1
  show mu_WA X G 8 _ _ 0 0 0 _ []
  refine mu_al_0 B dX11_readRuns_0 ?_
  refine mu_il_1 B dX11_readRuns_1 ?_
  refine mu_eV1 B dX11_readRuns_2 mX11_139 ⟨⟨by decide, by decide⟩, by decide, by decide⟩ (Nat.le_of_ble_eq_true rfl) (by exact ko) (c_X11_fieldAt_y G hm hF hi) ?_
  refine mu_as_4 B dX11_readRuns_5 (by decide) rfl ?_
  refine mu_al_4 B dX11_readRuns_7 ?_
  refine mu_ifnull B dX11_readRuns_9 ?_
  refine mu_il_2 B dX11_readRuns_12 ?_
  refine mu_il_3 B dX11_readRuns_13 ?_
  refine mu_eS2 B dX11_readRuns_14 mX11_143 ⟨⟨by decide, by decide⟩, by decide, by decide⟩ (Nat.le_of_ble_eq_true rfl) (c_X11_isPlace G ⟨hx1, hx2⟩ ⟨hy1, hy2⟩) ?_
  refine mu_if_ne (tgt := 22) B dX11_readRuns_17 (by decide) (fun c17 => ?_) (fun c17 => ?_)
  · have z17 := mu_bt c17
    exact absurd z17 hbad
  · have z17 := mu_bf c17
    refine mu_iconst (v := mI (-1)) B dX11_readRuns_20 rfl ?_
    refine mu_iret E rfl (by decide) (by decide) dX11_readRuns_21 ?_
    exact ⟨rfl, rfl⟩

set_option maxHeartbeats 4000000 in
set_option maxRecDepth 100000 in
theorem c_X11_readRuns_y (G : mu_G) {w : mu_W} {o : Nat} (hm : CMo w o) {ra : Nat → Nat} {nf : Nat} {fs : Nat → mu_FS} {hf : Nat} {fa : Nat → Nat} (hF : CFs w o ra nf fs hf fa) {i : Nat} (hi : i < nf) {n : Nat} {tp : Nat → Nat} (ht : CT w (o + 1) n tp) {x y : Int} (hpl : -128 ≤ x ∧ x < 128 ∧ -128 ≤ y ∧ y < 128) : mu_Ct G M_X11_readRuns [.ref o, .int (mI (i : Nat)), .int (mI x), .int (mI y)] w (rdr_post w o (fa i) n tp (fs_c (fs i)) x y) := by
  obtain ⟨ko, hox, ⟨r0, r1, r2, r3, r4, r6, r8, r10, r11, r12, r13, r14⟩, ⟨k1, k3, k4, kB, k12, k13, k14⟩, kS, kF, kQ, k26, kH⟩ := id hm
  obtain ⟨hn1, hn8, hnf, hfs, hfn, hfi, hf1⟩ := id hF
  obtain ⟨hb, ⟨L, R, U, D, M, hx, hcm⟩, hrr, hfr, hfg⟩ := id (hf1 i hi)
  have hfo := (hfs i (by omega)).2.2.2
  have hbd := hx.bd hb.1
  obtain ⟨bd1, bd2, bd3, bd4, bd5, bd6, bd7, bd8, bd9⟩ := id hbd
  have hn2 := ht.2.2.2.1.1
  have hao9 := (hfs i (by omega)).2.1
  refine mu_ofWA G M_X11_readRuns [.ref o, .int (mI (i : Nat)), .int (mI x), .int (mI y), mu_no, mu_no, mu_no, mu_no] (by decide) rfl (Nat.le_of_ble_eq_true rfl) ?_
  intro X E
  have B : mu_B X G cX11_readRuns RX11 8 (mu_rm M_X11_readRuns) := E.1
  show mu_WA X G 8 _ _ 0 0 0 _ []
  refine mu_al_0 B dX11_readRuns_0 ?_
  refine mu_il_1 B dX11_readRuns_1 ?_
  refine mu_eV1 B dX11_readRuns_2 mX11_139 ⟨⟨by decide, by decide⟩, by decide, by decide⟩ (Nat.le_of_ble_eq_true rfl) (by exact ko) (c_X11_fieldAt_y G hm hF hi) ?_
  refine mu_as_4 B dX11_readRuns_5 (by decide) rfl ?_
  refine mu_al_4 B dX11_readRuns_7 ?_
  refine mu_ifnull B dX11_readRuns_9 ?_
  refine mu_il_2 B dX11_readRuns_12 ?_
  refine mu_il_3 B dX11_readRuns_13 ?_
  refine mu_eS2 B dX11_readRuns_14 mX11_143 ⟨⟨by decide, by decide⟩, by decide, by decide⟩ (Nat.le_of_ble_eq_true rfl) (c_X11_isPlace G (x := x) (y := y) ⟨by omega, by omega⟩ ⟨by omega, by omega⟩) ?_
  refine mu_if_ne (tgt := 22) B dX11_readRuns_17 (by decide) (fun c17 => ?_) (fun c17 => ?_)
  · have z17 := mu_bt c17
    refine mu_al_0 B dX11_readRuns_22 ?_
    refine mu_getR B dX11_readRuns_23 fX11_26 rfl (by exact ko) (by exact r2) ?_
    refine mu_al_0 B dX11_readRuns_26 ?_
    refine mu_getR B dX11_readRuns_27 fX11_10 rfl (by exact ko) (by exact r0) ?_
    refine mu_cV1 B dX11_readRuns_30 mX11_158 ⟨⟨by decide, by decide⟩, by decide, by decide⟩ (Nat.le_of_ble_eq_true rfl) (by exact k4) (c_X6_faultOf G ht k4) (fun r30 w30 q30 => ?_)
    obtain ⟨hF1, K, hK2, hRT, hcn, rfl⟩ := q30
    obtain ⟨b1, b2⟩ := rt_bd hn2 hRT
    have ht1 := ht.fi hF1 (fun hh => by have := hh.1; omega) (fun j hh => by have := hh.1; omega)
    show mu_WA X G 8 _ _ _ _ 33 _ [.int (mI (rt_f (tb n tp) n K))]
    refine mu_is_5 B dX11_readRuns_33 (by decide) rfl ?_
    refine mu_il_5 B dX11_readRuns_35 ?_
    refine mu_if_lt (tgt := 46) B dX11_readRuns_37 (by decide) (fun c37 => ?_) (fun c37 => ?_)
    · try rw [mI_lt0 ⟨by omega, by omega⟩] at c37
      refine mu_il_2 B dX11_readRuns_46 ?_
      refine mu_bipush (v := mI (-128)) B dX11_readRuns_47 (by decide) ?_
      refine mu_isub B dX11_readRuns_49 ?_
      try rw [mI_sub]
      rw [show x - -128 = x + 128 by omega]
      refine mu_is_6 B dX11_readRuns_50 (by decide) rfl ?_
      refine mu_il_3 B dX11_readRuns_52 ?_
      refine mu_bipush (v := mI (-128)) B dX11_readRuns_53 (by decide) ?_
      refine mu_isub B dX11_readRuns_55 ?_
      try rw [mI_sub]
      rw [show y - -128 = y + 128 by omega]
      refine mu_is_7 B dX11_readRuns_56 (by decide) rfl ?_
      refine mu_al_0 B dX11_readRuns_58 ?_
      refine mu_getR B dX11_readRuns_59 fX11_26 rfl (hF1.kd ko) (hF1.rv r2) ?_
      refine mu_al_0 B dX11_readRuns_62 ?_
      refine mu_getR B dX11_readRuns_63 fX11_10 rfl (hF1.kd ko) (hF1.rv r0) ?_
      refine mu_il_6 B dX11_readRuns_66 ?_
      refine mu_il_7 B dX11_readRuns_68 ?_
      refine mu_cV3 B dX11_readRuns_70 mX11_159 ⟨⟨by decide, by decide⟩, by decide, by decide⟩ (Nat.le_of_ble_eq_true rfl) (hF1.kd k4) (c_X6_fits G ht1 (hF1.kd k4) (x := x) (y := y) ⟨by omega, by omega⟩ ⟨by omega, by omega⟩ hRT hcn) (fun r70 w70 q70 => ?_)
      obtain ⟨hF2, hfy, hfn⟩ := q70
      have hG2 := hF1.trans hF2
      have ht2 := ht.fi hG2 (fun hh => by have := hh.1; omega) (fun j hh => by have := hh.1; omega)
      obtain ⟨v, rfl, hv⟩ : ∃ v, r70 = some (.int v) ∧ ((v = mI 1 ∧ tl_F (tb n tp) x y K) ∨ (v = mI 0 ∧ ¬ tl_F (tb n tp) x y K)) := by
        by_cases h : tl_F (tb n tp) x y K
        · exact ⟨_, hfy h, Or.inl ⟨rfl, h⟩⟩
        · exact ⟨_, hfn h, Or.inr ⟨rfl, h⟩⟩
      show mu_WA X G 8 _ _ _ _ 73 _ [.int v]
      refine mu_if_ne (tgt := 79) B dX11_readRuns_73 (by decide) (fun c73 => ?_) (fun c73 => ?_)
      · have hyt : tl_F (tb n tp) x y K := by
          rcases hv with h | h
          · exact h.2
          · rw [h.1] at c73; exact absurd rfl c73
        refine mu_al_0 B dX11_readRuns_79 ?_
        refine mu_getR B dX11_readRuns_80 fX11_26 rfl (hG2.kd ko) (hG2.rv r2) ?_
        refine mu_al_0 B dX11_readRuns_83 ?_
        refine mu_getR B dX11_readRuns_84 fX11_10 rfl (hG2.kd ko) (hG2.rv r0) ?_
        refine mu_al_4 B dX11_readRuns_87 ?_
        refine mu_il_6 B dX11_readRuns_89 ?_
        refine mu_il_7 B dX11_readRuns_91 ?_
        refine mu_cV4 B dX11_readRuns_93 mX11_163 ⟨⟨by decide, by decide⟩, by decide, by decide⟩ (Nat.le_of_ble_eq_true rfl) (hG2.kd k4) (c_X6_paint G ht2 (hfo.fi hG2) (hb.fi hG2 (fun j hh => by have := hh.1; omega)) (hG2.kd k4) (x := x) (y := y) ⟨by omega, by omega⟩ ⟨by omega, by omega⟩ hRT hcn hyt) (fun r93 w93 q93 => ?_)
        obtain ⟨rfl, hF3, hb3, hmx3⟩ := q93
        show mu_WA X G 8 _ _ _ _ 96 _ [.int (mI (tl_n (tb n tp) K))]
        refine mu_iret E rfl (by decide) (by decide) dX11_readRuns_96 ?_
        have hG3 : mu_Fi (pnS (o + 4) (fa i)) w w93 := (hG2.mono (fun q j hh => Or.inl hh)).trans hF3
        exact ⟨K, hRT, hcn, hK2, fun h => by omega, fun _ h => absurd hyt h, fun _ _ => ⟨rfl, hG3, hfo.fi hG3, hb3, hmx3⟩⟩
      · have hnt : ¬ tl_F (tb n tp) x y K := by
          rcases hv with h | h
          · rw [h.1] at c73; first | exact absurd c73 (by decide) | exact absurd (show ¬ mI 1 = 0 by decide) c73
          · exact h.2
        refine mu_bipush (v := mI (-2)) B dX11_readRuns_76 (by decide) ?_
        refine mu_iret E rfl (by decide) (by decide) dX11_readRuns_78 ?_
        exact ⟨K, hRT, hcn, hK2, fun h => by omega, fun _ _ => ⟨rfl, hG2⟩, fun _ h => absurd h hnt⟩
    · try rw [mI_lt0 ⟨by omega, by omega⟩] at c37
      refine mu_bipush (v := mI (-10)) B dX11_readRuns_40 (by decide) ?_
      refine mu_il_5 B dX11_readRuns_42 ?_
      refine mu_isub B dX11_readRuns_44 ?_
      try rw [mI_sub]
      refine mu_iret E rfl (by decide) (by decide) dX11_readRuns_45 ?_
      exact ⟨K, hRT, hcn, hK2, fun _ => ⟨rfl, hF1⟩, fun h => by omega, fun h => by omega⟩
  · have z17 := mu_bf c17
    exact absurd hpl z17

theorem rdr_int {w : mu_W} {o a n : Nat} {tp : Nat → Nat} {c : Nat → Nat → Nat} {x y : Int} {r : Option Value} {w' : mu_W} (h : rdr_post w o a n tp c x y r w') (hao : o + 35 ≤ a) : (∃ v, r = some (.int v)) ∧ mu_Fi (pnS (o + 4) a) w w' := by
  obtain ⟨K, h1, h2, h3, h4, h5, h6⟩ := h
  by_cases q : 0 ≤ rt_f (tb n tp) n K
  · exact ⟨⟨_, (h4 q).1⟩, (h4 q).2.mono (fun q j hh => Or.inl hh)⟩
  · by_cases q2 : tl_F (tb n tp) x y K
    · exact ⟨⟨_, (h6 (by omega) q2).1⟩, (h6 (by omega) q2).2.1⟩
    · exact ⟨⟨_, (h5 (by omega) q2).1⟩, (h5 (by omega) q2).2.mono (fun q j hh => Or.inl hh)⟩
/-- the tape forgets -/
theorem CT.keep0 {w : mu_W} {t n : Nat} {tp : Nat → Nat} (ht : CT w t n tp) : CT (if (0 : Int) ≤ 0 ∧ (0 : Int) < n then mu_si w t 1 (mI 0) else w) t 0 tp ∧ mu_Fi (ap_S t) w (if (0 : Int) ≤ 0 ∧ (0 : Int) < n then mu_si w t 1 (mI 0) else w) := by
  obtain ⟨t1, t2, t3, t4, t5, t6⟩ := id ht
  by_cases e : (0 : Int) ≤ 0 ∧ (0 : Int) < n
  · rw [if_pos e]
    exact ⟨⟨t1, t2, t3, ⟨Nat.zero_le _, fun j hj => absurd hj (Nat.not_lt_zero j)⟩, mu_iv_same _ _ _ _, fun j hj => absurd hj (Nat.not_lt_zero j)⟩, (mu_Fi.refl _).si (Or.inl ⟨rfl, rfl⟩)⟩
  · rw [if_neg e]
    have hn : n = 0 := by omega
    subst hn
    exact ⟨ht, mu_Fi.refl _⟩

set_option maxHeartbeats 4000000 in
set_option maxRecDepth 100000 in
theorem c_X11_read_y (G : mu_G) {w : mu_W} {o : Nat} (hm : CMo w o) {ra : Nat → Nat} {nf : Nat} {fs : Nat → mu_FS} {hf : Nat} {fa : Nat → Nat} (hF : CFs w o ra nf fs hf fa) {i : Nat} (hi : i < nf) {n : Nat} {tp : Nat → Nat} (ht : CT w (o + 1) n tp) {x y : Int} (hpl : -128 ≤ x ∧ x < 128 ∧ -128 ≤ y ∧ y < 128) : mu_Ct G M_X11_read [.ref o, .int (mI (i : Nat)), .int (mI x), .int (mI y)] w (fun r w' => ∃ w1, rdr_post w o (fa i) n tp (fs_c (fs i)) x y r w1 ∧ CT w' (o + 1) 0 tp ∧ mu_Fi (ap_S (o + 1)) w1 w') := by
  obtain ⟨ko, hox, ⟨r0, r1, r2, r3, r4, r6, r8, r10, r11, r12, r13, r14⟩, ⟨k1, k3, k4, kB, k12, k13, k14⟩, kS, kF, kQ, k26, kH⟩ := id hm
  obtain ⟨hn1, hn8, hnf, hfs, hfn, hfi, hf1⟩ := id hF
  refine mu_ofWA G M_X11_read [.ref o, .int (mI (i : Nat)), .int (mI x), .int (mI y), mu_no] (by decide) rfl (Nat.le_of_ble_eq_true rfl) ?_
  intro X E
  have B : mu_B X G cX11_read RX11 5 (mu_rm M_X11_read) := E.1
  show mu_WA X G 5 _ _ 0 0 0 _ []
  refine mu_al_0 B dX11_read_0 ?_
  refine mu_il_1 B dX11_read_1 ?_
  refine mu_il_2 B dX11_read_2 ?_
  refine mu_il_3 B dX11_read_3 ?_
  refine mu_cV3 B dX11_read_4 mX11_155 ⟨⟨by decide, by decide⟩, by decide, by decide⟩ (Nat.le_of_ble_eq_true rfl) (by exact ko) (c_X11_readRuns_y G hm hF hi ht hpl) (fun r4 w4 q4 => ?_)
  obtain ⟨⟨v9, rfl⟩, hF1⟩ := rdr_int q4 (hfs i (by omega)).2.1
  have hao9 := (hfs i (by omega)).2.1
  have ht1 := ht.fi hF1 (fun hh => by rcases hh with hh | hh | hh | hh <;> omega) (fun j hh => by rcases hh with hh | hh | hh | hh <;> omega)
  show mu_WA X G 5 _ _ _ _ 7 _ [.int v9]
  refine mu_is_4 B dX11_read_7 (by decide) rfl ?_
  refine mu_al_0 B dX11_read_9 ?_
  refine mu_getR B dX11_read_10 fX11_10 rfl (hF1.kd ko) (hF1.rv r0) ?_
  refine mu_iconst (v := mI 0) B dX11_read_13 rfl ?_
  refine mu_cV1 B dX11_read_14 mX11_96 ⟨⟨by decide, by decide⟩, by decide, by decide⟩ (Nat.le_of_ble_eq_true rfl) (hF1.kd k1) (c_X10_keep G ht1 (z := 0) ⟨by decide, by decide⟩) (fun r14 w14 q14 => ?_)
  obtain ⟨rfl, rfl⟩ := q14
  refine mu_il_4 B dX11_read_17 ?_
  refine mu_iret E rfl (by decide) (by decide) dX11_read_19 ?_
  exact ⟨w4, q4, ht1.keep0.1, ht1.keep0.2⟩

set_option maxHeartbeats 4000000 in
set_option maxRecDepth 100000 in
theorem c_X11_read_n (G : mu_G) {w : mu_W} {o : Nat} (hm : CMo w o) {ra : Nat → Nat} {nf : Nat} {fs : Nat → mu_FS} {hf : Nat} {fa : Nat → Nat} (hF : CFs w o ra nf fs hf fa) {z : Int} (hz : mi_ok z) (hn : ¬ (0 ≤ z ∧ z < nf)) {x y : Int32} {n : Nat} {tp : Nat → Nat} (ht : CT w (o + 1) n tp) : mu_Ct G M_X11_read [.ref o, .int (mI z), .int x, .int y] w (fun r w' => r = some (.int (mI (-1))) ∧ CT w' (o + 1) 0 tp ∧ mu_Fi (ap_S (o + 1)) w w') := by
  obtain ⟨ko, hox, ⟨r0, r1, r2, r3, r4, r6, r8, r10, r11, r12, r13, r14⟩, ⟨k1, k3, k4, kB, k12, k13, k14⟩, kS, kF, kQ, k26, kH⟩ := id hm
  obtain ⟨hn1, hn8, hnf, hfs, hfn, hfi, hf1⟩ := id hF
  refine mu_ofWA G M_X11_read [.ref o, .int (mI z), .int x, .int y, mu_no] (by decide) rfl (Nat.le_of_ble_eq_true rfl) ?_
  intro X E
  have B : mu_B X G cX11_read RX11 5 (mu_rm M_X11_read) := E.1
  show mu_WA X G 5 _ _ 0 0 0 _ []
  refine mu_al_0 B dX11_read_0 ?_
  refine mu_il_1 B dX11_read_1 ?_
  refine mu_il_2 B dX11_read_2 ?_
  refine mu_il_3 B dX11_read_3 ?_
  refine mu_eV3 B dX11_read_4 mX11_155 ⟨⟨by decide, by decide⟩, by decide, by decide⟩ (Nat.le_of_ble_eq_true rfl) (by exact ko) (c_X11_readRuns_n G hm hF hz hn) ?_
  refine mu_is_4 B dX11_read_7 (by decide) rfl ?_
  refine mu_al_0 B dX11_read_9 ?_
  refine mu_getR B dX11_read_10 fX11_10 rfl (by exact ko) (by exact r0) ?_
  refine mu_iconst (v := mI 0) B dX11_read_13 rfl ?_
  refine mu_cV1 B dX11_read_14 mX11_96 ⟨⟨by decide, by decide⟩, by decide, by decide⟩ (Nat.le_of_ble_eq_true rfl) (by exact k1) (c_X10_keep G ht (z := 0) ⟨by decide, by decide⟩) (fun r14 w14 q14 => ?_)
  obtain ⟨rfl, rfl⟩ := q14
  refine mu_il_4 B dX11_read_17 ?_
  refine mu_iret E rfl (by decide) (by decide) dX11_read_19 ?_
  exact ⟨rfl, ht.keep0.1, ht.keep0.2⟩

set_option maxHeartbeats 4000000 in
set_option maxRecDepth 100000 in
theorem c_X11_read_b (G : mu_G) {w : mu_W} {o : Nat} (hm : CMo w o) {ra : Nat → Nat} {nf : Nat} {fs : Nat → mu_FS} {hf : Nat} {fa : Nat → Nat} (hF : CFs w o ra nf fs hf fa) {i : Nat} (hi : i < nf) {x y : Int} (hx9 : mi_ok x) (hy9 : mi_ok y) (hbad : ¬ (-128 ≤ x ∧ x < 128 ∧ -128 ≤ y ∧ y < 128)) {n : Nat} {tp : Nat → Nat} (ht : CT w (o + 1) n tp) : mu_Ct G M_X11_read [.ref o, .int (mI (i : Nat)), .int (mI x), .int (mI y)] w (fun r w' => r = some (.int (mI (-1))) ∧ CT w' (o + 1) 0 tp ∧ mu_Fi (ap_S (o + 1)) w w') := by
  obtain ⟨ko, hox, ⟨r0, r1, r2, r3, r4, r6, r8, r10, r11, r12, r13, r14⟩, ⟨k1, k3, k4, kB, k12, k13, k14⟩, kS, kF, kQ, k26, kH⟩ := id hm
  obtain ⟨hn1, hn8, hnf, hfs, hfn, hfi, hf1⟩ := id hF
  refine mu_ofWA G M_X11_read [.ref o, .int (mI (i : Nat)), .int (mI x), .int (mI y), mu_no] (by decide) rfl (Nat.le_of_ble_eq_true rfl) ?_
  intro X E
  have B : mu_B X G cX11_read RX11 5 (mu_rm M_X11_read) := E.1
  show mu_WA X G 5 _ _ 0 0 0 _ []
  refine mu_al_0 B dX11_read_0 ?_
  refine mu_il_1 B dX11_read_1 ?_
  refine mu_il_2 B dX11_read_2 ?_
  refine mu_il_3 B dX11_read_3 ?_
  refine mu_eV3 B dX11_read_4 mX11_155 ⟨⟨by decide, by decide⟩, by decide, by decide⟩ (Nat.le_of_ble_eq_true rfl) (by exact ko) (c_X11_readRuns_b G hm hF hi hx9 hy9 hbad) ?_
  refine mu_is_4 B dX11_read_7 (by decide) rfl ?_
  refine mu_al_0 B dX11_read_9 ?_
  refine mu_getR B dX11_read_10 fX11_10 rfl (by exact ko) (by exact r0) ?_
  refine mu_iconst (v := mI 0) B dX11_read_13 rfl ?_
  refine mu_cV1 B dX11_read_14 mX11_96 ⟨⟨by decide, by decide⟩, by decide, by decide⟩ (Nat.le_of_ble_eq_true rfl) (by exact k1) (c_X10_keep G ht (z := 0) ⟨by decide, by decide⟩) (fun r14 w14 q14 => ?_)
  obtain ⟨rfl, rfl⟩ := q14
  refine mu_il_4 B dX11_read_17 ?_
  refine mu_iret E rfl (by decide) (by decide) dX11_read_19 ?_
  exact ⟨rfl, ht.keep0.1, ht.keep0.2⟩
