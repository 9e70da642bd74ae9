/-! ===== the class's balance: a row written ===== -/
def wrp (row : Nat → Nat → Int) (l : Nat) : Nat → Nat
  | 0 => 1
  | i + 1 => wrp row l i * (if row (l + 1 + i) (l + 1 + i) = 0 then 1 else (row (l + 1 + i) (l + 1 + i)).natAbs)
def wrB (l : Nat) : Nat → Nat
  | 0 => 1
  | i + 1 => wrB l i * bR (l + 1 + i) 0
theorem wrB_le : ∀ l, l < 4 → ∀ i, i < 4 → (4 < l + 1 + i ∨ wrB l i ≤ 281474976710656) := by decide
theorem bR_1 : ∀ p, p < 4 → 1 ≤ bR p 0 := by decide
theorem wrp_ok {row : Nat → Nat → Int} (hb : ∀ q c, q < 4 → c < 4 → (row q c).natAbs ≤ bR q 0) {l : Nat} : ∀ i, l + 1 + i ≤ 4 → 1 ≤ wrp row l i ∧ wrp row l i ≤ wrB l i ∧ ∀ p, l < p → p < l + 1 + i → row p p ≠ 0 → ∃ c, wrp row l i = (row p p).natAbs * c ∧ c * bR p 0 ≤ wrB l i
  | 0, _ => ⟨Nat.le_refl _, Nat.le_refl _, fun p h1 h2 => by omega⟩
  | i + 1, h => by
    obtain ⟨h1, h2, h3⟩ := wrp_ok hb (l := l) i (by omega)
    have hf : 1 ≤ (if row (l + 1 + i) (l + 1 + i) = 0 then 1 else (row (l + 1 + i) (l + 1 + i)).natAbs) ∧ (if row (l + 1 + i) (l + 1 + i) = 0 then 1 else (row (l + 1 + i) (l + 1 + i)).natAbs) ≤ bR (l + 1 + i) 0 := by
      by_cases q : row (l + 1 + i) (l + 1 + i) = 0
      · rw [if_pos q]; exact ⟨Nat.le_refl _, bR_1 _ (by omega)⟩
      · rw [if_neg q]; exact ⟨by omega, hb _ _ (by omega) (by omega)⟩
    rw [wrp, wrB]
    refine ⟨Nat.mul_le_mul h1 hf.1, Nat.mul_le_mul h2 hf.2, fun p p1 p2 p3 => ?_⟩
    by_cases e : p = l + 1 + i
    · refine ⟨wrp row l i, ?_, ?_⟩
      · rw [← e, if_neg p3, Nat.mul_comm]
      · rw [e]; exact Nat.mul_le_mul_right _ h2
    · obtain ⟨c, c1, c2⟩ := h3 p p1 (by omega) p3
      refine ⟨c * (if row (l + 1 + i) (l + 1 + i) = 0 then 1 else (row (l + 1 + i) (l + 1 + i)).natAbs), ?_, ?_⟩
      · rw [c1, Nat.mul_assoc]
      · rw [Nat.mul_right_comm]; exact Nat.mul_le_mul c2 hf.2
theorem RDO.bd {r : mu_RS} {row : Nat → Nat → Int} (h : RDO r row 0) : ∀ q c, q < 4 → c < 4 → (row q c).natAbs ≤ bR q 0 := fun q c hq hc => by
  have := h.2.1 q c hq hc
  rw [if_neg (Nat.not_lt_zero _)] at this
  exact this
/-- what multiple of each equation's number makes the whole -/
theorem wrp_div {row : Nat → Nat → Int} (hb : ∀ q c, q < 4 → c < 4 → (row q c).natAbs ≤ bR q 0) {l i : Nat} (hi : l + 1 + i ≤ 4) {p : Nat} (h1 : l < p) (h2 : p < l + 1 + i) (h3 : row p p ≠ 0) : row p p * ((wrp row l i : Int) / row p p) = (wrp row l i : Int) ∧ ((wrp row l i : Int) / row p p).natAbs * bR p 0 ≤ 281474976710656 := by
  obtain ⟨_, _, g⟩ := wrp_ok hb i hi
  obtain ⟨c, c1, c2⟩ := g p h1 h2 h3
  have hd : row p p ∣ (wrp row l i : Int) := by
    rw [← Int.natAbs_dvd, c1, Int.natCast_mul]
    exact Int.dvd_mul_right _ _
  have e := Int.mul_ediv_cancel' hd
  refine ⟨e, ?_⟩
  have e2 := congrArg Int.natAbs e
  rw [Int.natAbs_mul, Int.natAbs_natCast] at e2
  have e3 : ((wrp row l i : Int) / row p p).natAbs = c := Nat.eq_of_mul_eq_mul_left (show 0 < (row p p).natAbs by omega) (e2.trans c1)
  rw [e3]
  have := wrB_le l (by omega) i (by omega)
  omega
def wry (row : Nat → Nat → Int) (l S : Nat) (W : Int) : Nat → Int := fun v => if v = l then W else if l < v ∧ v < S ∧ row v v ≠ 0 then -row v l * (W / row v v) else 0
theorem wry_l {row : Nat → Nat → Int} {l S : Nat} {W : Int} : wry row l S W l = W := if_pos rfl
theorem wry_p {row : Nat → Nat → Int} {l S : Nat} {W : Int} {v : Nat} (h : l < v ∧ v < S ∧ row v v ≠ 0) : wry row l S W v = -row v l * (W / row v v) := by
  unfold wry
  rw [if_neg (by omega), if_pos h]
theorem wry_0 {row : Nat → Nat → Int} {l S : Nat} {W : Int} {v : Nat} (h1 : v ≠ l) (h2 : ¬ (l < v ∧ v < S ∧ row v v ≠ 0)) : wry row l S W v = 0 := by
  unfold wry
  rw [if_neg h1, if_neg h2]
theorem gr_more {y : Nat → Int} {n : Nat} : ∀ d, (∀ v, n ≤ v → y v = 0) → gr y (n + d) = gr y n
  | 0, _ => rfl
  | d + 1, h => by
    rw [← Nat.add_assoc, gr, gr_more d h, h (n + d) (by omega)]
    exact Nat.gcd_zero_right _
theorem lt_4 {y : Nat → Int} {S : Nat} (hS : S ≤ 4) (h : ∀ v, S ≤ v → y v = 0) : lt 4 y = lt S y := by
  have := gr_more (y := y) (n := S) (4 - S) h
  rw [show S + (4 - S) = 4 by omega] at this
  unfold lt
  rw [this]
theorem wry_bd {row : Nat → Nat → Int} (hb : ∀ q c, q < 4 → c < 4 → (row q c).natAbs ≤ bR q 0) {l S : Nat} (hS : S ≤ 4) (hl : l < S) {v : Nat} (hv : v < 4) : (wry row l S (wrp row l (S - l - 1) : Nat) v).natAbs ≤ 281474976710656 := by
  by_cases e1 : v = l
  · rw [e1, wry_l, Int.natAbs_natCast]
    have := (wrp_ok hb (S - l - 1) (by omega) (l := l)).2.1
    have := wrB_le l (by omega) (S - l - 1) (by omega)
    omega
  · by_cases e2 : l < v ∧ v < S ∧ row v v ≠ 0
    · rw [wry_p e2, Int.natAbs_mul, Int.natAbs_neg]
      refine Nat.le_trans ?_ (wrp_div hb (l := l) (i := S - l - 1) (by omega) e2.1 (by omega) e2.2.2).2
      rw [Nat.mul_comm]
      exact Nat.mul_le_mul_left _ (hb v l hv (by omega))
    · rw [wry_0 e1 e2]; exact Nat.zero_le _
theorem RDO.bas {r : mu_RS} (hS : 2 ≤ rs_S r ∧ rs_S r ≤ 4) {row : Nat → Nat → Int} (h : RDO r row 0) {l : Nat} (hl : l < rs_S r) (h0 : row l l = 0) : BAS (rs_S r) (CW r) l (lt 4 (wry row l (rs_S r) (wrp row l (rs_S r - l - 1) : Nat))) := by
  obtain ⟨g1, g2⟩ := h.red hS.2
  have hb := h.bd
  have hz : ∀ v, rs_S r ≤ v → wry row l (rs_S r) (wrp row l (rs_S r - l - 1) : Nat) v = 0 := fun v hv => wry_0 (by omega) (by omega)
  rw [lt_4 hS.2 hz]
  have w1 := (wrp_ok hb (rs_S r - l - 1) (by omega) (l := l)).1
  refine g1.bas g2 hl (fun q => q.2 h0) (W := (wrp row l (rs_S r - l - 1) : Nat)) (by omega) wry_l (fun p hp => ?_) (fun v hv e q => ?_)
  · obtain ⟨p1, p2, p3, p4⟩ := g1 p hp
    by_cases e : p < l
    · rw [wry_0 (by omega) (by omega), p3 l hl e, Int.mul_zero, Int.zero_mul]; rfl
    · have hpl : p ≠ l := fun e9 => hp.2 (by rw [e9]; exact h0)
      rw [wry_p ⟨by omega, p1, p2⟩, Int.mul_left_comm, (wrp_div hb (l := l) (i := rs_S r - l - 1) (by omega) (by omega) (by omega) p2).1, Int.neg_mul]
  · exact wry_0 e (fun z => q ⟨by omega, z.2.2⟩)
def wrm (Y : Nat → Int) (k : Nat) : Nat → Int := fun v => if v < k then Y v else 0
theorem wrm_y {Y : Nat → Int} {k v : Nat} (h : v < k) : wrm Y k v = Y v := if_pos h
theorem wrm_0 {Y : Nat → Int} {k v : Nat} (h : ¬ v < k) : wrm Y k v = 0 := if_neg h
def wrS (a b fr S : Nat) : Nat → Nat → Prop := fun q j => q = a + 6 ∨ q = b ∧ fr ≤ j ∧ j < fr + S

set_option maxHeartbeats 4000000 in
set_option maxRecDepth 100000 in
theorem c_X0_writeRow (G : mu_G) {w : mu_W} {a b fr : Nat} (ho : CBo w a) {ru : mu_RS} (hS : 2 ≤ rs_S ru ∧ rs_S ru ≤ 4) {row : Nat → Nat → Int} (hO : RDO ru row 0) (hq : EQw w a row) {l : Nat} (hl : l < rs_S ru) {L : Nat} (kb : mu_kd w b = some (100, L)) (hfr : fr + rs_S ru ≤ L) (hL : L ≤ 1000) {Y : Nat → Int} (hYd : wry row l (rs_S ru) (wrp row l (rs_S ru - l - 1) : Nat) = Y) : mu_Ct G M_X0_writeRow [.ref a, .int (mI (l : Nat)), .int (mI ((rs_S ru : Nat) : Int)), .ref b, .int (mI (fr : Nat))] w (fun r9 w' => r9 = none ∧ mu_Fi (wrS a b fr (rs_S ru)) w w' ∧ ∀ v, v < rs_S ru → mu_iv w' b (fr + v) = mI (lt 4 Y v)) := by
  obtain ⟨ka, r0, k1, hrw, r1, k6⟩ := id ho
  have hbd := hO.bd
  have hb62 : ∀ q c, q < 4 → c < 4 → (row q c).natAbs ≤ 8388608 := fun q c h1 h2 => Nat.le_trans (hbd q c h1 h2) (bR_all q h1 0 (by decide))
  have hYb : ∀ v, v < 4 → (Y v).natAbs ≤ 281474976710656 := fun v hv => by rw [← hYd]; exact wry_bd hbd hS.2 hl hv
  obtain ⟨W0, hW0⟩ : ∃ W0 : Nat, wrp row l (rs_S ru - l - 1) = W0 := ⟨_, rfl⟩
  rw [hW0] at hYd
  have hb6 : b ≠ a + 6 := fun e => by rw [e, k6] at kb; cases kb
  have hWb : W0 ≤ 281474976710656 := by have := hYb l (by omega); rw [← hYd, wry_l, Int.natAbs_natCast] at this; exact this
  refine mu_ofWA G M_X0_writeRow [.ref a, .int (mI (l : Nat)), .int (mI ((rs_S ru : Nat) : Int)), .ref b, .int (mI (fr : Nat)), mu_no, mu_no, mu_no, mu_no, mu_no] (by decide) rfl (Nat.le_of_ble_eq_true rfl) ?_
  intro X E
  have B : mu_B X G cX0_writeRow RX0 10 (mu_rm M_X0_writeRow) := E.1
  have L3 : ∀ i (s : mu_W), i ≤ rs_S ru → (mu_Fi (wrS a b fr (rs_S ru)) w s ∧ LR s (a + 6) 0 4 (lt 4 Y) ∧ ∀ v, v < i → mu_iv s b (fr + v) = mI (lt 4 Y v)) → mu_WA X G 10 (mu_Q X G M_X0_writeRow (fun r9 w' => r9 = none ∧ mu_Fi (wrS a b fr (rs_S ru)) w w' ∧ ∀ v, v < rs_S ru → mu_iv w' b (fr + v) = mI (lt 4 Y v))) s 0 0 132 [.ref a, .int (mI (l : Nat)), .int (mI ((rs_S ru : Nat) : Int)), .ref b, .int (mI (fr : Nat)), .long (mL (W0 : Nat)), mu_no, .int (mI i), mu_no, mu_no] [] := by
    refine mu_ind (rs_S ru) (fun i (s : mu_W) => mu_WA X G 10 (mu_Q X G M_X0_writeRow (fun r9 w' => r9 = none ∧ mu_Fi (wrS a b fr (rs_S ru)) w w' ∧ ∀ v, v < rs_S ru → mu_iv w' b (fr + v) = mI (lt 4 Y v))) s 0 0 132 [.ref a, .int (mI (l : Nat)), .int (mI ((rs_S ru : Nat) : Int)), .ref b, .int (mI (fr : Nat)), .long (mL (W0 : Nat)), mu_no, .int (mI i), mu_no, mu_no] []) (fun i (s : mu_W) => mu_Fi (wrS a b fr (rs_S ru)) w s ∧ LR s (a + 6) 0 4 (lt 4 Y) ∧ ∀ v, v < i → mu_iv s b (fr + v) = mI (lt 4 Y v)) ?_
    intro i s hi ⟨hFs, hR, hrow⟩ ih
    refine mu_il_7 B dX0_writeRow_132 ?_
    refine mu_il_2 B dX0_writeRow_134 ?_
    refine mu_icmp_ge (tgt := 169) B dX0_writeRow_135 (by decide) (fun c135 => ?_) (fun c135 => ?_)
    · try rw [mI_le ⟨by omega, by omega⟩ ⟨by omega, by omega⟩] at c135
      try rw [mI_le ⟨by omega, by omega⟩ ⟨by omega, by omega⟩] at c135
      obtain rfl : rs_S ru = i := by omega
      refine mu_vret E rfl (by decide) (by decide) dX0_writeRow_169 ?_
      exact ⟨rfl, hFs, hrow⟩
    · try rw [mI_le ⟨by omega, by omega⟩ ⟨by omega, by omega⟩] at c135
      refine mu_il_4 B dX0_writeRow_138 ?_
      refine mu_il_7 B dX0_writeRow_140 ?_
      refine mu_iadd B dX0_writeRow_142 ?_
      try rw [mI_add]
      refine mu_al_3 B dX0_writeRow_143 ?_
      refine mu_len (ka := 0) B dX0_writeRow_144 (hFs.kd kb) (by decide) ?_
      refine mu_icmp_ge (tgt := 169) B dX0_writeRow_145 (by decide) (fun c145 => ?_) (fun c145 => ?_)
      · try rw [mI_le ⟨by omega, by omega⟩ ⟨by omega, by omega⟩] at c145
        exfalso
        try rw [mI_le ⟨by omega, by omega⟩ ⟨by omega, by omega⟩] at c145
        omega
      · try rw [mI_le ⟨by omega, by omega⟩ ⟨by omega, by omega⟩] at c145
        refine mu_al_3 B dX0_writeRow_148 ?_
        refine mu_il_4 B dX0_writeRow_149 ?_
        refine mu_il_7 B dX0_writeRow_151 ?_
        refine mu_iadd B dX0_writeRow_153 ?_
        try rw [mI_add]
        refine mu_al_0 B dX0_writeRow_154 ?_
        refine mu_getR B dX0_writeRow_155 fX0_14 rfl (hFs.kd ka) (hFs.rv r1) ?_
        refine mu_il_7 B dX0_writeRow_158 ?_
        refine mu_lald B dX0_writeRow_160 (hFs.kd k6) (mI_inN (by omega) (by decide)) ?_
        rw [mI_clampN (by omega), hR.at (by omega)]
        refine mu_l2i B dX0_writeRow_161 rfl ?_
        rw [mL_i32]
        refine mu_iast B dX0_writeRow_162 (hFs.kd kb) (by rw [show (fr : Int) + (i : Int) = ((fr + i : Nat) : Int) by omega]; exact mI_inN (by omega) (by omega)) ?_
        rw [show (fr : Int) + (i : Int) = ((fr + i : Nat) : Int) by omega, mI_clampN (by omega)]
        refine mu_inc_7 (c := mI 1) B dX0_writeRow_163 rfl (by decide) rfl ?_
        try rw [mI_add]
        refine mu_goto (tgt := 132) B dX0_writeRow_166 (by decide) ?_
        refine mu_to (ih _ (by omega) ⟨hFs.si (Or.inr ⟨rfl, by omega, by omega⟩), fun q hq => ?_, fun v hv => ?_⟩) rfl (by rw [show ((i + 1 : Nat) : Int) = (i : Int) + 1 by omega])
        · exact hR q hq
        · by_cases e9 : v = i
          · rw [e9, mu_iv_same]
          · rw [mu_iv_oth _ _ (by omega)]; exact hrow v (by omega)
  have L2 : ∀ i (s : mu_W), i ≤ rs_S ru - l - 1 → (mu_Fi (wrS a b fr (rs_S ru)) w s ∧ LR s (a + 6) 0 4 (wrm Y (l + 1 + i)) ∧ EQw s a row) → mu_WA X G 10 (mu_Q X G M_X0_writeRow (fun r9 w' => r9 = none ∧ mu_Fi (wrS a b fr (rs_S ru)) w w' ∧ ∀ v, v < rs_S ru → mu_iv w' b (fr + v) = mI (lt 4 Y v))) s 0 0 68 [.ref a, .int (mI (l : Nat)), .int (mI ((rs_S ru : Nat) : Int)), .ref b, .int (mI (fr : Nat)), .long (mL (W0 : Nat)), mu_no, .int (mI ((l : Int) + 1 + (i : Int))), mu_no, mu_no] [] := by
    refine mu_ind (rs_S ru - l - 1) (fun i (s : mu_W) => mu_WA X G 10 (mu_Q X G M_X0_writeRow (fun r9 w' => r9 = none ∧ mu_Fi (wrS a b fr (rs_S ru)) w w' ∧ ∀ v, v < rs_S ru → mu_iv w' b (fr + v) = mI (lt 4 Y v))) s 0 0 68 [.ref a, .int (mI (l : Nat)), .int (mI ((rs_S ru : Nat) : Int)), .ref b, .int (mI (fr : Nat)), .long (mL (W0 : Nat)), mu_no, .int (mI ((l : Int) + 1 + (i : Int))), mu_no, mu_no] []) (fun i (s : mu_W) => mu_Fi (wrS a b fr (rs_S ru)) w s ∧ LR s (a + 6) 0 4 (wrm Y (l + 1 + i)) ∧ EQw s a row) ?_
    intro i s hi ⟨hFs, hR, hqs⟩ ih
    refine mu_il_7 B dX0_writeRow_68 ?_
    refine mu_il_2 B dX0_writeRow_70 ?_
    refine mu_icmp_ge (tgt := 122) B dX0_writeRow_71 (by decide) (fun c71 => ?_) (fun c71 => ?_)
    · try rw [mI_le ⟨by omega, by omega⟩ ⟨by omega, by omega⟩] at c71
      try rw [mI_le ⟨by omega, by omega⟩ ⟨by omega, by omega⟩] at c71
      have hiN : rs_S ru - l - 1 = i := by omega
      subst hiN
      have hR9 : LR s (a + 6) 0 4 Y := fun v hv => by
        rw [hR v hv]
        by_cases e9 : v < l + 1 + (rs_S ru - l - 1)
        · rw [wrm_y e9]
        · rw [wrm_0 e9, ← hYd, wry_0 (by omega) (by omega)]
      refine mu_al_0 B dX0_writeRow_122 ?_
      refine mu_getR B dX0_writeRow_123 fX0_14 rfl (hFs.kd ka) (hFs.rv r1) ?_
      refine mu_cS1 B dX0_writeRow_126 mX0_53 ⟨⟨by decide, by decide⟩, by decide, by decide⟩ (Nat.le_of_ble_eq_true rfl) (c_X0_shorten G (hFs.kd k6) hR9 (fun c hc => by have := hYb c hc; omega)) (fun r126 w126 q126 => ?_)
      obtain ⟨rfl, hF1, hL1⟩ := q126
      refine mu_iconst (v := mI 0) B dX0_writeRow_129 rfl ?_
      refine mu_is_7 B dX0_writeRow_130 (by decide) rfl ?_
      exact L3 0 w126 (Nat.zero_le _) ⟨hFs.trans (hF1.mono (fun x j hh => Or.inl hh.1)), hL1, fun v hv => absurd hv (Nat.not_lt_zero v)⟩
    · try rw [mI_le ⟨by omega, by omega⟩ ⟨by omega, by omega⟩] at c71
      obtain ⟨q, hq9⟩ : ∃ q : Nat, q = l + 1 + i := ⟨_, rfl⟩
      rw [show (l : Int) + 1 + (i : Int) = ((q : Nat) : Int) by omega]
      have hqq9 := hb62 q q (by omega) (by omega)
      have hql9 := hb62 q l (by omega) (by omega)
      refine mu_al_0 B dX0_writeRow_74 ?_
      refine mu_getR B dX0_writeRow_75 fX0_11 rfl (hFs.kd ka) (hFs.rv r0) ?_
      refine mu_il_7 B dX0_writeRow_78 ?_
      refine mu_aald B dX0_writeRow_80 (hFs.kd k1) (by simp) (mI_inN (by omega) (by decide)) (by rw [mI_clampN (by omega)]; exact hFs.rv (hrw q (by omega)).1) ?_
      refine mu_il_7 B dX0_writeRow_81 ?_
      refine mu_lald B dX0_writeRow_83 (hFs.kd (hrw q (by omega)).2) (mI_inN (by omega) (by decide)) ?_
      rw [mI_clampN (by omega), (hqs q (by omega)).at (by omega)]
      refine mu_ls_8 B dX0_writeRow_84 (by decide) rfl ?_
      refine mu_ll_8 B dX0_writeRow_86 ?_
      refine mu_lconst (v := mL 0) B dX0_writeRow_88 rfl ?_
      refine mu_lcmp B dX0_writeRow_89 ?_
      refine mu_if_eq (tgt := 116) B dX0_writeRow_90 (by decide) (fun c90 => ?_) (fun c90 => ?_)
      · rw [lg_cmp_eq, mL_eq ⟨by omega, by omega⟩ ⟨by omega, by omega⟩] at c90
        refine mu_inc_7 (c := mI 1) B dX0_writeRow_116 rfl (by decide) rfl ?_
        try rw [mI_add]
        refine mu_goto (tgt := 68) B dX0_writeRow_119 (by decide) ?_
        first
          | (refine mu_fg (ih _ (by omega) ⟨hFs.sl (Or.inl rfl), hR.set (fun z hz => ?_), fun z hz c hc => by rw [mu_lg_oth _ _ (by omega)]; exact hqs z hz c hc⟩) rfl (by rw [show (l : Int) + 1 + ((i + 1 : Nat) : Int) = ((q : Nat) : Int) + 1 by omega]; exact ⟨Or.inl rfl, Or.inl rfl, Or.inl rfl, Or.inl rfl, Or.inl rfl, Or.inl rfl, Or.inl rfl, Or.inl rfl, Or.inr rfl, Or.inr rfl, trivial⟩)
             by_cases e9 : z = q
             · rw [if_pos e9, e9, wrm_y (by omega), ← hYd, wry_p ⟨by omega, by omega, c90⟩]
             · rw [if_neg e9]
               by_cases e8 : z < l + 1 + i
               · rw [wrm_y e8, wrm_y (by omega)]
               · rw [wrm_0 e8, wrm_0 (by omega)])
          | (refine mu_fg (ih _ (by omega) ⟨hFs, fun z hz => ?_, hqs⟩) rfl (by rw [show (l : Int) + 1 + ((i + 1 : Nat) : Int) = ((q : Nat) : Int) + 1 by omega]; exact ⟨Or.inl rfl, Or.inl rfl, Or.inl rfl, Or.inl rfl, Or.inl rfl, Or.inl rfl, Or.inl rfl, Or.inl rfl, Or.inr rfl, Or.inr rfl, trivial⟩)
             rw [hR z hz]
             by_cases e9 : z = q
             · rw [wrm_0 (by omega), wrm_y (by omega), ← hYd, e9, wry_0 (by omega) (fun h9 => h9.2.2 c90)]
             · by_cases e8 : z < l + 1 + i
               · rw [wrm_y e8, wrm_y (by omega)]
               · rw [wrm_0 e8, wrm_0 (by omega)])
      · rw [lg_cmp_eq, mL_eq ⟨by omega, by omega⟩ ⟨by omega, by omega⟩] at c90
        obtain ⟨hdv1, hdv2⟩ := wrp_div hbd (l := l) (i := rs_S ru - l - 1) (p := q) (by omega) (by omega) (by omega) c90
        rw [hW0] at hdv1 hdv2
        have hdv : mL (W0 : Nat) / mL (row q q) = mL ((W0 : Int) / row q q) := by
          have := mL_divx (g := row q q) (q := (W0 : Int) / row q q) c90 (by rw [hdv1]; exact ⟨by omega, by omega⟩) ⟨by omega, by omega⟩
          rw [hdv1] at this
          exact this
        refine mu_al_0 B dX0_writeRow_93 ?_
        refine mu_getR B dX0_writeRow_94 fX0_14 rfl (hFs.kd ka) (hFs.rv r1) ?_
        refine mu_il_7 B dX0_writeRow_97 ?_
        refine mu_al_0 B dX0_writeRow_99 ?_
        refine mu_getR B dX0_writeRow_100 fX0_11 rfl (hFs.kd ka) (hFs.rv r0) ?_
        refine mu_il_7 B dX0_writeRow_103 ?_
        refine mu_aald B dX0_writeRow_105 (hFs.kd k1) (by simp) (mI_inN (by omega) (by decide)) (by rw [mI_clampN (by omega)]; exact hFs.rv (hrw q (by omega)).1) ?_
        refine mu_il_1 B dX0_writeRow_106 ?_
        refine mu_lald B dX0_writeRow_107 (hFs.kd (hrw q (by omega)).2) (mI_inN (by omega) (by decide)) ?_
        rw [mI_clampN (by omega), (hqs q (by omega)).at (by omega)]
        refine mu_lneg B dX0_writeRow_108 ?_
        try rw [mL_neg]
        refine mu_ll_5 B dX0_writeRow_109 ?_
        refine mu_ll_8 B dX0_writeRow_111 ?_
        refine mu_ldiv B dX0_writeRow_113 ?_ ?_
        · exact mL_ne (by omega) ⟨by omega, by omega⟩
        rw [hdv]
        refine mu_lmul B dX0_writeRow_114 ?_
        try rw [mL_mul]
        refine mu_last B dX0_writeRow_115 (hFs.kd k6) (mI_inN (by omega) (by decide)) ?_
        rw [mI_clampN (by omega)]
        refine mu_inc_7 (c := mI 1) B dX0_writeRow_116 rfl (by decide) rfl ?_
        try rw [mI_add]
        refine mu_goto (tgt := 68) B dX0_writeRow_119 (by decide) ?_
        first
          | (refine mu_fg (ih _ (by omega) ⟨hFs.sl (Or.inl rfl), hR.set (fun z hz => ?_), fun z hz c hc => by rw [mu_lg_oth _ _ (by omega)]; exact hqs z hz c hc⟩) rfl (by rw [show (l : Int) + 1 + ((i + 1 : Nat) : Int) = ((q : Nat) : Int) + 1 by omega]; exact ⟨Or.inl rfl, Or.inl rfl, Or.inl rfl, Or.inl rfl, Or.inl rfl, Or.inl rfl, Or.inl rfl, Or.inl rfl, Or.inr rfl, Or.inr rfl, trivial⟩)
             by_cases e9 : z = q
             · rw [if_pos e9, e9, wrm_y (by omega), ← hYd, wry_p ⟨by omega, by omega, c90⟩]
             · rw [if_neg e9]
               by_cases e8 : z < l + 1 + i
               · rw [wrm_y e8, wrm_y (by omega)]
               · rw [wrm_0 e8, wrm_0 (by omega)])
          | (refine mu_fg (ih _ (by omega) ⟨hFs, fun z hz => ?_, hqs⟩) rfl (by rw [show (l : Int) + 1 + ((i + 1 : Nat) : Int) = ((q : Nat) : Int) + 1 by omega]; exact ⟨Or.inl rfl, Or.inl rfl, Or.inl rfl, Or.inl rfl, Or.inl rfl, Or.inl rfl, Or.inl rfl, Or.inl rfl, Or.inr rfl, Or.inr rfl, trivial⟩)
             rw [hR z hz]
             by_cases e9 : z = q
             · rw [wrm_0 (by omega), wrm_y (by omega), ← hYd, e9, wry_0 (by omega) (fun h9 => h9.2.2 c90)]
             · by_cases e8 : z < l + 1 + i
               · rw [wrm_y e8, wrm_y (by omega)]
               · rw [wrm_0 e8, wrm_0 (by omega)])
  have L1 : ∀ i (uu : Unit), i ≤ rs_S ru - l - 1 → (True) → mu_WA X G 10 (mu_Q X G M_X0_writeRow (fun r9 w' => r9 = none ∧ mu_Fi (wrS a b fr (rs_S ru)) w w' ∧ ∀ v, v < rs_S ru → mu_iv w' b (fr + v) = mI (lt 4 Y v))) w 0 0 8 [.ref a, .int (mI (l : Nat)), .int (mI ((rs_S ru : Nat) : Int)), .ref b, .int (mI (fr : Nat)), .long (mL (wrp row l i : Nat)), mu_no, .int (mI ((l : Int) + 1 + (i : Int))), mu_no, mu_no] [] := by
    refine mu_ind (rs_S ru - l - 1) (fun i (uu : Unit) => mu_WA X G 10 (mu_Q X G M_X0_writeRow (fun r9 w' => r9 = none ∧ mu_Fi (wrS a b fr (rs_S ru)) w w' ∧ ∀ v, v < rs_S ru → mu_iv w' b (fr + v) = mI (lt 4 Y v))) w 0 0 8 [.ref a, .int (mI (l : Nat)), .int (mI ((rs_S ru : Nat) : Int)), .ref b, .int (mI (fr : Nat)), .long (mL (wrp row l i : Nat)), mu_no, .int (mI ((l : Int) + 1 + (i : Int))), mu_no, mu_no] []) (fun i (uu : Unit) => True) ?_
    intro i uu hi _ ih
    refine mu_il_7 B dX0_writeRow_8 ?_
    refine mu_il_2 B dX0_writeRow_10 ?_
    refine mu_icmp_ge (tgt := 47) B dX0_writeRow_11 (by decide) (fun c11 => ?_) (fun c11 => ?_)
    · try rw [mI_le ⟨by omega, by omega⟩ ⟨by omega, by omega⟩] at c11
      try rw [mI_le ⟨by omega, by omega⟩ ⟨by omega, by omega⟩] at c11
      have hiN : rs_S ru - l - 1 = i := by omega
      subst hiN
      rw [hW0]
      refine mu_al_0 B dX0_writeRow_47 ?_
      refine mu_getR B dX0_writeRow_48 fX0_14 rfl (by exact ka) (by exact r1) ?_
      refine mu_lconst (v := mL 0) B dX0_writeRow_51 rfl ?_
      refine mu_cS2 B dX0_writeRow_52 mX0_18 ⟨⟨by decide, by decide⟩, by decide, by decide⟩ (Nat.le_of_ble_eq_true rfl) (c_J7_fillL G (N := 4) (by exact k6) (by decide)) (fun r52 w52 q52 => ?_)
      obtain ⟨rfl, hF, hz⟩ := q52
      refine mu_al_0 B dX0_writeRow_55 ?_
      refine mu_getR B dX0_writeRow_56 fX0_14 rfl (hF.kd ka) (hF.rv r1) ?_
      refine mu_il_1 B dX0_writeRow_59 ?_
      refine mu_ll_5 B dX0_writeRow_60 ?_
      refine mu_last B dX0_writeRow_62 (hF.kd k6) (mI_inN (by omega) (by decide)) ?_
      rw [mI_clampN (by omega)]
      refine mu_il_1 B dX0_writeRow_63 ?_
      refine mu_iconst (v := mI 1) B dX0_writeRow_64 rfl ?_
      refine mu_iadd B dX0_writeRow_65 ?_
      try rw [mI_add]
      refine mu_is_7 B dX0_writeRow_66 (by decide) rfl ?_
      refine mu_to (L2 0 _ (Nat.zero_le _) ⟨(mu_Fi.sl (hF.mono (fun x j hh => Or.inl hh)) (Or.inl rfl)), fun v hv => ?_, fun z hz c hc => by rw [mu_lg_oth _ _ (by omega)]; exact (hq z hz).fi hF (fun j _ _ hh => by omega) c hc⟩) rfl (by rw [show (l : Int) + 1 + ((0 : Nat) : Int) = (l : Int) + 1 by omega])
      rw [Nat.zero_add]
      by_cases e9 : v = l
      · rw [e9, mu_lg_same, wrm_y (by omega), ← hYd, wry_l]
      · rw [mu_lg_oth _ _ (by omega), hz v hv]
        by_cases e8 : v < l + 1 + 0
        · rw [wrm_y e8, ← hYd, wry_0 e9 (by omega)]
        · rw [wrm_0 e8]
    · try rw [mI_le ⟨by omega, by omega⟩ ⟨by omega, by omega⟩] at c11
      obtain ⟨q, hq9⟩ : ∃ q : Nat, q = l + 1 + i := ⟨_, rfl⟩
      rw [show (l : Int) + 1 + (i : Int) = ((q : Nat) : Int) by omega]
      have hqq9 := hb62 q q (by omega) (by omega)
      refine mu_al_0 B dX0_writeRow_14 ?_
      refine mu_il_7 B dX0_writeRow_15 ?_
      refine mu_eV1 B dX0_writeRow_17 mX0_35 ⟨⟨by decide, by decide⟩, by decide, by decide⟩ (Nat.le_of_ble_eq_true rfl) (by exact ka) (c_X0_isHeld G ho hq (p := q) (by omega) (by omega)) ?_
      refine mu_if_eq (tgt := 41) B dX0_writeRow_20 (by decide) (fun c20 => ?_) (fun c20 => ?_)
      · have hheld : row q q = 0 := Classical.byContradiction (fun q9 => by rw [if_neg q9] at c20; exact absurd c20 (by decide))
        refine mu_inc_7 (c := mI 1) B dX0_writeRow_41 rfl (by decide) rfl ?_
        try rw [mI_add]
        refine mu_goto (tgt := 8) B dX0_writeRow_44 (by decide) ?_
        first
          | exact mu_to (ih () (by omega) trivial) rfl (by rw [show (l : Int) + 1 + ((i + 1 : Nat) : Int) = ((q : Nat) : Int) + 1 by omega, wrp, ← hq9, if_neg hheld, Int.natCast_mul])
          | exact mu_to (ih () (by omega) trivial) rfl (by rw [show (l : Int) + 1 + ((i + 1 : Nat) : Int) = ((q : Nat) : Int) + 1 by omega, wrp, ← hq9, if_pos hheld, Nat.mul_one])
      · have hheld : row q q ≠ 0 := fun q9 => by rw [if_pos q9] at c20; exact c20 rfl
        refine mu_ll_5 B dX0_writeRow_23 ?_
        refine mu_al_0 B dX0_writeRow_25 ?_
        refine mu_getR B dX0_writeRow_26 fX0_11 rfl (by exact ka) (by exact r0) ?_
        refine mu_il_7 B dX0_writeRow_29 ?_
        refine mu_aald B dX0_writeRow_31 (by exact k1) (by simp) (mI_inN (by omega) (by decide)) (by rw [mI_clampN (by omega)]; exact (hrw q (by omega)).1) ?_
        refine mu_il_7 B dX0_writeRow_32 ?_
        refine mu_lald B dX0_writeRow_34 (hrw q (by omega)).2 (mI_inN (by omega) (by decide)) ?_
        rw [mI_clampN (by omega), (hq q (by omega)).at (by omega)]
        refine mu_mabsl B dX0_writeRow_35 mlX0_57 ⟨by decide, by decide⟩ (Nat.le_of_ble_eq_true rfl) ⟨by decide, by decide⟩ ?_
        rw [abs_mL (by omega)]
        refine mu_lmul B dX0_writeRow_38 ?_
        try rw [mL_mul]
        refine mu_ls_5 B dX0_writeRow_39 (by decide) rfl ?_
        refine mu_inc_7 (c := mI 1) B dX0_writeRow_41 rfl (by decide) rfl ?_
        try rw [mI_add]
        refine mu_goto (tgt := 8) B dX0_writeRow_44 (by decide) ?_
        first
          | exact mu_to (ih () (by omega) trivial) rfl (by rw [show (l : Int) + 1 + ((i + 1 : Nat) : Int) = ((q : Nat) : Int) + 1 by omega, wrp, ← hq9, if_neg hheld, Int.natCast_mul])
          | exact mu_to (ih () (by omega) trivial) rfl (by rw [show (l : Int) + 1 + ((i + 1 : Nat) : Int) = ((q : Nat) : Int) + 1 by omega, wrp, ← hq9, if_pos hheld, Nat.mul_one])
  show mu_WA X G 10 _ _ 0 0 0 _ []
  refine mu_lconst (v := mL 1) B dX0_writeRow_0 rfl ?_
  refine mu_ls_5 B dX0_writeRow_1 (by decide) rfl ?_
  refine mu_il_1 B dX0_writeRow_3 ?_
  refine mu_iconst (v := mI 1) B dX0_writeRow_4 rfl ?_
  refine mu_iadd B dX0_writeRow_5 ?_
  try rw [mI_add]
  refine mu_is_7 B dX0_writeRow_6 (by decide) rfl ?_
  exact mu_to (L1 0 () (Nat.zero_le _) trivial) rfl (by rw [show (l : Int) + 1 + ((0 : Nat) : Int) = (l : Int) + 1 by omega]; rfl)
