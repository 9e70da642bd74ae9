/-! ===== the cells that a run text tells ===== -/
/-- the column and row behind k letters -/
def tl_p (b : Nat → Int) (x y : Int) : Nat → Int × Int
  | 0 => (x, y)
  | k + 1 => if (tq b k).2.2.1 = 36 then (x, (tl_p b x y k).2 + ((tq b k).2.2.2 : Int)) else ((tl_p b x y k).1 + ((tq b k).2.2.2 : Int), (tl_p b x y k).2)
def tl_F (b : Nat → Int) (x y : Int) (K : Nat) : Prop := ∀ k, k < K → (tq b k).2.2.1 ≠ 36 → (tl_p b x y k).1 + ((tq b k).2.2.2 : Int) ≤ 128 ∧ (tl_p b x y k).2 ≤ 127
def tl_n (b : Nat → Int) : Nat → Nat
  | 0 => 0
  | k + 1 => tl_n b k + (if (tq b k).2.2.1 = 111 then (tq b k).2.2.2 else 0)
def sp_pn (c : Nat → Nat → Nat) (v X Y t : Nat) : Nat → Nat → Nat := fun i j => if j = Y ∧ X ≤ i ∧ i < X + t then v else c i j
def tl_v (b : Nat → Int) (k : Nat) : Nat := if (tq b k).2.2.1 = 111 then 1 else 0
def tl_c (b : Nat → Int) (x y : Int) (c : Nat → Nat → Nat) : Nat → Nat → Nat → Nat
  | 0 => c
  | k + 1 => if (tq b k).2.2.1 = 36 then tl_c b x y c k else sp_pn (tl_c b x y c k) (tl_v b k) ((tl_p b x y k).1 + 128).toNat ((tl_p b x y k).2 + 128).toNat (tq b k).2.2.2
theorem tl_v_le (b : Nat → Int) (k : Nat) : tl_v b k ≤ 1 := by
  unfold tl_v
  by_cases h : (tq b k).2.2.1 = 111
  · rw [if_pos h]; omega
  · rw [if_neg h]; omega
theorem sp_pn_le {c : Nat → Nat → Nat} {v X Y t : Nat} (hc : ∀ i j, c i j ≤ 1) (hv : v ≤ 1) (i j : Nat) : sp_pn c v X Y t i j ≤ 1 := by
  unfold sp_pn
  by_cases h : j = Y ∧ X ≤ i ∧ i < X + t
  · rw [if_pos h]; exact hv
  · rw [if_neg h]; exact hc i j
theorem tl_c_le {b : Nat → Int} {x y : Int} {c : Nat → Nat → Nat} (hc : ∀ i j, c i j ≤ 1) : ∀ k i j, tl_c b x y c k i j ≤ 1
  | 0, i, j => hc i j
  | k + 1, i, j => by
    rw [tl_c]
    by_cases h : (tq b k).2.2.1 = 36
    · rw [if_pos h]; exact tl_c_le hc k i j
    · rw [if_neg h]; exact sp_pn_le (tl_c_le hc k) (tl_v_le b k) i j
theorem tl_bd {b : Nat → Int} {x y : Int} (hx : -128 ≤ x ∧ x < 128) (hy : -128 ≤ y ∧ y < 128) {K : Nat} (ht : ∀ k, k < K → (tq b k).2.2.2 < 1000) : ∀ k, k ≤ K → tl_F b x y k → tl_n b k ≤ 999 * k ∧ x ≤ (tl_p b x y k).1 ∧ (tl_p b x y k).1 ≤ 128 ∧ y ≤ (tl_p b x y k).2 ∧ (tl_p b x y k).2 ≤ 128 + 999 * k
  | 0, _, _ => ⟨Nat.le_refl _, by rw [tl_p]; omega, by rw [tl_p]; show x ≤ 128; omega, by rw [tl_p]; omega, by rw [tl_p]; show y ≤ _; omega⟩
  | k + 1, hk, hF => by
    obtain ⟨h0, h1, h2, h3, h4⟩ := tl_bd hx hy ht k (by omega) (fun j hj => hF j (by omega))
    have h5 := ht k (by omega)
    have h6 := hF k (by omega)
    rw [tl_n, tl_p]
    refine ⟨?_, ?_⟩
    · by_cases q : (tq b k).2.2.1 = 111
      · rw [if_pos q]; omega
      · rw [if_neg q]; omega
    · by_cases q : (tq b k).2.2.1 = 36
      · rw [if_pos q]
        refine ⟨Int.le_refl _, ?_, ?_, ?_⟩
        · show x ≤ 128; omega
        · show y ≤ (tl_p b x y k).2 + _; omega
        · show (tl_p b x y k).2 + _ ≤ _; omega
      · rw [if_neg q]
        have h7 := h6 q
        refine ⟨?_, ?_, ?_, ?_⟩
        · show x ≤ (tl_p b x y k).1 + _; omega
        · show (tl_p b x y k).1 + _ ≤ 128; omega
        · show y ≤ (tl_p b x y k).2; omega
        · show (tl_p b x y k).2 ≤ _; omega
def td_S (m f : Nat) : Nat → Nat → Prop := fun q j => q = m + 9 ∧ 65536 * f ≤ j ∧ j < 65536 * f + 65536
/-- the cells, written or not -/
def td_c (d : Int) (b : Nat → Int) (x y : Int) (c : Nat → Nat → Nat) (k : Nat) : Nat → Nat → Nat := if d = 1 then tl_c b x y c k else c
theorem td_c_le {d : Int} {b : Nat → Int} {x y : Int} {c : Nat → Nat → Nat} (hc : ∀ i j, c i j ≤ 1) (k i j : Nat) : td_c d b x y c k i j ≤ 1 := by
  unfold td_c
  by_cases h : d = 1
  · rw [if_pos h]; exact tl_c_le hc k i j
  · rw [if_neg h]; exact hc i j
theorem td_dol {d : Int} {b : Nat → Int} {x y : Int} {c : Nat → Nat → Nat} {k : Nat} (h : (tq b k).2.2.1 = 36) : td_c d b x y c (k + 1) = td_c d b x y c k := by unfold td_c; rw [tl_c, if_pos h]
theorem td_run {d : Int} {b : Nat → Int} {x y : Int} {c : Nat → Nat → Nat} {k : Nat} (hd : d = 1) (h : ¬ (tq b k).2.2.1 = 36) : td_c d b x y c (k + 1) = sp_pn (td_c d b x y c k) (tl_v b k) ((tl_p b x y k).1 + 128).toNat ((tl_p b x y k).2 + 128).toNat (tq b k).2.2.2 := by unfold td_c; rw [if_pos hd, if_pos hd, tl_c, if_neg h]
theorem td_no {d : Int} {b : Nat → Int} {x y : Int} {c : Nat → Nat → Nat} {k k' : Nat} (hd : ¬ d = 1) : td_c d b x y c k = td_c d b x y c k' := by unfold td_c; rw [if_neg hd, if_neg hd]
def td_post (w : mu_W) (m f : Nat) (b : Nat → Int) (x y d : Int) (c : Nat → Nat → Nat) (K : Nat) (r : Option Value) (w' : mu_W) : Prop := mu_Fi (td_S m f) w w' ∧
  (tl_F b x y K → r = some (.int (mI (tl_n b K))) ∧ Bd w' (m + 9) 524288 (65536 * f) 256 256 (td_c d b x y c K)) ∧ (¬ tl_F b x y K → r = some (.int (mI (-2))) ∧ ∀ j, mu_iv w' (m + 9) j = mu_iv w (m + 9) j)
theorem Bd.pn {w : mu_W} {a N fr : Nat} {c : Nat → Nat → Nat} {v X Y i : Nat} (h : Bd w a N fr 256 256 (sp_pn c v X Y i)) (hv : v ≤ 1) (hX : X + i < 256) (hY : Y < 256) (hc : ∀ i j, c i j ≤ 1) : Bd (mu_si w a (fr + 256 * Y + (X + i)) (mI v)) a N fr 256 256 (sp_pn c v X Y (i + 1)) := ⟨h.1, h.2.1, h.2.2.1, fun p q hp hq => by
  by_cases e : p = X + i ∧ q = Y
  · rw [e.1, e.2, mu_iv_same]
    unfold sp_pn
    rw [if_pos ⟨rfl, by omega, by omega⟩]
  · rw [mu_iv_oth _ _ (by omega), h.2.2.2.1 p q hp hq]
    unfold sp_pn
    by_cases e8 : q = Y ∧ X ≤ p ∧ p < X + i
    · rw [if_pos e8, if_pos ⟨e8.1, by omega, by omega⟩]
    · rw [if_neg e8, if_neg (by omega)], fun p q => sp_pn_le hc hv p q⟩
theorem sp_pn_0 (c : Nat → Nat → Nat) (v X Y : Nat) : sp_pn c v X Y 0 = c := by
  funext i j
  unfold sp_pn
  rw [if_neg (by omega)]
theorem mu_st {X : mu_X} {G : mu_G} {nL k n pc : Nat} {Qf : State → Prop} {w : mu_W} {lv st st' : List Value} (h : mu_WA X G nL Qf w k n pc lv st) (hl : st' = st) : mu_WA X G nL Qf w k n pc lv st' := by rw [hl]; exact h

set_option maxHeartbeats 4000000 in
set_option maxRecDepth 100000 in
theorem c_X12_told (G : mu_G) {w : mu_W} {m : Nat} (hm : mo_ok w m) {f : Nat} (hf : f < 8) {b : Nat → Int} {K : Nat} (hK : K ≤ 2000) (hrr : RRW w m b K) {x y d : Int} (hx : -128 ≤ x ∧ x < 128) (hy : -128 ≤ y ∧ y < 128) (hd : d = 0 ∨ d = 1) {c : Nat → Nat → Nat} (hB0 : Bd w (m + 9) 524288 (65536 * f) 256 256 c) (hdf : d = 1 → tl_F b x y K) : mu_Ct G M_X12_told [.ref m, .int (mI f), .int (mI x), .int (mI y), .int (mI d)] w (fun r w' => td_post w m f b x y d c K r w') := by
  have hk0 := hm.1
  have hc := hB0.2.2.2.2
  refine mu_ofWA G M_X12_told [.ref m, .int (mI f), .int (mI x), .int (mI y), .int (mI d), mu_no, mu_no, mu_no, mu_no, mu_no, mu_no] (by decide) rfl (Nat.le_of_ble_eq_true rfl) ?_
  intro X E
  have B : mu_B X G cX12_told RX12 11 (mu_rm M_X12_told) := E.1
  have LT : ∀ k (s : mu_W), k ≤ K → (mu_Fi (td_S m f) w s ∧ Bd s (m + 9) 524288 (65536 * f) 256 256 (td_c d b x y c k) ∧ tl_F b x y k) → mu_WA X G 11 (mu_Q X G M_X12_told (td_post w m f b x y d c K)) s 0 0 12 [.ref m, .int (mI f), .int (mI x), .int (mI y), .int (mI d), .int (mI (tl_n b k : Int)), .int (mI (tl_p b x y k).1), .int (mI (tl_p b x y k).2), .int (mI k), mu_no, mu_no] [] := by
    refine mu_ind (K) (fun k (s : mu_W) => mu_WA X G 11 (mu_Q X G M_X12_told (td_post w m f b x y d c K)) s 0 0 12 [.ref m, .int (mI f), .int (mI x), .int (mI y), .int (mI d), .int (mI (tl_n b k : Int)), .int (mI (tl_p b x y k).1), .int (mI (tl_p b x y k).2), .int (mI k), mu_no, mu_no] []) (fun k (s : mu_W) => mu_Fi (td_S m f) w s ∧ Bd s (m + 9) 524288 (65536 * f) 256 256 (td_c d b x y c k) ∧ tl_F b x y k) ?_
    rintro k s hk ⟨hF, hB, hfit⟩ ih
    obtain ⟨n0, n1, n2, n3, n4⟩ := tl_bd hx hy (fun j hj => (hrr.2 j hj).2.1) k hk hfit
    have hsame : ¬ tl_F b x y K → ∀ j, mu_iv s (m + 9) j = mu_iv w (m + 9) j := fun hno j => by
      by_cases hj : 65536 * f ≤ j ∧ j < 65536 * f + 65536
      · have hd0 : ¬ d = 1 := fun hh => hno (hdf hh)
        have e1 := hB.2.2.2.1 ((j - 65536 * f) % 256) ((j - 65536 * f) / 256) (by omega) (by omega)
        have e2 := hB0.2.2.2.1 ((j - 65536 * f) % 256) ((j - 65536 * f) / 256) (by omega) (by omega)
        rw [td_no hd0 (k' := 0), show td_c d b x y c 0 = c from by unfold td_c; rw [if_neg hd0]] at e1
        rw [show 65536 * f + 256 * ((j - 65536 * f) / 256) + (j - 65536 * f) % 256 = j by omega] at e1 e2
        rw [e1, e2]
      · exact (hF.2.2.2 _ _ (by unfold td_S; omega)).1
    have hm1 := hm.fi hF
    have hk1 := hm1.1
    obtain ⟨r25, k25⟩ := mo_25 hm1
    obtain ⟨r26, k26⟩ := mo_26 hm1
    obtain ⟨r14, k14⟩ := mo_14 hm1
    have h24 := hF.iv (by unfold td_S; omega) hrr.1
    refine mu_il_8 B dX12_told_12 ?_
    refine mu_al_0 B dX12_told_14 ?_
    refine mu_getI B dX12_told_15 fX12_223 rfl (by assumption) ?_
    rw [h24]
    refine mu_icmp_ge (tgt := 189) B dX12_told_18 (by decide) (fun c18 => ?_) (fun c18 => ?_)
    · try rw [mI_le ⟨by omega, by omega⟩ ⟨by omega, by omega⟩] at c18
      obtain rfl : K = k := by omega
      refine mu_il_5 B dX12_told_189 ?_
      refine mu_iret E rfl (by decide) (by decide) dX12_told_191 ?_
      exact ⟨hF, fun _ => ⟨rfl, hB⟩, fun hh => absurd hfit hh⟩
    · try rw [mI_le ⟨by omega, by omega⟩ ⟨by omega, by omega⟩] at c18
      obtain ⟨hL, ht9, h14w, h15w⟩ := hrr.2 k (by omega)
      have h14s := hF.iv (by unfold td_S; omega) h14w
      have h15s := hF.iv (by unfold td_S; omega) h15w
      have hvle := tl_v_le b k
      have hLb : 0 ≤ (tq b k).2.2.1 ∧ (tq b k).2.2.1 ≤ 111 := by unfold isL at hL; omega
      refine mu_al_0 B dX12_told_21 ?_
      refine mu_getR B dX12_told_22 fX12_55 rfl (by assumption) (by assumption) ?_
      refine mu_il_8 B dX12_told_25 ?_
      refine mu_iald B dX12_told_27 (by assumption) (mI_inN (by omega) (by decide)) ?_
      rw [mI_clampN (by omega), h15s]
      refine mu_bipush (v := mI 36) B dX12_told_28 (by decide) ?_
      refine mu_icmp_ne (tgt := 51) B dX12_told_30 (by decide) (fun c30 => ?_) (fun c30 => ?_)
      · try rw [mI_eq ⟨by omega, by omega⟩ ⟨by omega, by omega⟩] at c30
        have h36 : ¬ (tq b k).2.2.1 = 36 := by omega
        refine mu_il_6 B dX12_told_51 ?_
        refine mu_al_0 B dX12_told_53 ?_
        refine mu_getR B dX12_told_54 fX12_52 rfl (by assumption) (by assumption) ?_
        refine mu_il_8 B dX12_told_57 ?_
        refine mu_iald B dX12_told_59 (by assumption) (mI_inN (by omega) (by decide)) ?_
        rw [mI_clampN (by omega), h14s]
        refine mu_iadd B dX12_told_60 ?_
        try rw [mI_add]
        refine mu_sipush (v := mI 128) B dX12_told_61 (by decide) ?_
        refine mu_icmp_gt (tgt := 74) B dX12_told_64 (by decide) (fun c64 => ?_) (fun c64 => ?_)
        · try rw [mI_lt ⟨by omega, by omega⟩ ⟨by omega, by omega⟩] at c64
          refine mu_bipush (v := mI (-2)) B dX12_told_74 (by decide) ?_
          refine mu_iret E rfl (by decide) (by decide) dX12_told_76 ?_
          have hno : ¬ tl_F b x y K := fun hh => by have := hh k (by omega) h36; omega
          refine ⟨hF, fun hh => absurd hh hno, fun _ => ⟨rfl, fun j => ?_⟩⟩
          exact hsame hno j
        · try rw [mI_lt ⟨by omega, by omega⟩ ⟨by omega, by omega⟩] at c64
          refine mu_il_7 B dX12_told_67 ?_
          refine mu_bipush (v := mI 127) B dX12_told_69 (by decide) ?_
          refine mu_icmp_le (tgt := 77) B dX12_told_71 (by decide) (fun c71 => ?_) (fun c71 => ?_)
          · try rw [mI_le ⟨by omega, by omega⟩ ⟨by omega, by omega⟩] at c71
            have K150 : ∀ s2 : mu_W, mu_Fi (td_S m f) w s2 → Bd s2 (m + 9) 524288 (65536 * f) 256 256 (td_c d b x y c (k + 1)) → ∀ u10 : Value, mu_WA X G 11 (mu_Q X G M_X12_told (td_post w m f b x y d c K)) s2 0 0 150 [.ref m, .int (mI f), .int (mI x), .int (mI y), .int (mI d), .int (mI (tl_n b k : Int)), .int (mI (tl_p b x y k).1), .int (mI (tl_p b x y k).2), .int (mI k), .int (mI (tl_v b k : Int)), u10] [] := by
              intro s2 hF2 hB2 u10
              have hm1 := hm.fi hF2
              have hk1 := hm1.1
              obtain ⟨r25, k25⟩ := mo_25 hm1
              obtain ⟨r26, k26⟩ := mo_26 hm1
              have h14 := hF2.iv (by unfold td_S; omega) h14w
              refine mu_il_6 B dX12_told_150 ?_
              refine mu_al_0 B dX12_told_152 ?_
              refine mu_getR B dX12_told_153 fX12_52 rfl (by assumption) (by assumption) ?_
              refine mu_il_8 B dX12_told_156 ?_
              refine mu_iald B dX12_told_158 (by assumption) (mI_inN (by omega) (by decide)) ?_
              rw [mI_clampN (by omega), h14]
              refine mu_iadd B dX12_told_159 ?_
              try rw [mI_add]
              refine mu_is_6 B dX12_told_160 (by decide) rfl ?_
              refine mu_il_5 B dX12_told_162 ?_
              refine mu_il_9 B dX12_told_164 ?_
              refine mu_if_eq (tgt := 179) B dX12_told_166 (by decide) (fun c166 => ?_) (fun c166 => ?_)
              · try rw [mI_eq0 ⟨by omega, by omega⟩] at c166
                have hv0i : ¬ (tq b k).2.2.1 = 111 := fun hh => by unfold tl_v at c166; rw [if_pos hh] at c166; omega
                refine mu_iconst (v := mI 0) B dX12_told_179 rfl ?_
                refine mu_iadd B dX12_told_180 ?_
                try rw [mI_add]
                refine mu_is_5 B dX12_told_181 (by decide) rfl ?_
                refine mu_inc_8 (c := mI 1) B dX12_told_183 rfl (by decide) rfl ?_
                try rw [mI_add]
                refine mu_goto (tgt := 12) B dX12_told_186 (by decide) ?_
                have hf9 : tl_F b x y (k + 1) := fun j hj hj2 => by by_cases e9 : j = k; (rw [e9]; exact ⟨by omega, by omega⟩); exact hfit j (by omega) hj2
                refine mu_fg (ih s2 (by omega) ⟨hF2, hB2, hf9⟩) rfl (by rw [show (tl_p b x y (k + 1)).1 = (tl_p b x y k).1 + ((tq b k).2.2.2 : Int) from by rw [tl_p, if_neg h36], show (tl_p b x y (k + 1)).2 = (tl_p b x y k).2 from by rw [tl_p, if_neg h36], tl_n, show ((k + 1 : Nat) : Int) = (k : Int) + 1 by omega]; first | (rw [if_pos hv1i, show ((tl_n b k + (tq b k).2.2.2 : Nat) : Int) = (tl_n b k : Int) + ((tq b k).2.2.2 : Int) by omega]; exact ⟨Or.inl rfl, Or.inl rfl, Or.inl rfl, Or.inl rfl, Or.inl rfl, Or.inl rfl, Or.inl rfl, Or.inl rfl, Or.inl rfl, Or.inr rfl, Or.inr rfl, trivial⟩) | (rw [if_neg hv0i, Nat.add_zero, Int.add_zero]; exact ⟨Or.inl rfl, Or.inl rfl, Or.inl rfl, Or.inl rfl, Or.inl rfl, Or.inl rfl, Or.inl rfl, Or.inl rfl, Or.inl rfl, Or.inr rfl, Or.inr rfl, trivial⟩))
              · try rw [mI_eq0 ⟨by omega, by omega⟩] at c166
                have hv1i : (tq b k).2.2.1 = 111 := by by_cases hh : (tq b k).2.2.1 = 111; (exact hh); (unfold tl_v at c166; rw [if_neg hh] at c166; omega)
                refine mu_al_0 B dX12_told_169 ?_
                refine mu_getR B dX12_told_170 fX12_52 rfl (by assumption) (by assumption) ?_
                refine mu_il_8 B dX12_told_173 ?_
                refine mu_iald B dX12_told_175 (by assumption) (mI_inN (by omega) (by decide)) ?_
                rw [mI_clampN (by omega), h14]
                refine mu_goto (tgt := 180) B dX12_told_176 (by decide) ?_
                refine mu_iadd B dX12_told_180 ?_
                try rw [mI_add]
                refine mu_is_5 B dX12_told_181 (by decide) rfl ?_
                refine mu_inc_8 (c := mI 1) B dX12_told_183 rfl (by decide) rfl ?_
                try rw [mI_add]
                refine mu_goto (tgt := 12) B dX12_told_186 (by decide) ?_
                have hf9 : tl_F b x y (k + 1) := fun j hj hj2 => by by_cases e9 : j = k; (rw [e9]; exact ⟨by omega, by omega⟩); exact hfit j (by omega) hj2
                refine mu_fg (ih s2 (by omega) ⟨hF2, hB2, hf9⟩) rfl (by rw [show (tl_p b x y (k + 1)).1 = (tl_p b x y k).1 + ((tq b k).2.2.2 : Int) from by rw [tl_p, if_neg h36], show (tl_p b x y (k + 1)).2 = (tl_p b x y k).2 from by rw [tl_p, if_neg h36], tl_n, show ((k + 1 : Nat) : Int) = (k : Int) + 1 by omega]; first | (rw [if_pos hv1i, show ((tl_n b k + (tq b k).2.2.2 : Nat) : Int) = (tl_n b k : Int) + ((tq b k).2.2.2 : Int) by omega]; exact ⟨Or.inl rfl, Or.inl rfl, Or.inl rfl, Or.inl rfl, Or.inl rfl, Or.inl rfl, Or.inl rfl, Or.inl rfl, Or.inl rfl, Or.inr rfl, Or.inr rfl, trivial⟩) | (rw [if_neg hv0i, Nat.add_zero, Int.add_zero]; exact ⟨Or.inl rfl, Or.inl rfl, Or.inl rfl, Or.inl rfl, Or.inl rfl, Or.inl rfl, Or.inl rfl, Or.inl rfl, Or.inl rfl, Or.inr rfl, Or.inr rfl, trivial⟩))
            have K94 : ∀ u9 u10 : Value, mu_WA X G 11 (mu_Q X G M_X12_told (td_post w m f b x y d c K)) s 0 0 94 [.ref m, .int (mI f), .int (mI x), .int (mI y), .int (mI d), .int (mI (tl_n b k : Int)), .int (mI (tl_p b x y k).1), .int (mI (tl_p b x y k).2), .int (mI k), u9, u10] [.int (mI (tl_v b k : Int))] := by
              intro u9 u10
              by_cases hd1 : d = 1
              · have LI : ∀ i (s : mu_W), i ≤ (tq b k).2.2.2 → (mu_Fi (td_S m f) w s ∧ Bd s (m + 9) 524288 (65536 * f) 256 256 (sp_pn (td_c d b x y c k) (tl_v b k) ((tl_p b x y k).1 + 128).toNat ((tl_p b x y k).2 + 128).toNat i)) → mu_WA X G 11 (mu_Q X G M_X12_told (td_post w m f b x y d c K)) s 0 0 99 [.ref m, .int (mI f), .int (mI x), .int (mI y), .int (mI d), .int (mI (tl_n b k : Int)), .int (mI (tl_p b x y k).1), .int (mI (tl_p b x y k).2), .int (mI k), .int (mI (tl_v b k : Int)), .int (mI i)] [] := by
                  refine mu_ind ((tq b k).2.2.2) (fun i (s : mu_W) => mu_WA X G 11 (mu_Q X G M_X12_told (td_post w m f b x y d c K)) s 0 0 99 [.ref m, .int (mI f), .int (mI x), .int (mI y), .int (mI d), .int (mI (tl_n b k : Int)), .int (mI (tl_p b x y k).1), .int (mI (tl_p b x y k).2), .int (mI k), .int (mI (tl_v b k : Int)), .int (mI i)] []) (fun i (s : mu_W) => mu_Fi (td_S m f) w s ∧ Bd s (m + 9) 524288 (65536 * f) 256 256 (sp_pn (td_c d b x y c k) (tl_v b k) ((tl_p b x y k).1 + 128).toNat ((tl_p b x y k).2 + 128).toNat i)) ?_
                  rintro i s2 hi ⟨hF2, hBi⟩ ihi
                  have hm1 := hm.fi hF2
                  have hk1 := hm1.1
                  obtain ⟨r25, k25⟩ := mo_25 hm1
                  obtain ⟨r26, k26⟩ := mo_26 hm1
                  obtain ⟨r14, k14⟩ := mo_14 hm1
                  have h14 := hF2.iv (by unfold td_S; omega) h14w
                  refine mu_il_10 B dX12_told_99 ?_
                  refine mu_al_0 B dX12_told_101 ?_
                  refine mu_getR B dX12_told_102 fX12_52 rfl (by assumption) (by assumption) ?_
                  refine mu_il_8 B dX12_told_105 ?_
                  refine mu_iald B dX12_told_107 (by assumption) (mI_inN (by omega) (by decide)) ?_
                  rw [mI_clampN (by omega), h14]
                  refine mu_icmp_ge (tgt := 150) B dX12_told_108 (by decide) (fun c108 => ?_) (fun c108 => ?_)
                  · try rw [mI_le ⟨by omega, by omega⟩ ⟨by omega, by omega⟩] at c108
                    obtain rfl : (tq b k).2.2.2 = i := by omega
                    exact K150 _ hF2 (by rw [td_run hd1 h36]; exact hBi) _
                  · try rw [mI_le ⟨by omega, by omega⟩ ⟨by omega, by omega⟩] at c108
                    refine mu_il_4 B dX12_told_111 ?_
                    refine mu_if_eq (tgt := 150) B dX12_told_113 (by decide) (fun c113 => ?_) (fun c113 => ?_)
                    · try rw [mI_eq0 ⟨by omega, by omega⟩] at c113
                      exfalso
                      omega
                    · try rw [mI_eq0 ⟨by omega, by omega⟩] at c113
                      refine mu_al_0 B dX12_told_116 ?_
                      refine mu_getR B dX12_told_117 fX12_36 rfl (by assumption) (by assumption) ?_
                      refine mu_al_0 B dX12_told_120 ?_
                      refine mu_il_1 B dX12_told_121 ?_
                      refine mu_il_6 B dX12_told_122 ?_
                      refine mu_il_10 B dX12_told_124 ?_
                      refine mu_iadd B dX12_told_126 ?_
                      try rw [mI_add]
                      refine mu_il_7 B dX12_told_127 ?_
                      refine mu_eV3 B dX12_told_129 mX12_185 ⟨⟨by decide, by decide⟩, by decide, by decide⟩ (Nat.le_of_ble_eq_true rfl) (by assumption) (c_X12_place G (m := m) (f := (f : Int)) (x := (tl_p b x y k).1 + (i : Int)) (y := (tl_p b x y k).2)) ?_
                      rw [show 65536 * (f : Int) + 256 * ((tl_p b x y k).2 + 128) + ((tl_p b x y k).1 + (i : Int)) + 128 = ((65536 * f + 256 * ((tl_p b x y k).2 + 128).toNat + (((tl_p b x y k).1 + 128).toNat + i) : Nat) : Int) by omega]
                      have K142 : mu_WA X G 11 (mu_Q X G M_X12_told (td_post w m f b x y d c K)) s2 0 0 142 [.ref m, .int (mI f), .int (mI x), .int (mI y), .int (mI d), .int (mI (tl_n b k : Int)), .int (mI (tl_p b x y k).1), .int (mI (tl_p b x y k).2), .int (mI k), .int (mI (tl_v b k : Int)), .int (mI i)] [.int (mI (tl_v b k : Int)), .int (mI ((65536 * f + 256 * ((tl_p b x y k).2 + 128).toNat + (((tl_p b x y k).1 + 128).toNat + i) : Nat) : Int)), .ref (m + 9)] := by
                        refine mu_i2b B dX12_told_142 rfl ?_
                        rw [m01 (tl_v_le b k)]
                        refine mu_bast B dX12_told_143 (by assumption) (mI_inN (by omega) (by decide)) ?_
                        rw [mI_clampN (by omega), m01 (tl_v_le b k)]
                        refine mu_inc_10 (c := mI 1) B dX12_told_144 rfl (by decide) rfl ?_
                        try rw [mI_add]
                        refine mu_goto (tgt := 99) B dX12_told_147 (by decide) ?_
                        refine mu_to (ihi _ (by omega) ⟨hF2.si ⟨rfl, by omega, by omega⟩, hBi.pn (tl_v_le b k) (by omega) (by omega) (td_c_le hc k)⟩) rfl (by rw [show ((i + 1 : Nat) : Int) = (i : Int) + 1 by omega])
                      refine mu_il_9 B dX12_told_132 ?_
                      refine mu_if_eq (tgt := 141) B dX12_told_134 (by decide) (fun c134 => ?_) (fun c134 => ?_)
                      · try rw [mI_eq0 ⟨by omega, by omega⟩] at c134
                        have hv0 : tl_v b k = 0 := by omega
                        refine mu_iconst (v := mI 0) B dX12_told_141 rfl ?_
                        first
                          | exact mu_st K142 (by rw [hv0]; rfl)
                          | exact mu_st K142 (by rw [hv1]; rfl)
                      · try rw [mI_eq0 ⟨by omega, by omega⟩] at c134
                        have hv1 : tl_v b k = 1 := by have := tl_v_le b k; omega
                        refine mu_iconst (v := mI 1) B dX12_told_137 rfl ?_
                        refine mu_goto (tgt := 142) B dX12_told_138 (by decide) ?_
                        first
                          | exact mu_st K142 (by rw [hv0]; rfl)
                          | exact mu_st K142 (by rw [hv1]; rfl)
                refine mu_is_9 B dX12_told_94 (by decide) rfl ?_
                refine mu_iconst (v := mI 0) B dX12_told_96 rfl ?_
                refine mu_is_10 B dX12_told_97 (by decide) rfl ?_
                exact LI 0 s (Nat.zero_le _) ⟨hF, by rw [sp_pn_0]; exact hB⟩
              · refine mu_is_9 B dX12_told_94 (by decide) rfl ?_
                refine mu_iconst (v := mI 0) B dX12_told_96 rfl ?_
                refine mu_is_10 B dX12_told_97 (by decide) rfl ?_
                refine mu_il_10 B dX12_told_99 ?_
                refine mu_al_0 B dX12_told_101 ?_
                refine mu_getR B dX12_told_102 fX12_52 rfl (by assumption) (by assumption) ?_
                refine mu_il_8 B dX12_told_105 ?_
                refine mu_iald B dX12_told_107 (by assumption) (mI_inN (by omega) (by decide)) ?_
                rw [mI_clampN (by omega), h14s]
                refine mu_icmp_ge (tgt := 150) B dX12_told_108 (by decide) (fun c108 => ?_) (fun c108 => ?_)
                · try rw [mI_le ⟨by omega, by omega⟩ ⟨by omega, by omega⟩] at c108
                  exact K150 s hF (by rw [td_no hd1 (k' := k)]; exact hB) _
                · try rw [mI_le ⟨by omega, by omega⟩ ⟨by omega, by omega⟩] at c108
                  refine mu_il_4 B dX12_told_111 ?_
                  refine mu_if_eq (tgt := 150) B dX12_told_113 (by decide) (fun c113 => ?_) (fun c113 => ?_)
                  · try rw [mI_eq0 ⟨by omega, by omega⟩] at c113
                    exact K150 s hF (by rw [td_no hd1 (k' := k)]; exact hB) _
                  · try rw [mI_eq0 ⟨by omega, by omega⟩] at c113
                    exfalso
                    omega
            refine mu_al_0 B dX12_told_77 ?_
            refine mu_getR B dX12_told_78 fX12_55 rfl (by assumption) (by assumption) ?_
            refine mu_il_8 B dX12_told_81 ?_
            refine mu_iald B dX12_told_83 (by assumption) (mI_inN (by omega) (by decide)) ?_
            rw [mI_clampN (by omega), h15s]
            refine mu_bipush (v := mI 111) B dX12_told_84 (by decide) ?_
            refine mu_icmp_ne (tgt := 93) B dX12_told_86 (by decide) (fun c86 => ?_) (fun c86 => ?_)
            · try rw [mI_eq ⟨by omega, by omega⟩ ⟨by omega, by omega⟩] at c86
              refine mu_iconst (v := mI 0) B dX12_told_93 rfl ?_
              first
                | exact mu_st (K94 _ _) (by unfold tl_v; rw [if_pos (by omega)]; rfl)
                | exact mu_st (K94 _ _) (by unfold tl_v; rw [if_neg (by omega)]; rfl)
            · try rw [mI_eq ⟨by omega, by omega⟩ ⟨by omega, by omega⟩] at c86
              refine mu_iconst (v := mI 1) B dX12_told_89 rfl ?_
              refine mu_goto (tgt := 94) B dX12_told_90 (by decide) ?_
              first
                | exact mu_st (K94 _ _) (by unfold tl_v; rw [if_pos (by omega)]; rfl)
                | exact mu_st (K94 _ _) (by unfold tl_v; rw [if_neg (by omega)]; rfl)
          · try rw [mI_le ⟨by omega, by omega⟩ ⟨by omega, by omega⟩] at c71
            refine mu_bipush (v := mI (-2)) B dX12_told_74 (by decide) ?_
            refine mu_iret E rfl (by decide) (by decide) dX12_told_76 ?_
            have hno : ¬ tl_F b x y K := fun hh => by have := hh k (by omega) h36; omega
            refine ⟨hF, fun hh => absurd hh hno, fun _ => ⟨rfl, fun j => ?_⟩⟩
            exact hsame hno j
      · try rw [mI_eq ⟨by omega, by omega⟩ ⟨by omega, by omega⟩] at c30
        have h36 : (tq b k).2.2.1 = 36 := by omega
        refine mu_il_7 B dX12_told_33 ?_
        refine mu_al_0 B dX12_told_35 ?_
        refine mu_getR B dX12_told_36 fX12_52 rfl (by assumption) (by assumption) ?_
        refine mu_il_8 B dX12_told_39 ?_
        refine mu_iald B dX12_told_41 (by assumption) (mI_inN (by omega) (by decide)) ?_
        rw [mI_clampN (by omega), h14s]
        refine mu_iadd B dX12_told_42 ?_
        try rw [mI_add]
        refine mu_is_7 B dX12_told_43 (by decide) rfl ?_
        refine mu_il_2 B dX12_told_45 ?_
        refine mu_is_6 B dX12_told_46 (by decide) rfl ?_
        refine mu_goto (tgt := 183) B dX12_told_48 (by decide) ?_
        refine mu_inc_8 (c := mI 1) B dX12_told_183 rfl (by decide) rfl ?_
        try rw [mI_add]
        refine mu_goto (tgt := 12) B dX12_told_186 (by decide) ?_
        have hf9 : tl_F b x y (k + 1) := fun j hj hj2 => by by_cases e9 : j = k; (rw [e9] at hj2; exact absurd h36 hj2); exact hfit j (by omega) hj2
        refine mu_fg (ih s (by omega) ⟨hF, by rw [td_dol h36]; exact hB, hf9⟩) rfl (by rw [show (tl_p b x y (k + 1)).1 = x from by rw [tl_p, if_pos h36], show (tl_p b x y (k + 1)).2 = (tl_p b x y k).2 + ((tq b k).2.2.2 : Int) from by rw [tl_p, if_pos h36], tl_n, if_neg (by omega), Nat.add_zero, show ((k + 1 : Nat) : Int) = (k : Int) + 1 by omega]; exact ⟨Or.inl rfl, Or.inl rfl, Or.inl rfl, Or.inl rfl, Or.inl rfl, Or.inl rfl, Or.inl rfl, Or.inl rfl, Or.inl rfl, Or.inr rfl, Or.inr rfl, trivial⟩)
  show mu_WA X G 11 _ _ 0 0 0 _ []
  refine mu_iconst (v := mI 0) B dX12_told_0 rfl ?_
  refine mu_is_5 B dX12_told_1 (by decide) rfl ?_
  refine mu_il_2 B dX12_told_3 ?_
  refine mu_is_6 B dX12_told_4 (by decide) rfl ?_
  refine mu_il_3 B dX12_told_6 ?_
  refine mu_is_7 B dX12_told_7 (by decide) rfl ?_
  refine mu_iconst (v := mI 0) B dX12_told_9 rfl ?_
  refine mu_is_8 B dX12_told_10 (by decide) rfl ?_
  exact mu_fg (LT 0 w (Nat.zero_le _) ⟨mu_Fi.refl _, by rw [show td_c d b x y c 0 = c from by unfold td_c; rw [tl_c]; by_cases h : d = 1; (rw [if_pos h]); rw [if_neg h]]; exact hB0, fun j hj => absurd hj (Nat.not_lt_zero j)⟩) rfl (⟨Or.inl rfl, Or.inl rfl, Or.inl rfl, Or.inl rfl, Or.inl rfl, Or.inl rfl, Or.inl rfl, Or.inl rfl, Or.inl rfl, Or.inr rfl, Or.inr rfl, trivial⟩)

def rd9_S (m f : Nat) : Nat → Nat → Prop := fun q j => (q = m ∧ (j = 2 ∨ j = 24)) ∨ q = m + 14 ∨ q = m + 15 ∨ (q = m + 9 ∧ 65536 * f ≤ j ∧ j < 65536 * f + 65536)
theorem MFi.rr {w w' : mu_W} {m nr : Nat} {rs : Nat → mu_RS} {nf : Nat} {fs : Nat → mu_FS} (h : MFi w m nr rs nf fs) (hF : mu_Fi (rr_S m) w w') : MFi w' m nr rs nf fs := h.eqs (hF.2.2.2 _ _ (by unfold rr_S; omega)).1 (fun f _ => ⟨(hF.2.2.2 _ _ (by unfold rr_S; omega)).1, (hF.2.2.2 _ _ (by unfold rr_S; omega)).1⟩) (fun j _ => (hF.2.2.2 _ _ (by unfold rr_S; omega)).1)
def re_post (w : mu_W) (m n : Nat) (tp : Nat → Nat) (nr : Nat) (rs : Nat → mu_RS) (nf : Nat) (fs : Nat → mu_FS) (z x y : Int) (r : Option Value) (w' : mu_W) : Prop := MT w' m 0 tp ∧
  if (0 ≤ z ∧ z < nf) ∧ (-128 ≤ x ∧ x < 128 ∧ -128 ≤ y ∧ y < 128) then mu_Fi (rd9_S m z.toNat) w w' ∧ ∃ K, RT (tb n tp) K ∧ (∀ k, k < K → (tq (tb n tp) k).2.2.2 < 1000) ∧ K ≤ 2000 ∧
    (0 ≤ rt_f (tb n tp) n K → r = some (.int (mI (-10 - rt_f (tb n tp) n K))) ∧ MFi w' m nr rs nf fs) ∧
    (rt_f (tb n tp) n K < 0 → ¬ tl_F (tb n tp) x y K → r = some (.int (mI (-2))) ∧ MFi w' m nr rs nf fs) ∧
    (rt_f (tb n tp) n K < 0 → tl_F (tb n tp) x y K → r = some (.int (mI (tl_n (tb n tp) K))) ∧ MFi w' m nr rs nf (fi_up fs z.toNat (fs_g (fs z.toNat)) (tl_c (tb n tp) x y (fs_c (fs z.toNat)) K)))
  else r = some (.int (mI (-1))) ∧ w' = mu_si w m 2 (mI 0)
theorem MT.zero {w : mu_W} {m n : Nat} {tp : Nat → Nat} (h : MT w m n tp) : MT (mu_si w m 2 (mI 0)) m 0 tp := ⟨⟨Nat.zero_le _, fun j hj => absurd hj (Nat.not_lt_zero j)⟩, mu_iv_same _ _ _ _, fun j hj => absurd hj (Nat.not_lt_zero j)⟩
theorem MFi.z2 {w : mu_W} {m nr : Nat} {rs : Nat → mu_RS} {nf : Nat} {fs : Nat → mu_FS} (h : MFi w m nr rs nf fs) {x : Int32} : MFi (mu_si w m 2 x) m nr rs nf fs := h.eqs (mu_iv_oth _ _ (by omega)) (fun f _ => ⟨mu_iv_oth _ _ (by omega), mu_iv_oth _ _ (by omega)⟩) (fun j _ => mu_iv_oth _ _ (by omega))
theorem RRW.fi {S : Nat → Nat → Prop} {w w' : mu_W} {m : Nat} {b : Nat → Int} {k : Nat} (h : RRW w m b k) (hF : mu_Fi S w w') (h1 : ¬ S m 24) (h2 : ∀ j, ¬ S (m + 14) j ∧ ¬ S (m + 15) j) : RRW w' m b k := ⟨hF.iv h1 h.1, fun j hj => by
  obtain ⟨a1, a2, a3, a4⟩ := h.2 j hj
  exact ⟨a1, a2, hF.iv (h2 _).1 a3, hF.iv (h2 _).2 a4⟩⟩
theorem rr_9 {m f : Nat} {w w' : mu_W} (h : mu_Fi (rr_S m) w w') : mu_Fi (rd9_S m f) w w' := h.mono (fun q j hh => by unfold rr_S at hh; unfold rd9_S; omega)
theorem td_9 {m f : Nat} {w w' : mu_W} (h : mu_Fi (td_S m f) w w') : mu_Fi (rd9_S m f) w w' := h.mono (fun q j hh => by unfold td_S at hh; unfold rd9_S; omega)
theorem MFi.td {w w' : mu_W} {m nr : Nat} {rs : Nat → mu_RS} {nf : Nat} {fs : Nat → mu_FS} (h : MFi w m nr rs nf fs) {f : Nat} (hF : mu_Fi (td_S m f) w w') (hs : ∀ j, mu_iv w' (m + 9) j = mu_iv w (m + 9) j) : MFi w' m nr rs nf fs := h.eqs (hF.2.2.2 _ _ (by unfold td_S; omega)).1 (fun f _ => ⟨(hF.2.2.2 _ _ (by unfold td_S; omega)).1, (hF.2.2.2 _ _ (by unfold td_S; omega)).1⟩) (fun j _ => hs j)

set_option maxHeartbeats 4000000 in
set_option maxRecDepth 100000 in
theorem c_X12_read (G : mu_G) {w : mu_W} {m : Nat} (hm : mo_ok w m) {n : Nat} {tp : Nat → Nat} (ht : MT w m n tp) {nr : Nat} {rs : Nat → mu_RS} {nf : Nat} {fs : Nat → mu_FS} (hfi : MFi w m nr rs nf fs) {z x y : Int} (hz : mi_ok z) (hx : mi_ok x) (hy : mi_ok y) : mu_Ct G M_X12_read [.ref m, .int (mI z), .int (mI x), .int (mI y)] w (fun r w' => re_post w m n tp nr rs nf fs z x y r w') := by
  have hk0 := hm.1
  obtain ⟨hz1, hz2⟩ := id hz
  obtain ⟨hx1, hx2⟩ := id hx
  obtain ⟨hy1, hy2⟩ := id hy
  have hnf := hfi.1
  have hn2 := ht.1.1
  refine mu_ofWA G M_X12_read [.ref m, .int (mI z), .int (mI x), .int (mI y), mu_no, mu_no] (by decide) rfl (Nat.le_of_ble_eq_true rfl) ?_
  intro X E
  have B : mu_B X G cX12_read RX12 6 (mu_rm M_X12_read) := E.1
  have KE : ∀ (s : mu_W) (v : Int32) (u5 : Value), (∀ w3, w3 = mu_si s m 2 (mI 0) → re_post w m n tp nr rs nf fs z x y (some (.int v)) w3) → mo_ok s m → mu_WA X G 6 (mu_Q X G M_X12_read (re_post w m n tp nr rs nf fs z x y)) s 0 0 65 [.ref m, .int (mI z), .int (mI x), .int (mI y), .int v, u5] [] := by
    intro s v u5 hq hm3
    have hk3 := hm3.1
    refine mu_al_0 B dX12_read_65 ?_
    refine mu_iconst (v := mI 0) B dX12_read_66 rfl ?_
    refine mu_putI B dX12_read_67 fX12_128 fwX12_2 rfl (by assumption) ?_
    refine mu_il_4 B dX12_read_70 ?_
    refine mu_iret E rfl (by decide) (by decide) dX12_read_72 ?_
    exact hq _ rfl
  show mu_WA X G 6 _ _ 0 0 0 _ []
  refine mu_iconst (v := mI (-1)) B dX12_read_0 rfl ?_
  refine mu_is_4 B dX12_read_1 (by decide) rfl ?_
  refine mu_al_0 B dX12_read_3 ?_
  refine mu_il_1 B dX12_read_4 ?_
  refine mu_eV1 B dX12_read_5 mX12_178 ⟨⟨by decide, by decide⟩, by decide, by decide⟩ (Nat.le_of_ble_eq_true rfl) (by assumption) (c_X12_isField G hm (n := nf) hfi.2.1 hfi.1 hz) ?_
  refine mu_if_eq (tgt := 65) B dX12_read_8 (by decide) (fun c8 => ?_) (fun c8 => ?_)
  · have z8 := mu_bf c8
    first
      | refine KE w _ _ (fun w3 hw3 => ?_) hm
        rw [hw3]
        refine ⟨ht.zero, ?_⟩
        rw [if_neg (fun hh => z8 hh.1)]
        exact ⟨rfl, rfl⟩
      | refine KE w _ _ (fun w3 hw3 => ?_) hm
        rw [hw3]
        refine ⟨ht.zero, ?_⟩
        rw [if_neg (fun hh => z17 hh.2)]
        exact ⟨rfl, rfl⟩
      | refine KE w21 _ _ (fun w3 hw3 => ?_) hm1
        rw [hw3]
        refine ⟨ht1.zero, ?_⟩
        rw [if_pos ⟨by omega, by omega⟩, Int.toNat_natCast]
        exact ⟨(rr_9 hF1).si (Or.inl ⟨rfl, Or.inl rfl⟩), K, hRT, fun j hj => (hrr.2 j hj).2.1, hK, fun _ => ⟨rfl, hfi1.z2⟩, fun hh => absurd hh (by omega), fun hh => absurd hh (by omega)⟩
  · have z8 := mu_bt c8
    refine mu_al_0 B dX12_read_11 ?_
    refine mu_il_2 B dX12_read_12 ?_
    refine mu_il_3 B dX12_read_13 ?_
    refine mu_eV2 B dX12_read_14 mX12_181 ⟨⟨by decide, by decide⟩, by decide, by decide⟩ (Nat.le_of_ble_eq_true rfl) (by assumption) (c_X12_isPlace G hx hy) ?_
    refine mu_if_eq (tgt := 65) B dX12_read_17 (by decide) (fun c17 => ?_) (fun c17 => ?_)
    · have z17 := mu_bf c17
      first
        | refine KE w _ _ (fun w3 hw3 => ?_) hm
          rw [hw3]
          refine ⟨ht.zero, ?_⟩
          rw [if_neg (fun hh => z8 hh.1)]
          exact ⟨rfl, rfl⟩
        | refine KE w _ _ (fun w3 hw3 => ?_) hm
          rw [hw3]
          refine ⟨ht.zero, ?_⟩
          rw [if_neg (fun hh => z17 hh.2)]
          exact ⟨rfl, rfl⟩
        | refine KE w21 _ _ (fun w3 hw3 => ?_) hm1
          rw [hw3]
          refine ⟨ht1.zero, ?_⟩
          rw [if_pos ⟨by omega, by omega⟩, Int.toNat_natCast]
          exact ⟨(rr_9 hF1).si (Or.inl ⟨rfl, Or.inl rfl⟩), K, hRT, fun j hj => (hrr.2 j hj).2.1, hK, fun _ => ⟨rfl, hfi1.z2⟩, fun hh => absurd hh (by omega), fun hh => absurd hh (by omega)⟩
    · have z17 := mu_bt c17
      obtain ⟨f, hf⟩ : ∃ f : Nat, z = f := ⟨z.toNat, by omega⟩
      subst hf
      have hf8 : f < nf := by omega
      refine mu_al_0 B dX12_read_20 ?_
      refine mu_cV0 B dX12_read_21 mX12_232 ⟨⟨by decide, by decide⟩, by decide, by decide⟩ (Nat.le_of_ble_eq_true rfl) (by assumption) (c_X12_readRuns G hm ht) (fun r21 w21 q21 => ?_)
      obtain ⟨hF1, K, hK, hRT, hrr, rfl, hb1, hb2⟩ := q21
      have hm1 := hm.fi hF1
      have hk1 := hm1.1
      have hfi1 := hfi.rr hF1
      have ht1 := ht.rr hF1
      have hB1 := hfi1.bd hm1 hf8
      show mu_WA X G 6 _ w21 0 0 24 _ [.int (mI (rt_f (tb n tp) n K))]
      refine mu_is_5 B dX12_read_24 (by decide) rfl ?_
      refine mu_il_5 B dX12_read_26 ?_
      refine mu_if_lt (tgt := 39) B dX12_read_28 (by decide) (fun c28 => ?_) (fun c28 => ?_)
      · try rw [mI_lt0 ⟨by omega, by omega⟩] at c28
        try rw [mI_lt0 ⟨by omega, by omega⟩] at c28
        refine mu_al_0 B dX12_read_39 ?_
        refine mu_il_1 B dX12_read_40 ?_
        refine mu_il_2 B dX12_read_41 ?_
        refine mu_il_3 B dX12_read_42 ?_
        refine mu_iconst (v := mI 0) B dX12_read_43 rfl ?_
        refine mu_cV4 B dX12_read_44 mX12_236 ⟨⟨by decide, by decide⟩, by decide, by decide⟩ (Nat.le_of_ble_eq_true rfl) (by assumption) (c_X12_told G hm1 (f := f) (by omega) hK hrr (d := 0) (by omega) (by omega) (Or.inl rfl) hB1 (fun hh => absurd hh (by decide))) (fun r44 w44 q44 => ?_)
        have hF2 := q44.1
        have hm2 := hm1.fi hF2
        have hk2 := hm2.1
        have ht2 : MT w44 m n tp := ⟨ht1.1, hF2.iv (by unfold td_S; omega) ht1.2.1, fun j hj => hF2.iv (by unfold td_S; omega) (ht1.2.2 j hj)⟩
        by_cases hfit : tl_F (tb n tp) x y K
        · obtain ⟨rfl, hB2⟩ := q44.2.1 hfit
          have hnn := tl_bd (by omega) (by omega) (fun j hj => (hrr.2 j hj).2.1) K (Nat.le_refl _) hfit
          replace hB2 : Bd w44 (m + 9) 524288 (65536 * f) 256 256 (fs_c (fs f)) := hB2
          have hrr2 := hrr.fi hF2 (by unfold td_S; omega) (fun j => ⟨by unfold td_S; omega, by unfold td_S; omega⟩)
          show mu_WA X G 6 _ w44 0 0 47 _ [.int (mI (tl_n (tb n tp) K : Int))]
          refine mu_if_ge (tgt := 55) B dX12_read_47 (by decide) (fun c47 => ?_) (fun c47 => ?_)
          · try rw [mI_ge0 ⟨by omega, by omega⟩] at c47
            refine mu_al_0 B dX12_read_55 ?_
            refine mu_il_1 B dX12_read_56 ?_
            refine mu_il_2 B dX12_read_57 ?_
            refine mu_il_3 B dX12_read_58 ?_
            refine mu_iconst (v := mI 1) B dX12_read_59 rfl ?_
            refine mu_cV4 B dX12_read_60 mX12_236 ⟨⟨by decide, by decide⟩, by decide, by decide⟩ (Nat.le_of_ble_eq_true rfl) (by assumption) (c_X12_told G hm2 (f := f) (by omega) hK hrr2 (d := 1) (by omega) (by omega) (Or.inr rfl) hB2 (fun _ => hfit)) (fun r60 w60 q60 => ?_)
            have hF3 := q60.1
            have hm3 := hm2.fi hF3
            obtain ⟨rfl, hB3⟩ := q60.2.1 hfit
            show mu_WA X G 6 _ w60 0 0 63 _ [.int (mI (tl_n (tb n tp) K : Int))]
            refine mu_is_4 B dX12_read_63 (by decide) rfl ?_
            refine KE w60 _ _ (fun w3 hw3 => ?_) hm3
            have ht3 : MT w60 m n tp := ⟨ht2.1, hF3.iv (by unfold td_S; omega) ht2.2.1, fun j hj => hF3.iv (by unfold td_S; omega) (ht2.2.2 j hj)⟩
            rw [hw3]
            refine ⟨ht3.zero, ?_⟩
            rw [if_pos ⟨by omega, by omega⟩, Int.toNat_natCast]
            refine ⟨(((rr_9 hF1).trans (td_9 hF2)).trans (td_9 hF3)).si (Or.inl ⟨rfl, Or.inl rfl⟩), K, hRT, fun j hj => (hrr.2 j hj).2.1, hK, fun hh => absurd hh (by omega), fun _ hh => absurd hfit hh, fun _ _ => ⟨rfl, ?_⟩⟩
            refine (hfi1.cell hf8 (g := fs_g (fs f)) (tl_c_le (hfi.2.2 f hf8).1.2.2.2 K) ?_ ?_ ?_ ?_ ?_ ?_).z2
            · exact (hF3.2.2.2 _ _ (by unfold td_S; omega)).1.trans (hF2.2.2.2 _ _ (by unfold td_S; omega)).1
            · exact fun q hq => (hF3.2.2.2 _ _ (by unfold td_S; omega)).1.trans (hF2.2.2.2 _ _ (by unfold td_S; omega)).1
            · exact fun q hq _ => (hF3.2.2.2 _ _ (by unfold td_S; omega)).1.trans (hF2.2.2.2 _ _ (by unfold td_S; omega)).1
            · exact ((hF3.2.2.2 _ _ (by unfold td_S; omega)).1.trans (hF2.2.2.2 _ _ (by unfold td_S; omega)).1).trans (hfi1.2.2 f hf8).2.2.1
            · exact fun j hj hj2 => (hF3.2.2.2 _ _ (by unfold td_S; omega)).1.trans (hF2.2.2.2 _ _ (by unfold td_S; omega)).1
            · exact fun i j hi hj => hB3.2.2.2.1 i j hi hj
          · try rw [mI_ge0 ⟨by omega, by omega⟩] at c47
            exfalso
            omega
        · obtain ⟨rfl, hsm⟩ := q44.2.2 hfit
          show mu_WA X G 6 _ w44 0 0 47 _ [.int (mI (-2))]
          refine mu_if_ge (tgt := 55) B dX12_read_47 (by decide) (fun c47 => ?_) (fun c47 => ?_)
          · try rw [mI_ge0 ⟨by omega, by omega⟩] at c47
            exfalso
            omega
          · try rw [mI_ge0 ⟨by omega, by omega⟩] at c47
            refine mu_bipush (v := mI (-2)) B dX12_read_50 (by decide) ?_
            refine mu_goto (tgt := 63) B dX12_read_52 (by decide) ?_
            refine mu_is_4 B dX12_read_63 (by decide) rfl ?_
            refine KE w44 _ _ (fun w3 hw3 => ?_) hm2
            rw [hw3]
            refine ⟨ht2.zero, ?_⟩
            rw [if_pos ⟨by omega, by omega⟩, Int.toNat_natCast]
            refine ⟨((rr_9 hF1).trans (td_9 hF2)).si (Or.inl ⟨rfl, Or.inl rfl⟩), K, hRT, fun j hj => (hrr.2 j hj).2.1, hK, fun hh => absurd hh (by omega), fun _ _ => ⟨rfl, (hfi1.td hF2 hsm).z2⟩, fun _ hh => absurd hh hfit⟩
      · try rw [mI_lt0 ⟨by omega, by omega⟩] at c28
        refine mu_bipush (v := mI (-10)) B dX12_read_31 (by decide) ?_
        refine mu_il_5 B dX12_read_33 ?_
        refine mu_isub B dX12_read_35 ?_
        try rw [mI_sub]
        refine mu_goto (tgt := 63) B dX12_read_36 (by decide) ?_
        refine mu_is_4 B dX12_read_63 (by decide) rfl ?_
        first
          | refine KE w _ _ (fun w3 hw3 => ?_) hm
            rw [hw3]
            refine ⟨ht.zero, ?_⟩
            rw [if_neg (fun hh => z8 hh.1)]
            exact ⟨rfl, rfl⟩
          | refine KE w _ _ (fun w3 hw3 => ?_) hm
            rw [hw3]
            refine ⟨ht.zero, ?_⟩
            rw [if_neg (fun hh => z17 hh.2)]
            exact ⟨rfl, rfl⟩
          | refine KE w21 _ _ (fun w3 hw3 => ?_) hm1
            rw [hw3]
            refine ⟨ht1.zero, ?_⟩
            rw [if_pos ⟨by omega, by omega⟩, Int.toNat_natCast]
            exact ⟨(rr_9 hF1).si (Or.inl ⟨rfl, Or.inl rfl⟩), K, hRT, fun j hj => (hrr.2 j hj).2.1, hK, fun _ => ⟨rfl, hfi1.z2⟩, fun hh => absurd hh (by omega), fun hh => absurd hh (by omega)⟩
