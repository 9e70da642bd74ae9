def db_post (w : mu_W) (m : Nat) (c : Nat → Nat → Nat) (r : Option Value) (w' : mu_W) : Prop := mu_Fi (db_S m) w w' ∧ ∃ S, DTOT c 8 S ∧ r = some (.int (mI (S : Nat)))
theorem sq_div {t : Nat} : 64 / 2 ^ t / 2 = 64 / 2 ^ (t + 1) := by rw [Nat.div_div_eq_div_mul, Nat.pow_succ]
theorem sq_n : ∀ t, t ≤ 6 → 256 / 2 ^ (t + 1) = 2 * (64 / 2 ^ t) ∧ 256 / 2 ^ (t + 2) = 64 / 2 ^ t ∧ 1 ≤ 64 / 2 ^ t ∧ 64 / 2 ^ t ≤ 64 := by decide +kernel
theorem sq_end : ∀ t, t ≤ 7 → 64 / 2 ^ t ≤ 0 → t = 7 := by decide +kernel
theorem sq_7 {t : Nat} (h : ¬ (64 / 2 ^ t : Nat) ≤ 0) (ht : t ≤ 7) : t ≤ 6 := by
  by_cases e : t = 7
  · subst e; exact absurd (by decide) h
  · omega
theorem qd_ok {v : Nat → Nat → Nat} (h : ∀ i j, v i j < 65536) (i j : Nat) : q4_ok (qd v i j) := ⟨h _ _, h _ _, h _ _, h _ _⟩

set_option maxHeartbeats 4000000 in
set_option maxRecDepth 100000 in
theorem c_X12_differentBlocks (G : mu_G) {w : mu_W} {m : Nat} (hm : mo_ok w m) {f : Nat} (hf : f < 8) {c : Nat → Nat → Nat} (hB : Bd w (m + 9) 524288 (65536 * f) 256 256 c) : mu_Ct G M_X12_differentBlocks [.ref m, .int (mI f)] w (fun r w' => db_post w m c r w') := by
  have hk0 := hm.1
  have hv0 : ∀ i j, (fun a b => c b a) i j < 65536 := fun i j => by have := hB.2.2.2.2 j i; show c j i < 65536; omega
  refine mu_ofWA G M_X12_differentBlocks [.ref m, .int (mI f), mu_no, mu_no, mu_no, mu_no, mu_no, mu_no, mu_no] (by decide) rfl (Nat.le_of_ble_eq_true rfl) ?_
  intro X E
  have B : mu_B X G cX12_differentBlocks RX12 9 (mu_rm M_X12_differentBlocks) := E.1
  have LV : ∀ t (st : mu_W × Nat × (Nat → Nat → Nat)), t ≤ 7 → (mu_Fi (db_S m) w st.1 ∧ DTOT c (t + 1) st.2.1 ∧ st.2.1 ≤ 16384 + 4096 * t ∧ (∃ D9, LAB c (t + 1) (256 / 2 ^ (t + 1)) D9 st.2.2) ∧ ∀ i j, i < 256 / 2 ^ (t + 1) → j < 256 / 2 ^ (t + 1) → mu_iv st.1 (m + 17) (256 / 2 ^ (t + 1) * i + j) = mI (st.2.2 i j) ∧ st.2.2 i j < 65536) → mu_WA X G 9 (mu_Q X G M_X12_differentBlocks (db_post w m c)) st.1 0 0 130 [.ref m, .int (mI f), .int (mI ((65536 * f : Nat) : Int)), .int (mI (st.2.1 : Int)), .int (mI ((64 / 2 ^ t : Nat) : Int)), mu_no, mu_no, mu_no, mu_no] [] := by
    refine mu_ind (7) (fun t (st : mu_W × Nat × (Nat → Nat → Nat)) => mu_WA X G 9 (mu_Q X G M_X12_differentBlocks (db_post w m c)) st.1 0 0 130 [.ref m, .int (mI f), .int (mI ((65536 * f : Nat) : Int)), .int (mI (st.2.1 : Int)), .int (mI ((64 / 2 ^ t : Nat) : Int)), mu_no, mu_no, mu_no, mu_no] []) (fun t (st : mu_W × Nat × (Nat → Nat → Nat)) => mu_Fi (db_S m) w st.1 ∧ DTOT c (t + 1) st.2.1 ∧ st.2.1 ≤ 16384 + 4096 * t ∧ (∃ D9, LAB c (t + 1) (256 / 2 ^ (t + 1)) D9 st.2.2) ∧ ∀ i j, i < 256 / 2 ^ (t + 1) → j < 256 / 2 ^ (t + 1) → mu_iv st.1 (m + 17) (256 / 2 ^ (t + 1) * i + j) = mI (st.2.2 i j) ∧ st.2.2 i j < 65536) ?_
    rintro t ⟨s, S, v⟩ ht ⟨hF, hT, hS, ⟨D9, hlb⟩, hvv⟩ iht
    dsimp only at hF hT hS hlb hvv iht ⊢
    obtain ⟨n, hn⟩ : ∃ n, 64 / 2 ^ t = n := ⟨_, rfl⟩
    have hn64 : n ≤ 64 := by rw [← hn]; exact Nat.div_le_self _ _
    rw [hn]
    have hm1 := hm.fi hF
    have hk1 := hm1.1
    obtain ⟨r29, k29⟩ := mo_29 hm1
    obtain ⟨r30, k30⟩ := mo_30 hm1
    refine mu_il_4 B dX12_differentBlocks_130 ?_
    refine mu_if_le (tgt := 296) B dX12_differentBlocks_132 (by decide) (fun c132 => ?_) (fun c132 => ?_)
    · try rw [mI_le0 ⟨by omega, by omega⟩] at c132
      obtain rfl : t = 7 := sq_end t ht (by rw [hn]; omega)
      refine mu_il_3 B dX12_differentBlocks_296 ?_
      refine mu_iret E rfl (by decide) (by decide) dX12_differentBlocks_297 ?_
      exact ⟨hF, S, hT, rfl⟩
    · try rw [mI_le0 ⟨by omega, by omega⟩] at c132
      have ht6 := sq_7 (t := t) (by rw [hn]; omega) ht
      obtain ⟨hn1, hn2, hn3, hn4⟩ := sq_n t ht6
      rw [hn] at hn1 hn2 hn3 hn4
      rw [hn1] at hlb hvv
      have hlv : ∀ i j i' j', i < 2 * n → j < 2 * n → i' < 2 * n → j' < 2 * n → (v i j = v i' j' ↔ EQ c (t + 1) i j i' j') := hlb.2.2
      have hidx : ∀ y : Nat, (2 : Int) * (2 * (n : Int)) * (y : Int) = ((2 * n * (2 * y) : Nat) : Int) := fun y => by rw [Int.natCast_mul, Int.natCast_mul, Int.natCast_mul]; show (2 : Int) * (2 * (n : Int)) * (y : Int) = (2 : Int) * (n : Int) * ((2 : Int) * (y : Int)); ac_rfl
      have hnn : n * n ≤ 64 * 64 := Nat.mul_le_mul hn4 hn4
      have hnn2 : 2 * n * (2 * n) ≤ 128 * 128 := Nat.mul_le_mul (by omega) (by omega)
      have hSb := hS
      obtain ⟨v9, hv9⟩ : ∃ v9 : Nat → Nat → Nat, (∀ i j, v9 i j < 65536) ∧ ∀ i j, i < 2 * n → j < 2 * n → v9 i j = v i j := ⟨fun i j => if v i j < 65536 then v i j else 0, fun i j => by dsimp only; split <;> omega, fun i j hi hj => by have := (hvv i j hi hj).2; dsimp only; rw [if_pos (by omega)]⟩
      obtain ⟨hvb, hveq⟩ := hv9
      replace hlv : ∀ i j i' j', i < 2 * n → j < 2 * n → i' < 2 * n → j' < 2 * n → (v9 i j = v9 i' j' ↔ EQ c (t + 1) i j i' j') := fun i j i' j' h1 h2 h3 h4 => by rw [hveq i j h1 h2, hveq i' j' h3 h4]; exact hlv i j i' j' h1 h2 h3 h4
      have hv0 : ∀ i j, i < 2 * n → j < 2 * n → mu_iv s (m + 17) (2 * n * i + j) = mI (v9 i j) := fun i j hi hj => by rw [hveq i j hi hj]; exact (hvv i j hi hj).1
      have L2y : ∀ y (st : mu_W × Nat × (Nat → mu_Q4) × (Nat → Nat → Nat)), y ≤ n → (mu_Fi (db_S m) w st.1 ∧ TBq st.1 m st.2.1 st.2.2.1 ∧ PGq n v9 y 0 st.2.1 st.2.2.1 st.2.2.2 ∧ (∀ i j, j < n → pt_bf 0 y j i → mu_iv st.1 (m + 18) (n * i + j) = mI (st.2.2.2 i j)) ∧ ∀ i j, i < 2 * n → j < 2 * n → mu_iv st.1 (m + 17) (2 * n * i + j) = mI (v9 i j)) → mu_WA X G 9 (mu_Q X G M_X12_differentBlocks (db_post w m c)) st.1 0 0 149 [.ref m, .int (mI f), .int (mI ((65536 * f : Nat) : Int)), .int (mI (S : Int)), .int (mI n), .int (mI (2 * (n : Int))), .int (mI y), mu_no, mu_no] [] := by
        refine mu_ind (n) (fun y (st : mu_W × Nat × (Nat → mu_Q4) × (Nat → Nat → Nat)) => mu_WA X G 9 (mu_Q X G M_X12_differentBlocks (db_post w m c)) st.1 0 0 149 [.ref m, .int (mI f), .int (mI ((65536 * f : Nat) : Int)), .int (mI (S : Int)), .int (mI n), .int (mI (2 * (n : Int))), .int (mI y), mu_no, mu_no] []) (fun y (st : mu_W × Nat × (Nat → mu_Q4) × (Nat → Nat → Nat)) => mu_Fi (db_S m) w st.1 ∧ TBq st.1 m st.2.1 st.2.2.1 ∧ PGq n v9 y 0 st.2.1 st.2.2.1 st.2.2.2 ∧ (∀ i j, j < n → pt_bf 0 y j i → mu_iv st.1 (m + 18) (n * i + j) = mI (st.2.2.2 i j)) ∧ ∀ i j, i < 2 * n → j < 2 * n → mu_iv st.1 (m + 17) (2 * n * i + j) = mI (v9 i j)) ?_
        rintro y ⟨s, D, q, id⟩ hy ⟨hF, hTB, hPG, harr, hv⟩ ihy
        dsimp only at hF hTB hPG harr hv ihy ⊢
        have hm1 := hm.fi hF
        have hk1 := hm1.1
        obtain ⟨r29, k29⟩ := mo_29 hm1
        obtain ⟨r30, k30⟩ := mo_30 hm1
        refine mu_il_6 B dX12_differentBlocks_149 ?_
        refine mu_il_4 B dX12_differentBlocks_151 ?_
        refine mu_icmp_ge (tgt := 247) B dX12_differentBlocks_153 (by decide) (fun c153 => ?_) (fun c153 => ?_)
        · try rw [mI_le ⟨by omega, by omega⟩ ⟨by omega, by omega⟩] at c153
          obtain rfl : n = y := by omega
          refine mu_il_3 B dX12_differentBlocks_247 ?_
          refine mu_al_0 B dX12_differentBlocks_248 ?_
          refine mu_getI B dX12_differentBlocks_249 fX12_254 rfl (by assumption) ?_
          rw [hTB.1]
          refine mu_iadd B dX12_differentBlocks_252 ?_
          try rw [mI_add]
          refine mu_is_3 B dX12_differentBlocks_253 (by decide) rfl ?_
          refine mu_iconst (v := mI 0) B dX12_differentBlocks_254 rfl ?_
          refine mu_is_6 B dX12_differentBlocks_255 (by decide) rfl ?_
          have hlab := hPG.lab (c := c) (p := t + 1) hlv
          have hT2 := hT.succ (D := D) ⟨id, by rw [show 256 / 2 ^ (t + 1 + 1) = n from hn2]; exact hlab⟩
          have hD9 := hPG.1
          have LC : ∀ k (s2 : mu_W), k ≤ n * n → (mu_Fi (db_S m) w s2 ∧ (∀ j, mu_iv s2 (m + 18) j = mu_iv s (m + 18) j) ∧ ∀ j, j < k → mu_iv s2 (m + 17) j = mu_iv s (m + 18) j) → mu_WA X G 9 (mu_Q X G M_X12_differentBlocks (db_post w m c)) s2 0 0 257 [.ref m, .int (mI f), .int (mI ((65536 * f : Nat) : Int)), .int (mI ((S : Int) + (D : Int))), .int (mI n), .int (mI (2 * (n : Int))), .int (mI k), mu_no, mu_no] [] := by
            refine mu_ind (n * n) (fun k (s2 : mu_W) => mu_WA X G 9 (mu_Q X G M_X12_differentBlocks (db_post w m c)) s2 0 0 257 [.ref m, .int (mI f), .int (mI ((65536 * f : Nat) : Int)), .int (mI ((S : Int) + (D : Int))), .int (mI n), .int (mI (2 * (n : Int))), .int (mI k), mu_no, mu_no] []) (fun k (s2 : mu_W) => mu_Fi (db_S m) w s2 ∧ (∀ j, mu_iv s2 (m + 18) j = mu_iv s (m + 18) j) ∧ ∀ j, j < k → mu_iv s2 (m + 17) j = mu_iv s (m + 18) j) ?_
            rintro k s2 hk ⟨hF, h18, hcp⟩ ihk
            have hm1 := hm.fi hF
            have hk1 := hm1.1
            obtain ⟨r29, k29⟩ := mo_29 hm1
            obtain ⟨r30, k30⟩ := mo_30 hm1
            refine mu_il_6 B dX12_differentBlocks_257 ?_
            refine mu_il_4 B dX12_differentBlocks_259 ?_
            refine mu_il_4 B dX12_differentBlocks_261 ?_
            refine mu_imul B dX12_differentBlocks_263 ?_
            try rw [mI_mul]
            try rw [mI_mul]
            rw [← Int.natCast_mul]
            refine mu_icmp_ge (tgt := 287) B dX12_differentBlocks_264 (by decide) (fun c264 => ?_) (fun c264 => ?_)
            · try rw [mI_le ⟨by omega, by omega⟩ ⟨by omega, by omega⟩] at c264
              obtain rfl : n * n = k := by omega
              refine mu_il_4 B dX12_differentBlocks_287 ?_
              refine mu_iconst (v := mI 2) B dX12_differentBlocks_289 rfl ?_
              refine mu_idiv B dX12_differentBlocks_290 ?_ ?_
              · decide
              rw [mI_div (by omega) (by omega) (by omega) (by omega)]
              refine mu_is_4 B dX12_differentBlocks_291 (by decide) rfl ?_
              refine mu_goto (tgt := 130) B dX12_differentBlocks_293 (by decide) ?_
              refine mu_fg (iht (s2, S + D, id) (by omega) ⟨hF, hT2, by show S + D ≤ 16384 + 4096 * (t + 1); omega, ⟨D, by rw [hn2]; exact hlab⟩, fun i j hi hj => ?_⟩) rfl (by rw [show ((64 / 2 ^ (t + 1) : Nat) : Int) = (n : Int) / 2 by rw [← sq_div, hn]; rfl]; exact ⟨Or.inl rfl, Or.inl rfl, Or.inl rfl, Or.inl rfl, Or.inl rfl, Or.inr rfl, Or.inr rfl, Or.inr rfl, Or.inr rfl, trivial⟩)
              rw [hn2] at hi hj ⊢
              exact ⟨(hcp _ (wh_ix hj hi)).trans (harr i j hj (by unfold pt_bf; omega)), by show id i j < 65536; have := hlab.1 i j hi hj; omega⟩
            · try rw [mI_le ⟨by omega, by omega⟩ ⟨by omega, by omega⟩] at c264
              refine mu_al_0 B dX12_differentBlocks_267 ?_
              refine mu_getR B dX12_differentBlocks_268 fX12_62 rfl (by assumption) (by assumption) ?_
              refine mu_il_6 B dX12_differentBlocks_271 ?_
              refine mu_al_0 B dX12_differentBlocks_273 ?_
              refine mu_getR B dX12_differentBlocks_274 fX12_65 rfl (by assumption) (by assumption) ?_
              refine mu_il_6 B dX12_differentBlocks_277 ?_
              refine mu_iald B dX12_differentBlocks_279 (by assumption) (mI_inN (by omega) (by decide)) ?_
              rw [mI_clampN (by omega)]
              refine mu_iast B dX12_differentBlocks_280 (by assumption) (mI_inN (by omega) (by decide)) ?_
              rw [mI_clampN (by omega)]
              refine mu_inc_6 (c := mI 1) B dX12_differentBlocks_281 rfl (by decide) rfl ?_
              try rw [mI_add]
              refine mu_goto (tgt := 257) B dX12_differentBlocks_284 (by decide) ?_
              refine mu_fg (ihk _ (by omega) ⟨hF.si (Or.inr ⟨by omega, by omega⟩), fun j => (mu_iv_oth _ _ (by omega)).trans (h18 j), fun j hj => ?_⟩) rfl (by rw [show ((k + 1 : Nat) : Int) = (k : Int) + 1 by omega]; exact ⟨Or.inl rfl, Or.inl rfl, Or.inl rfl, Or.inl rfl, Or.inl rfl, Or.inl rfl, Or.inl rfl, Or.inr rfl, Or.inr rfl, trivial⟩)
              by_cases e9 : j = k
              · rw [e9, mu_iv_same]; exact h18 k
              · rw [mu_iv_oth _ _ (by omega)]; exact hcp j (by omega)
          exact mu_fg (LC 0 s (Nat.zero_le _) ⟨hF, fun j => rfl, fun j hj => absurd hj (Nat.not_lt_zero j)⟩) rfl (⟨Or.inl rfl, Or.inl rfl, Or.inl rfl, Or.inl rfl, Or.inl rfl, Or.inl rfl, Or.inl rfl, Or.inr rfl, Or.inr rfl, trivial⟩)
        · try rw [mI_le ⟨by omega, by omega⟩ ⟨by omega, by omega⟩] at c153
          have hy9 : y < n := by omega
          refine mu_iconst (v := mI 0) B dX12_differentBlocks_156 rfl ?_
          refine mu_is_7 B dX12_differentBlocks_157 (by decide) rfl ?_
          have L2x : ∀ x (st : mu_W × Nat × (Nat → mu_Q4) × (Nat → Nat → Nat)), x ≤ n → (mu_Fi (db_S m) w st.1 ∧ TBq st.1 m st.2.1 st.2.2.1 ∧ PGq n v9 y x st.2.1 st.2.2.1 st.2.2.2 ∧ (∀ i j, j < n → pt_bf x y j i → mu_iv st.1 (m + 18) (n * i + j) = mI (st.2.2.2 i j)) ∧ ∀ i j, i < 2 * n → j < 2 * n → mu_iv st.1 (m + 17) (2 * n * i + j) = mI (v9 i j)) → mu_WA X G 9 (mu_Q X G M_X12_differentBlocks (db_post w m c)) st.1 0 0 159 [.ref m, .int (mI f), .int (mI ((65536 * f : Nat) : Int)), .int (mI (S : Int)), .int (mI n), .int (mI (2 * (n : Int))), .int (mI y), .int (mI x), mu_no] [] := by
            refine mu_ind (n) (fun x (st : mu_W × Nat × (Nat → mu_Q4) × (Nat → Nat → Nat)) => mu_WA X G 9 (mu_Q X G M_X12_differentBlocks (db_post w m c)) st.1 0 0 159 [.ref m, .int (mI f), .int (mI ((65536 * f : Nat) : Int)), .int (mI (S : Int)), .int (mI n), .int (mI (2 * (n : Int))), .int (mI y), .int (mI x), mu_no] []) (fun x (st : mu_W × Nat × (Nat → mu_Q4) × (Nat → Nat → Nat)) => mu_Fi (db_S m) w st.1 ∧ TBq st.1 m st.2.1 st.2.2.1 ∧ PGq n v9 y x st.2.1 st.2.2.1 st.2.2.2 ∧ (∀ i j, j < n → pt_bf x y j i → mu_iv st.1 (m + 18) (n * i + j) = mI (st.2.2.2 i j)) ∧ ∀ i j, i < 2 * n → j < 2 * n → mu_iv st.1 (m + 17) (2 * n * i + j) = mI (v9 i j)) ?_
            rintro x ⟨s, D, q, id⟩ hx ⟨hF, hTB, hPG, harr, hv⟩ ihx
            dsimp only at hF hTB hPG harr hv ihx ⊢
            have hm1 := hm.fi hF
            have hk1 := hm1.1
            obtain ⟨r29, k29⟩ := mo_29 hm1
            obtain ⟨r30, k30⟩ := mo_30 hm1
            have hDb := hPG.1
            refine mu_il_7 B dX12_differentBlocks_159 ?_
            refine mu_il_4 B dX12_differentBlocks_161 ?_
            refine mu_icmp_ge (tgt := 241) B dX12_differentBlocks_163 (by decide) (fun c163 => ?_) (fun c163 => ?_)
            · try rw [mI_le ⟨by omega, by omega⟩ ⟨by omega, by omega⟩] at c163
              obtain rfl : n = x := by omega
              refine mu_inc_6 (c := mI 1) B dX12_differentBlocks_241 rfl (by decide) rfl ?_
              rw [mI_add]
              refine mu_goto (tgt := 149) B dX12_differentBlocks_244 (by decide) ?_
              refine mu_fg (ihy (s, D, q, id) (by omega) ⟨hF, hTB, hPG.row, fun i j hj hb => harr i j hj (by unfold pt_bf at hb ⊢; omega), hv⟩) rfl (by rw [show ((y + 1 : Nat) : Int) = (y : Int) + 1 by omega]; exact ⟨Or.inl rfl, Or.inl rfl, Or.inl rfl, Or.inl rfl, Or.inl rfl, Or.inl rfl, Or.inl rfl, Or.inr rfl, Or.inr rfl, trivial⟩)
            · try rw [mI_le ⟨by omega, by omega⟩ ⟨by omega, by omega⟩] at c163
              have hx9 : x < n := by omega
              have i0 := wh_ix (W := 2 * n) (H := 2 * n) (i := 2 * x + 1) (j := 2 * y + 1) (by omega) (by omega)
              have i1 := wh_ix (W := n) (H := n) (i := x) (j := y) (by omega) (by omega)
              have im : 2 * n * (2 * y + 1) = 2 * n * (2 * y) + 2 * n := Nat.mul_succ _ _
              refine mu_iconst (v := mI 2) B dX12_differentBlocks_166 rfl ?_
              refine mu_il_5 B dX12_differentBlocks_167 ?_
              refine mu_imul B dX12_differentBlocks_169 ?_
              try rw [mI_mul]
              try rw [mI_mul]
              refine mu_il_6 B dX12_differentBlocks_170 ?_
              refine mu_imul B dX12_differentBlocks_172 ?_
              try rw [mI_mul]
              try rw [mI_mul]
              rw [show (2 : Int) * (2 * (n : Int)) * (y : Int) = ((2 * n * (2 * y) : Nat) : Int) from hidx y]
              refine mu_iconst (v := mI 2) B dX12_differentBlocks_173 rfl ?_
              refine mu_il_7 B dX12_differentBlocks_174 ?_
              refine mu_imul B dX12_differentBlocks_176 ?_
              try rw [mI_mul]
              refine mu_iadd B dX12_differentBlocks_177 ?_
              try rw [mI_add]
              try rw [mI_add]
              rw [show ((2 * n * (2 * y) : Nat) : Int) + 2 * (x : Int) = ((2 * n * (2 * y) + 2 * x : Nat) : Int) by omega]
              refine mu_is_8 B dX12_differentBlocks_178 (by decide) rfl ?_
              refine mu_al_0 B dX12_differentBlocks_180 ?_
              refine mu_getR B dX12_differentBlocks_181 fX12_65 rfl (by assumption) (by assumption) ?_
              refine mu_il_4 B dX12_differentBlocks_184 ?_
              refine mu_il_6 B dX12_differentBlocks_186 ?_
              refine mu_imul B dX12_differentBlocks_188 ?_
              try rw [mI_mul]
              try rw [mI_mul]
              rw [← Int.natCast_mul]
              refine mu_il_7 B dX12_differentBlocks_189 ?_
              refine mu_iadd B dX12_differentBlocks_191 ?_
              try rw [mI_add]
              try rw [mI_add]
              rw [← Int.natCast_add]
              refine mu_al_0 B dX12_differentBlocks_192 ?_
              refine mu_al_0 B dX12_differentBlocks_193 ?_
              refine mu_getR B dX12_differentBlocks_194 fX12_62 rfl (by assumption) (by assumption) ?_
              refine mu_il_8 B dX12_differentBlocks_197 ?_
              refine mu_iald B dX12_differentBlocks_199 (by assumption) (mI_inN (by omega) (by decide)) ?_
              rw [mI_clampN (by omega), hv (2 * y) (2 * x) (by omega) (by omega)]
              refine mu_al_0 B dX12_differentBlocks_200 ?_
              refine mu_getR B dX12_differentBlocks_201 fX12_62 rfl (by assumption) (by assumption) ?_
              refine mu_il_8 B dX12_differentBlocks_204 ?_
              refine mu_iconst (v := mI 1) B dX12_differentBlocks_206 rfl ?_
              refine mu_iadd B dX12_differentBlocks_207 ?_
              try rw [mI_add]
              try rw [mI_add]
              rw [show ((2 * n * (2 * y) + 2 * x : Nat) : Int) + 1 = ((2 * n * (2 * y) + (2 * x + 1) : Nat) : Int) by omega]
              refine mu_iald B dX12_differentBlocks_208 (by assumption) (mI_inN (by omega) (by decide)) ?_
              rw [mI_clampN (by omega), hv (2 * y) (2 * x + 1) (by omega) (by omega)]
              refine mu_al_0 B dX12_differentBlocks_209 ?_
              refine mu_getR B dX12_differentBlocks_210 fX12_62 rfl (by assumption) (by assumption) ?_
              refine mu_il_8 B dX12_differentBlocks_213 ?_
              refine mu_il_5 B dX12_differentBlocks_215 ?_
              refine mu_iadd B dX12_differentBlocks_217 ?_
              try rw [mI_add]
              try rw [mI_add]
              rw [show ((2 * n * (2 * y) + 2 * x : Nat) : Int) + 2 * (n : Int) = ((2 * n * (2 * y + 1) + 2 * x : Nat) : Int) by rw [im]; omega]
              refine mu_iald B dX12_differentBlocks_218 (by assumption) (mI_inN (by omega) (by decide)) ?_
              rw [mI_clampN (by omega), hv (2 * y + 1) (2 * x) (by omega) (by omega)]
              refine mu_al_0 B dX12_differentBlocks_219 ?_
              refine mu_getR B dX12_differentBlocks_220 fX12_62 rfl (by assumption) (by assumption) ?_
              refine mu_il_8 B dX12_differentBlocks_223 ?_
              refine mu_il_5 B dX12_differentBlocks_225 ?_
              refine mu_iadd B dX12_differentBlocks_227 ?_
              try rw [mI_add]
              try rw [mI_add]
              refine mu_iconst (v := mI 1) B dX12_differentBlocks_228 rfl ?_
              refine mu_iadd B dX12_differentBlocks_229 ?_
              try rw [mI_add]
              try rw [mI_add]
              rw [show ((2 * n * (2 * y) + 2 * x : Nat) : Int) + 2 * (n : Int) + 1 = ((2 * n * (2 * y + 1) + (2 * x + 1) : Nat) : Int) by rw [im]; omega]
              refine mu_iald B dX12_differentBlocks_230 (by assumption) (mI_inN (by omega) (by decide)) ?_
              rw [mI_clampN (by omega), hv (2 * y + 1) (2 * x + 1) (by omega) (by omega)]
              refine mu_cV4 B dX12_differentBlocks_231 mX12_257 ⟨⟨by decide, by decide⟩, by decide, by decide⟩ (Nat.le_of_ble_eq_true rfl) (by assumption) (c_X12_which G hm1 hTB (by omega) hPG.2.2.1 (t := qd v9 y x) (qd_ok hvb y x)) (fun r231 w231 q231 => ?_)
              obtain ⟨hFw, k9, rfl, hk9⟩ := q231
              have hk8 : (k9 < D ∧ q k9 = qd v9 y x) ∨ (k9 = D ∧ ∀ j, j < D → q j ≠ qd v9 y x) := hk9.elim (fun h => Or.inl ⟨h.1, h.2.1⟩) (fun h => Or.inr ⟨h.1, h.2.1⟩)
              have hTB2 : TBq w231 m (if k9 = D then D + 1 else D) (if k9 = D then rs_up q D (qd v9 y x) else q) := by
                rcases hk9 with ⟨h1, h2, h3⟩ | ⟨h1, h2, h3⟩
                · rw [if_neg (by omega), if_neg (by omega)]; exact h3
                · rw [if_pos h1, if_pos h1]; exact h3
              have hkD : k9 ≤ D := by omega
              have hFa := hF.trans (wh_db hFw)
              have k30w := (mo_30 (hm.fi hFa)).2
              show mu_WA X G 9 _ w231 0 0 234 _ [.int (mI (k9 : Nat)), .int (mI ((n * y + x : Nat) : Int)), .ref (m + 18)]
              refine mu_iast B dX12_differentBlocks_234 k30w (mI_inN (by omega) (by decide)) ?_
              rw [mI_clampN (by omega)]
              refine mu_inc_7 (c := mI 1) B dX12_differentBlocks_235 rfl (by decide) rfl ?_
              try rw [mI_add]
              refine mu_goto (tgt := 159) B dX12_differentBlocks_238 (by decide) ?_
              refine mu_fg (ihx (mu_si w231 (m + 18) (n * y + x) (mI (k9 : Nat)), (if k9 = D then D + 1 else D), (if k9 = D then rs_up q D (qd v9 y x) else q), cu id y x k9) (by omega) ⟨hFa.si (Or.inr ⟨by omega, by omega⟩), hTB2.oth (by omega), hPG.step (by omega) (qd_ok hvb y x) hk8, fun i j hj hb => ?_, fun i j hi hj => (mu_iv_oth _ _ (by omega)).trans (hFw.iv (by unfold wh_S; omega) (hv i j hi hj))⟩) rfl (by rw [show ((x + 1 : Nat) : Int) = (x : Int) + 1 by omega]; exact ⟨Or.inl rfl, Or.inl rfl, Or.inl rfl, Or.inl rfl, Or.inl rfl, Or.inl rfl, Or.inl rfl, Or.inl rfl, Or.inr rfl, trivial⟩)
              show mu_iv (mu_si w231 (m + 18) (n * y + x) (mI (k9 : Nat))) (m + 18) (n * i + j) = mI (((if i = y ∧ j = x then k9 else id i j) : Nat) : Int)
              by_cases e9 : i = y ∧ j = x
              · rw [if_pos e9, e9.1, e9.2, mu_iv_same]
              · rw [if_neg e9, mu_iv_oth _ _ (fun hh => e9 (by have := gs_inj hj (show x < n by omega) hh.2; omega))]
                exact hFw.iv (by unfold wh_S; omega) (harr i j hj (by unfold pt_bf at hb ⊢; omega))
          exact mu_fg (L2x 0 (s, D, q, id) (by omega) ⟨hF, hTB, hPG, harr, hv⟩) rfl (⟨Or.inl rfl, Or.inl rfl, Or.inl rfl, Or.inl rfl, Or.inl rfl, Or.inl rfl, Or.inl rfl, Or.inl rfl, Or.inr rfl, trivial⟩)
      refine mu_al_0 B dX12_differentBlocks_135 ?_
      refine mu_iconst (v := mI 0) B dX12_differentBlocks_136 rfl ?_
      refine mu_putI B dX12_differentBlocks_137 fX12_254 fwX12_35 rfl (by assumption) ?_
      refine mu_iconst (v := mI 2) B dX12_differentBlocks_140 rfl ?_
      refine mu_il_4 B dX12_differentBlocks_141 ?_
      refine mu_imul B dX12_differentBlocks_143 ?_
      try rw [mI_mul]
      refine mu_is_5 B dX12_differentBlocks_144 (by decide) rfl ?_
      refine mu_iconst (v := mI 0) B dX12_differentBlocks_146 rfl ?_
      refine mu_is_6 B dX12_differentBlocks_147 (by decide) rfl ?_
      exact mu_fg (L2y 0 (mu_si s m 35 (mI 0), 0, fun _ => (0, 0, 0, 0), fun _ _ => 0) (by omega) ⟨hF.si (Or.inl ⟨rfl, rfl⟩), ⟨mu_iv_same _ _ _ _, fun k hk => absurd hk (Nat.not_lt_zero k)⟩, PGq.start _ _ _ _, fun i j _ hb => absurd hb (by unfold pt_bf; omega), fun i j hi hj => (mu_iv_oth _ _ (by omega)).trans (hv0 i j hi hj)⟩) rfl (⟨Or.inl rfl, Or.inl rfl, Or.inl rfl, Or.inl rfl, Or.inl rfl, Or.inl rfl, Or.inl rfl, Or.inr rfl, Or.inr rfl, trivial⟩)
  have L1y : ∀ y (st : mu_W × Nat × (Nat → mu_Q4) × (Nat → Nat → Nat)), y ≤ 128 → (mu_Fi (db_S m) w st.1 ∧ TBq st.1 m st.2.1 st.2.2.1 ∧ PGq 128 (fun a b => c b a) y 0 st.2.1 st.2.2.1 st.2.2.2 ∧ ∀ i j, j < 128 → pt_bf 0 y j i → mu_iv st.1 (m + 17) (128 * i + j) = mI (st.2.2.2 i j)) → mu_WA X G 9 (mu_Q X G M_X12_differentBlocks (db_post w m c)) st.1 0 0 15 [.ref m, .int (mI f), .int (mI ((65536 * f : Nat) : Int)), .int (mI 0), .int (mI y), mu_no, mu_no, mu_no, mu_no] [] := by
    refine mu_ind (128) (fun y (st : mu_W × Nat × (Nat → mu_Q4) × (Nat → Nat → Nat)) => mu_WA X G 9 (mu_Q X G M_X12_differentBlocks (db_post w m c)) st.1 0 0 15 [.ref m, .int (mI f), .int (mI ((65536 * f : Nat) : Int)), .int (mI 0), .int (mI y), mu_no, mu_no, mu_no, mu_no] []) (fun y (st : mu_W × Nat × (Nat → mu_Q4) × (Nat → Nat → Nat)) => mu_Fi (db_S m) w st.1 ∧ TBq st.1 m st.2.1 st.2.2.1 ∧ PGq 128 (fun a b => c b a) y 0 st.2.1 st.2.2.1 st.2.2.2 ∧ ∀ i j, j < 128 → pt_bf 0 y j i → mu_iv st.1 (m + 17) (128 * i + j) = mI (st.2.2.2 i j)) ?_
    rintro y ⟨s, D, q, id⟩ hy ⟨hF, hTB, hPG, harr⟩ ihy
    dsimp only at hF hTB hPG harr ihy ⊢
    have hm1 := hm.fi hF
    have hk1 := hm1.1
    obtain ⟨r29, k29⟩ := mo_29 hm1
    obtain ⟨r30, k30⟩ := mo_30 hm1
    refine mu_il_4 B dX12_differentBlocks_15 ?_
    refine mu_sipush (v := mI 128) B dX12_differentBlocks_17 (by decide) ?_
    refine mu_icmp_ge (tgt := 119) B dX12_differentBlocks_20 (by decide) (fun c20 => ?_) (fun c20 => ?_)
    · try rw [mI_le ⟨by omega, by omega⟩ ⟨by omega, by omega⟩] at c20
      obtain rfl : 128 = y := by omega
      refine mu_il_3 B dX12_differentBlocks_119 ?_
      refine mu_al_0 B dX12_differentBlocks_120 ?_
      refine mu_getI B dX12_differentBlocks_121 fX12_254 rfl (by assumption) ?_
      rw [hTB.1]
      refine mu_iadd B dX12_differentBlocks_124 ?_
      try rw [mI_add]
      refine mu_is_3 B dX12_differentBlocks_125 (by decide) rfl ?_
      refine mu_bipush (v := mI 64) B dX12_differentBlocks_126 (by decide) ?_
      refine mu_is_4 B dX12_differentBlocks_128 (by decide) rfl ?_
      have hlab := hPG.lab (c := c) (p := 0) (fun i j i' j' _ _ _ _ => (EQ_0 c i j i' j').symm)
      have hD9 := hPG.1
      refine mu_fg (LV 0 (s, 0 + D, id) (by decide) ⟨hF, (DTOT.zero c).succ ⟨id, hlab⟩, by show 0 + D ≤ 16384 + 4096 * 0; omega, ⟨D, hlab⟩, fun i j hi hj => ⟨harr i j hj (by unfold pt_bf; omega), by show id i j < 65536; have := hlab.1 i j hi hj; omega⟩⟩) rfl (by rw [show ((0 : Int) + (D : Int)) = ((0 + D : Nat) : Int) by omega]; exact ⟨Or.inl rfl, Or.inl rfl, Or.inl rfl, Or.inl rfl, Or.inl rfl, Or.inr rfl, Or.inr rfl, Or.inr rfl, Or.inr rfl, trivial⟩)
    · try rw [mI_le ⟨by omega, by omega⟩ ⟨by omega, by omega⟩] at c20
      have hy9 : y < 128 := by omega
      refine mu_iconst (v := mI 0) B dX12_differentBlocks_23 rfl ?_
      refine mu_is_5 B dX12_differentBlocks_24 (by decide) rfl ?_
      have L1x : ∀ x (st : mu_W × Nat × (Nat → mu_Q4) × (Nat → Nat → Nat)), x ≤ 128 → (mu_Fi (db_S m) w st.1 ∧ TBq st.1 m st.2.1 st.2.2.1 ∧ PGq 128 (fun a b => c b a) y x st.2.1 st.2.2.1 st.2.2.2 ∧ ∀ i j, j < 128 → pt_bf x y j i → mu_iv st.1 (m + 17) (128 * i + j) = mI (st.2.2.2 i j)) → mu_WA X G 9 (mu_Q X G M_X12_differentBlocks (db_post w m c)) st.1 0 0 26 [.ref m, .int (mI f), .int (mI ((65536 * f : Nat) : Int)), .int (mI 0), .int (mI y), .int (mI x), mu_no, mu_no, mu_no] [] := by
        refine mu_ind (128) (fun x (st : mu_W × Nat × (Nat → mu_Q4) × (Nat → Nat → Nat)) => mu_WA X G 9 (mu_Q X G M_X12_differentBlocks (db_post w m c)) st.1 0 0 26 [.ref m, .int (mI f), .int (mI ((65536 * f : Nat) : Int)), .int (mI 0), .int (mI y), .int (mI x), mu_no, mu_no, mu_no] []) (fun x (st : mu_W × Nat × (Nat → mu_Q4) × (Nat → Nat → Nat)) => mu_Fi (db_S m) w st.1 ∧ TBq st.1 m st.2.1 st.2.2.1 ∧ PGq 128 (fun a b => c b a) y x st.2.1 st.2.2.1 st.2.2.2 ∧ ∀ i j, j < 128 → pt_bf x y j i → mu_iv st.1 (m + 17) (128 * i + j) = mI (st.2.2.2 i j)) ?_
        rintro x ⟨s, D, q, id⟩ hx ⟨hF, hTB, hPG, harr⟩ ihx
        dsimp only at hF hTB hPG harr ihx ⊢
        have hm1 := hm.fi hF
        have hk1 := hm1.1
        obtain ⟨r29, k29⟩ := mo_29 hm1
        obtain ⟨r30, k30⟩ := mo_30 hm1
        obtain ⟨r14, k14⟩ := mo_14 hm1
        have hB1 := hB.fi hF (fun j => by unfold db_S; omega)
        have hDb := hPG.1
        refine mu_il_5 B dX12_differentBlocks_26 ?_
        refine mu_sipush (v := mI 128) B dX12_differentBlocks_28 (by decide) ?_
        refine mu_icmp_ge (tgt := 113) B dX12_differentBlocks_31 (by decide) (fun c31 => ?_) (fun c31 => ?_)
        · try rw [mI_le ⟨by omega, by omega⟩ ⟨by omega, by omega⟩] at c31
          obtain rfl : 128 = x := by omega
          refine mu_inc_4 (c := mI 1) B dX12_differentBlocks_113 rfl (by decide) rfl ?_
          rw [mI_add]
          refine mu_goto (tgt := 15) B dX12_differentBlocks_116 (by decide) ?_
          refine mu_fg (ihy (s, D, q, id) (by omega) ⟨hF, hTB, hPG.row, fun i j hj hb => harr i j hj (by unfold pt_bf at hb ⊢; omega)⟩) rfl (by rw [show ((y + 1 : Nat) : Int) = (y : Int) + 1 by omega]; exact ⟨Or.inl rfl, Or.inl rfl, Or.inl rfl, Or.inl rfl, Or.inl rfl, Or.inr rfl, Or.inr rfl, Or.inr rfl, Or.inr rfl, trivial⟩)
        · try rw [mI_le ⟨by omega, by omega⟩ ⟨by omega, by omega⟩] at c31
          refine mu_il_2 B dX12_differentBlocks_34 ?_
          refine mu_sipush (v := mI 512) B dX12_differentBlocks_35 (by decide) ?_
          refine mu_il_4 B dX12_differentBlocks_38 ?_
          refine mu_imul B dX12_differentBlocks_40 ?_
          try rw [mI_mul]
          refine mu_iadd B dX12_differentBlocks_41 ?_
          try rw [mI_add]
          refine mu_iconst (v := mI 2) B dX12_differentBlocks_42 rfl ?_
          refine mu_il_5 B dX12_differentBlocks_43 ?_
          refine mu_imul B dX12_differentBlocks_45 ?_
          try rw [mI_mul]
          refine mu_iadd B dX12_differentBlocks_46 ?_
          try rw [mI_add]
          try rw [mI_add]
          rw [show ((65536 * f : Nat) : Int) + 512 * (y : Int) + 2 * (x : Int) = ((65536 * f + 256 * (2 * y) + 2 * x : Nat) : Int) by omega]
          refine mu_is_6 B dX12_differentBlocks_47 (by decide) rfl ?_
          refine mu_al_0 B dX12_differentBlocks_49 ?_
          refine mu_getR B dX12_differentBlocks_50 fX12_62 rfl (by assumption) (by assumption) ?_
          refine mu_sipush (v := mI 128) B dX12_differentBlocks_53 (by decide) ?_
          refine mu_il_4 B dX12_differentBlocks_56 ?_
          refine mu_imul B dX12_differentBlocks_58 ?_
          try rw [mI_mul]
          refine mu_il_5 B dX12_differentBlocks_59 ?_
          refine mu_iadd B dX12_differentBlocks_61 ?_
          try rw [mI_add]
          try rw [mI_add]
          rw [show (128 : Int) * (y : Int) + (x : Int) = ((128 * y + x : Nat) : Int) by omega]
          refine mu_al_0 B dX12_differentBlocks_62 ?_
          refine mu_al_0 B dX12_differentBlocks_63 ?_
          refine mu_getR B dX12_differentBlocks_64 fX12_36 rfl (by assumption) (by assumption) ?_
          refine mu_il_6 B dX12_differentBlocks_67 ?_
          refine mu_bald B dX12_differentBlocks_69 (by assumption) (mI_inN (by omega) (by decide)) ?_
          rw [mI_clampN (by omega), hB1.2.2.2.1 (2 * x) (2 * y) (by omega) (by omega)]
          refine mu_al_0 B dX12_differentBlocks_70 ?_
          refine mu_getR B dX12_differentBlocks_71 fX12_36 rfl (by assumption) (by assumption) ?_
          refine mu_il_6 B dX12_differentBlocks_74 ?_
          refine mu_iconst (v := mI 1) B dX12_differentBlocks_76 rfl ?_
          refine mu_iadd B dX12_differentBlocks_77 ?_
          try rw [mI_add]
          try rw [mI_add]
          rw [show ((65536 * f + 256 * (2 * y) + 2 * x : Nat) : Int) + 1 = ((65536 * f + 256 * (2 * y) + (2 * x + 1) : Nat) : Int) by omega]
          refine mu_bald B dX12_differentBlocks_78 (by assumption) (mI_inN (by omega) (by decide)) ?_
          rw [mI_clampN (by omega), hB1.2.2.2.1 (2 * x + 1) (2 * y) (by omega) (by omega)]
          refine mu_al_0 B dX12_differentBlocks_79 ?_
          refine mu_getR B dX12_differentBlocks_80 fX12_36 rfl (by assumption) (by assumption) ?_
          refine mu_il_6 B dX12_differentBlocks_83 ?_
          refine mu_sipush (v := mI 256) B dX12_differentBlocks_85 (by decide) ?_
          refine mu_iadd B dX12_differentBlocks_88 ?_
          try rw [mI_add]
          try rw [mI_add]
          rw [show ((65536 * f + 256 * (2 * y) + 2 * x : Nat) : Int) + 256 = ((65536 * f + 256 * (2 * y + 1) + 2 * x : Nat) : Int) by omega]
          refine mu_bald B dX12_differentBlocks_89 (by assumption) (mI_inN (by omega) (by decide)) ?_
          rw [mI_clampN (by omega), hB1.2.2.2.1 (2 * x) (2 * y + 1) (by omega) (by omega)]
          refine mu_al_0 B dX12_differentBlocks_90 ?_
          refine mu_getR B dX12_differentBlocks_91 fX12_36 rfl (by assumption) (by assumption) ?_
          refine mu_il_6 B dX12_differentBlocks_94 ?_
          refine mu_sipush (v := mI 256) B dX12_differentBlocks_96 (by decide) ?_
          refine mu_iadd B dX12_differentBlocks_99 ?_
          try rw [mI_add]
          refine mu_iconst (v := mI 1) B dX12_differentBlocks_100 rfl ?_
          refine mu_iadd B dX12_differentBlocks_101 ?_
          try rw [mI_add]
          try rw [mI_add]
          rw [show ((65536 * f + 256 * (2 * y) + 2 * x : Nat) : Int) + 256 + 1 = ((65536 * f + 256 * (2 * y + 1) + (2 * x + 1) : Nat) : Int) by omega]
          refine mu_bald B dX12_differentBlocks_102 (by assumption) (mI_inN (by omega) (by decide)) ?_
          rw [mI_clampN (by omega), hB1.2.2.2.1 (2 * x + 1) (2 * y + 1) (by omega) (by omega)]
          refine mu_cV4 B dX12_differentBlocks_103 mX12_257 ⟨⟨by decide, by decide⟩, by decide, by decide⟩ (Nat.le_of_ble_eq_true rfl) (by assumption) (c_X12_which G hm1 hTB (by omega) hPG.2.2.1 (t := qd (fun a b => c b a) y x) (qd_ok hv0 y x)) (fun r103 w103 q103 => ?_)
          obtain ⟨hFw, k9, rfl, hk9⟩ := q103
          have hk8 : (k9 < D ∧ q k9 = qd (fun a b => c b a) y x) ∨ (k9 = D ∧ ∀ j, j < D → q j ≠ qd (fun a b => c b a) y x) := hk9.elim (fun h => Or.inl ⟨h.1, h.2.1⟩) (fun h => Or.inr ⟨h.1, h.2.1⟩)
          have hTB2 : TBq w103 m (if k9 = D then D + 1 else D) (if k9 = D then rs_up q D (qd (fun a b => c b a) y x) else q) := by
            rcases hk9 with ⟨h1, h2, h3⟩ | ⟨h1, h2, h3⟩
            · rw [if_neg (by omega), if_neg (by omega)]; exact h3
            · rw [if_pos h1, if_pos h1]; exact h3
          have hkD : k9 ≤ D := by omega
          have hFa := hF.trans (wh_db hFw)
          have k29w := (mo_29 (hm.fi hFa)).2
          show mu_WA X G 9 _ w103 0 0 106 _ [.int (mI (k9 : Nat)), .int (mI ((128 * y + x : Nat) : Int)), .ref (m + 17)]
          refine mu_iast B dX12_differentBlocks_106 k29w (mI_inN (by omega) (by decide)) ?_
          rw [mI_clampN (by omega)]
          refine mu_inc_5 (c := mI 1) B dX12_differentBlocks_107 rfl (by decide) rfl ?_
          try rw [mI_add]
          refine mu_goto (tgt := 26) B dX12_differentBlocks_110 (by decide) ?_
          refine mu_fg (ihx (mu_si w103 (m + 17) (128 * y + x) (mI (k9 : Nat)), (if k9 = D then D + 1 else D), (if k9 = D then rs_up q D (qd (fun a b => c b a) y x) else q), cu id y x k9) (by omega) ⟨hFa.si (Or.inr ⟨by omega, by omega⟩), hTB2.oth (by omega), hPG.step (by omega) (qd_ok hv0 y x) hk8, fun i j hj hb => ?_⟩) rfl (by rw [show ((x + 1 : Nat) : Int) = (x : Int) + 1 by omega]; exact ⟨Or.inl rfl, Or.inl rfl, Or.inl rfl, Or.inl rfl, Or.inl rfl, Or.inl rfl, Or.inr rfl, Or.inr rfl, Or.inr rfl, trivial⟩)
          show mu_iv (mu_si w103 (m + 17) (128 * y + x) (mI (k9 : Nat))) (m + 17) (128 * i + j) = mI (((if i = y ∧ j = x then k9 else id i j) : Nat) : Int)
          by_cases e9 : i = y ∧ j = x
          · rw [if_pos e9, e9.1, e9.2, mu_iv_same]
          · rw [if_neg e9, mu_iv_oth _ _ (fun hh => e9 (by have := gs_inj hj (show x < 128 by omega) hh.2; omega))]
            exact hFw.iv (by unfold wh_S; omega) (harr i j hj (by unfold pt_bf at hb ⊢; omega))
      exact mu_fg (L1x 0 (s, D, q, id) (by decide) ⟨hF, hTB, hPG, harr⟩) rfl (⟨Or.inl rfl, Or.inl rfl, Or.inl rfl, Or.inl rfl, Or.inl rfl, Or.inl rfl, Or.inr rfl, Or.inr rfl, Or.inr rfl, trivial⟩)
  show mu_WA X G 9 _ _ 0 0 0 _ []
  refine mu_ldc B kX12_45 dX12_differentBlocks_0 ?_
  refine mu_il_1 B dX12_differentBlocks_2 ?_
  refine mu_imul B dX12_differentBlocks_3 ?_
  try rw [mI_mul]
  try rw [mI_mul]
  rw [show (65536 : Int) * (f : Int) = ((65536 * f : Nat) : Int) by omega]
  refine mu_is_2 B dX12_differentBlocks_4 (by decide) rfl ?_
  refine mu_iconst (v := mI 0) B dX12_differentBlocks_5 rfl ?_
  refine mu_is_3 B dX12_differentBlocks_6 (by decide) rfl ?_
  refine mu_al_0 B dX12_differentBlocks_7 ?_
  refine mu_iconst (v := mI 0) B dX12_differentBlocks_8 rfl ?_
  refine mu_putI B dX12_differentBlocks_9 fX12_254 fwX12_35 rfl (by assumption) ?_
  refine mu_iconst (v := mI 0) B dX12_differentBlocks_12 rfl ?_
  refine mu_is_4 B dX12_differentBlocks_13 (by decide) rfl ?_
  exact mu_fg (L1y 0 (mu_si w m 35 (mI 0), 0, fun _ => (0, 0, 0, 0), fun _ _ => 0) (by decide) ⟨(mu_Fi.refl _).si (Or.inl ⟨rfl, rfl⟩), ⟨mu_iv_same _ _ _ _, fun k hk => absurd hk (Nat.not_lt_zero k)⟩, PGq.start _ _ _ _, fun i j _ hb => absurd hb (by unfold pt_bf; omega)⟩) rfl (⟨Or.inl rfl, Or.inl rfl, Or.inl rfl, Or.inl rfl, Or.inl rfl, Or.inr rfl, Or.inr rfl, Or.inr rfl, Or.inr rfl, trivial⟩)
