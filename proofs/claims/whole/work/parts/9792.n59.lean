/-! ===== the class's balance: solved ===== -/
theorem EQI.zero (r : mu_RS) : EQI r 0 (fun _ _ => 0) := ⟨fun _ _ _ _ _ => rfl, fun _ _ _ _ _ => rfl, fun _ _ => rfl, fun _ _ _ _ => Nat.zero_le _, fun x => ⟨fun _ p _ => sm_zero (fun v _ => Int.zero_mul _), fun _ k hk => absurd hk (Nat.not_lt_zero k)⟩⟩
def slS (a b : Nat) : Nat → Nat → Prop := fun q _ => a + 2 ≤ q ∧ q ≤ a + 6 ∨ q = b
def NHd (row : Nat → Nat → Int) : Nat → Prop := fun p => row p p = 0
theorem RDO.free {r : mu_RS} (hS : 2 ≤ rs_S r ∧ rs_S r ≤ 4) {row : Nat → Nat → Int} (h : RDO r row 0) {l : Nat} (hl : l < rs_S r) : FREE (CW r) l ↔ NHd row l := by
  obtain ⟨g1, g2⟩ := h.red hS.2
  rw [g1.free g2 hl]
  constructor
  · exact fun q => Classical.byContradiction (fun q9 => q ⟨by omega, q9⟩)
  · exact fun q q9 => q9.2 q
theorem RDO.en {r : mu_RS} (hS : 2 ≤ rs_S r ∧ rs_S r ≤ 4) {row : Nat → Nat → Int} (h : RDO r row 0) {l : Nat} (hl : l ≤ rs_S r) : en_c (FREE (CW r)) l = en_c (NHd row) l := en_ext (fun v hv => h.free hS (by omega))
theorem RDO.wtv {r : mu_RS} (hS : 2 ≤ rs_S r ∧ rs_S r ≤ 4) {row : Nat → Nat → Int} (h : RDO r row 0) {k : Nat} (hk : k < en_c (NHd row) (rs_S r)) : ∃ l, l < rs_S r ∧ NHd row l ∧ en_c (NHd row) l = k ∧ ∀ x v, BAS (rs_S r) (CW r) l x → WTv r k v (x v) := by
  obtain ⟨l, h1, h2, h3⟩ := en_onto hk
  exact ⟨l, h1, h2, h3, fun x v hx => Or.inl ⟨l, x, h1, (h.free hS h1).mpr h2, by rw [h.en hS (by omega)]; exact h3, hx, rfl⟩⟩

set_option maxHeartbeats 4000000 in
set_option maxRecDepth 100000 in
theorem c_X0_solve (G : mu_G) {w : mu_W} {a b bc : Nat} (ho : CBo w a) {ru : mu_RS} (hS : 2 ≤ rs_S ru ∧ rs_S ru ≤ 4) (kc : mu_kd w bc = some (100, rs_N ru)) (hbc : ∀ k, k < rs_N ru → mu_iv w bc k = mI (rs_be ru k)) (hbl : ∀ k, k < rs_N ru → rs_be ru k < rs_N ru) (kb : mu_kd w b = some (100, rs_S ru * rs_S ru)) (hne : bc ≠ b) : mu_Ct G M_X0_solve [.ref a, .ref bc, .int (mI ((rs_S ru : Nat) : Int)), .ref b] w (fun r9 w' => ∃ D : Nat, r9 = some (.int (mI (D : Nat))) ∧ D ≤ rs_S ru ∧ WTn ru D ∧ mu_Fi (slS a b) w w' ∧ ∀ k v, k < D → v < rs_S ru → ∃ x, WTv ru k v x ∧ mu_iv w' b (k * rs_S ru + v) = mI x) := by
  obtain ⟨ka, r0, k1, hrw, r1, k6⟩ := id ho
  have hSS : rs_S ru * rs_S ru ≤ 16 := Nat.mul_le_mul hS.2 hS.2
  have hNN : rs_N ru ≤ 256 := by unfold rs_N; exact Nat.mul_le_mul (Nat.mul_le_mul (Nat.mul_le_mul hS.2 hS.2) hS.2) hS.2
  have hb6 : b ≠ a + 6 := fun e => by rw [e, k6] at kb; cases kb
  have hbe : ∀ z, z < 4 → b ≠ a + 2 + z := fun z hz e => by rw [e, (hrw z hz).2] at kb; cases kb
  have hcn : ∀ {j : Nat}, ¬ slS a b bc j := fun hh => by
    rcases hh with hh | hh
    · by_cases e9 : bc = a + 6
      · rw [e9, k6] at kc; cases kc
      · have := (hrw (bc - (a + 2)) (by omega)).2
        rw [show a + 2 + (bc - (a + 2)) = bc by omega, kc] at this; cases this
    · exact hne hh
  refine mu_ofWA G M_X0_solve [.ref a, .ref bc, .int (mI ((rs_S ru : Nat) : Int)), .ref b, mu_no, mu_no] (by decide) rfl (Nat.le_of_ble_eq_true rfl) ?_
  intro X E
  have B : mu_B X G cX0_solve RX0 6 (mu_rm M_X0_solve) := E.1
  have LCx : ∀ (row : Nat → Nat → Int) (s0 : mu_W), RDO ru row 0 → mu_Fi (slS a b) w s0 → EQw s0 a row → mu_WA X G 6 (mu_Q X G M_X0_solve (fun r9 w' => ∃ D : Nat, r9 = some (.int (mI (D : Nat))) ∧ D ≤ rs_S ru ∧ WTn ru D ∧ mu_Fi (slS a b) w w' ∧ ∀ k v, k < D → v < rs_S ru → ∃ x, WTv ru k v x ∧ mu_iv w' b (k * rs_S ru + v) = mI x)) s0 0 0 104 [.ref a, .ref bc, .int (mI ((rs_S ru : Nat) : Int)), .ref b, .int (mI ((0 : Nat) : Int)), .int (mI ((0 : Nat) : Int))] [] := by
    intro row s0 hO hF0 hq0
    have hb62 : ∀ q c, q < 4 → c < 4 → (row q c).natAbs ≤ 8388608 := fun q c h1 h2 => Nat.le_trans (hO.bd q c h1 h2) (bR_all q h1 0 (by decide))
    have LC : ∀ l (s : mu_W), l ≤ rs_S ru → (mu_Fi (slS a b) w s ∧ EQw s a row ∧ ∀ l', l' < l → NHd row l' → ∃ x, BAS (rs_S ru) (CW ru) l' x ∧ ∀ v, v < rs_S ru → mu_iv s b (en_c (NHd row) l' * rs_S ru + v) = mI (x v)) → mu_WA X G 6 (mu_Q X G M_X0_solve (fun r9 w' => ∃ D : Nat, r9 = some (.int (mI (D : Nat))) ∧ D ≤ rs_S ru ∧ WTn ru D ∧ mu_Fi (slS a b) w w' ∧ ∀ k v, k < D → v < rs_S ru → ∃ x, WTv ru k v x ∧ mu_iv w' b (k * rs_S ru + v) = mI x)) s 0 0 104 [.ref a, .ref bc, .int (mI ((rs_S ru : Nat) : Int)), .ref b, .int (mI ((en_c (NHd row) l : Nat) : Int)), .int (mI l)] [] := by
      refine mu_ind (rs_S ru) (fun l (s : mu_W) => mu_WA X G 6 (mu_Q X G M_X0_solve (fun r9 w' => ∃ D : Nat, r9 = some (.int (mI (D : Nat))) ∧ D ≤ rs_S ru ∧ WTn ru D ∧ mu_Fi (slS a b) w w' ∧ ∀ k v, k < D → v < rs_S ru → ∃ x, WTv ru k v x ∧ mu_iv w' b (k * rs_S ru + v) = mI x)) s 0 0 104 [.ref a, .ref bc, .int (mI ((rs_S ru : Nat) : Int)), .ref b, .int (mI ((en_c (NHd row) l : Nat) : Int)), .int (mI l)] []) (fun l (s : mu_W) => mu_Fi (slS a b) w s ∧ EQw s a row ∧ ∀ l', l' < l → NHd row l' → ∃ x, BAS (rs_S ru) (CW ru) l' x ∧ ∀ v, v < rs_S ru → mu_iv s b (en_c (NHd row) l' * rs_S ru + v) = mI (x v)) ?_
      intro l s hl ⟨hFs, hqs, hrow⟩ ih
      refine mu_il_5 B dX0_solve_104 ?_
      refine mu_il_2 B dX0_solve_106 ?_
      refine mu_icmp_ge (tgt := 140) B dX0_solve_107 (by decide) (fun c107 => ?_) (fun c107 => ?_)
      · try rw [mI_le ⟨by omega, by omega⟩ ⟨by omega, by omega⟩] at c107
        try rw [mI_le ⟨by omega, by omega⟩ ⟨by omega, by omega⟩] at c107
        obtain rfl : rs_S ru = l := by omega
        refine mu_il_4 B dX0_solve_140 ?_
        refine mu_iret E rfl (by decide) (by decide) dX0_solve_142 ?_
        refine ⟨en_c (NHd row) (rs_S ru), rfl, en_le _ _, (hO.en hS (Nat.le_refl _)).symm, hFs, fun k v hk hv => ?_⟩
        obtain ⟨l, l1, l2, l3, l4⟩ := hO.wtv hS hk
        obtain ⟨x, x1, x2⟩ := hrow l l1 l2
        refine ⟨x v, l4 x v x1, ?_⟩
        rw [← l3]
        exact x2 v hv
      · try rw [mI_le ⟨by omega, by omega⟩ ⟨by omega, by omega⟩] at c107
        have hel := en_le (NHd row) l
        have hll := hb62 l l (by omega) (by omega)
        have hes : (en_c (NHd row) l + 1) * rs_S ru ≤ rs_S ru * rs_S ru := Nat.mul_le_mul_right _ (by omega)
        rw [Nat.succ_mul] at hes
        refine mu_al_0 B dX0_solve_110 ?_
        refine mu_il_5 B dX0_solve_111 ?_
        refine mu_eV1 B dX0_solve_113 mX0_35 ⟨⟨by decide, by decide⟩, by decide, by decide⟩ (Nat.le_of_ble_eq_true rfl) (hFs.kd ka) (c_X0_isHeld G (ho.fi hFs) hqs (p := l) (by omega) (by omega)) ?_
        refine mu_if_ne (tgt := 134) B dX0_solve_116 (by decide) (fun c116 => ?_) (fun c116 => ?_)
        · have hheld : ¬ NHd row l := fun q9 => by rw [if_pos (show row l l = 0 from q9)] at c116; exact c116 rfl
          refine mu_inc_5 (c := mI 1) B dX0_solve_134 rfl (by decide) rfl ?_
          try rw [mI_add]
          refine mu_goto (tgt := 104) B dX0_solve_137 (by decide) ?_
          first
            | (refine mu_to (ih w128 (by omega) ⟨hFs.trans (hF1.mono (fun x j hh => hh.elim (fun h9 => Or.inl ⟨by omega, by omega⟩) (fun h9 => Or.inr h9.1))), hqs.fi hF1 (fun z j hz hh => ?_), fun l' h1 h2 => ?_⟩) rfl (by rw [en_pos hheld, show ((en_c (NHd row) l + 1 : Nat) : Int) = (en_c (NHd row) l : Int) + 1 by omega, show ((l + 1 : Nat) : Int) = (l : Int) + 1 by omega])
               · have := hbe z hz; rcases hh with hh | hh <;> omega
               · by_cases e9 : l' = l
                 · rw [e9]
                   exact ⟨_, hO.bas hS (by omega) hheld, hL1⟩
                 · obtain ⟨x, x1, x2⟩ := hrow l' (by omega) h2
                   refine ⟨x, x1, fun v hv => ?_⟩
                   have h3 := en_lt (show l' < l by omega) h2
                   have h4 : (en_c (NHd row) l' + 1) * rs_S ru ≤ en_c (NHd row) l * rs_S ru := Nat.mul_le_mul_right _ h3
                   rw [Nat.succ_mul] at h4
                   exact hF1.iv (fun hh => by rcases hh with hh | hh <;> omega) (x2 v hv))
            | (refine mu_to (ih s (by omega) ⟨hFs, hqs, fun l' h1 h2 => ?_⟩) rfl (by rw [en_neg hheld, show ((l + 1 : Nat) : Int) = (l : Int) + 1 by omega])
               by_cases e9 : l' = l
               · rw [e9] at h2; exact absurd h2 hheld
               · exact hrow l' (by omega) h2)
        · have hheld : NHd row l := Classical.byContradiction (fun q9 => by rw [if_neg (show ¬ row l l = 0 from q9)] at c116; exact absurd c116 (by decide))
          refine mu_al_0 B dX0_solve_119 ?_
          refine mu_il_5 B dX0_solve_120 ?_
          refine mu_il_2 B dX0_solve_122 ?_
          refine mu_al_3 B dX0_solve_123 ?_
          refine mu_il_4 B dX0_solve_124 ?_
          refine mu_il_2 B dX0_solve_126 ?_
          refine mu_imul B dX0_solve_127 ?_
          try rw [mI_mul]
          rw [show ((en_c (NHd row) l : Nat) : Int) * ((rs_S ru : Nat) : Int) = ((en_c (NHd row) l * rs_S ru : Nat) : Int) from (Int.natCast_mul _ _).symm]
          refine mu_cV4 B dX0_solve_128 mX0_39 ⟨⟨by decide, by decide⟩, by decide, by decide⟩ (Nat.le_of_ble_eq_true rfl) (hFs.kd ka) (c_X0_writeRow G (ho.fi hFs) hS hO hqs (l := l) (by omega) (hFs.kd kb) (fr := en_c (NHd row) l * rs_S ru) (by omega) (by omega) rfl) (fun r128 w128 q128 => ?_)
          obtain ⟨rfl, hF1, hL1⟩ := q128
          refine mu_inc_4 (c := mI 1) B dX0_solve_131 rfl (by decide) rfl ?_
          try rw [mI_add]
          refine mu_inc_5 (c := mI 1) B dX0_solve_134 rfl (by decide) rfl ?_
          try rw [mI_add]
          refine mu_goto (tgt := 104) B dX0_solve_137 (by decide) ?_
          first
            | (refine mu_to (ih w128 (by omega) ⟨hFs.trans (hF1.mono (fun x j hh => hh.elim (fun h9 => Or.inl ⟨by omega, by omega⟩) (fun h9 => Or.inr h9.1))), hqs.fi hF1 (fun z j hz hh => ?_), fun l' h1 h2 => ?_⟩) rfl (by rw [en_pos hheld, show ((en_c (NHd row) l + 1 : Nat) : Int) = (en_c (NHd row) l : Int) + 1 by omega, show ((l + 1 : Nat) : Int) = (l : Int) + 1 by omega])
               · have := hbe z hz; rcases hh with hh | hh <;> omega
               · by_cases e9 : l' = l
                 · rw [e9]
                   exact ⟨_, hO.bas hS (by omega) hheld, hL1⟩
                 · obtain ⟨x, x1, x2⟩ := hrow l' (by omega) h2
                   refine ⟨x, x1, fun v hv => ?_⟩
                   have h3 := en_lt (show l' < l by omega) h2
                   have h4 : (en_c (NHd row) l' + 1) * rs_S ru ≤ en_c (NHd row) l * rs_S ru := Nat.mul_le_mul_right _ h3
                   rw [Nat.succ_mul] at h4
                   exact hF1.iv (fun hh => by rcases hh with hh | hh <;> omega) (x2 v hv))
            | (refine mu_to (ih s (by omega) ⟨hFs, hqs, fun l' h1 h2 => ?_⟩) rfl (by rw [en_neg hheld, show ((l + 1 : Nat) : Int) = (l : Int) + 1 by omega])
               by_cases e9 : l' = l
               · rw [e9] at h2; exact absurd h2 hheld
               · exact hrow l' (by omega) h2)
    exact LC 0 s0 (Nat.zero_le _) ⟨hF0, hq0, fun l' h1 => absurd h1 (Nat.not_lt_zero l')⟩
  have LB : ∀ n (s : mu_W), n ≤ rs_N ru → (mu_Fi (slS a b) w s ∧ ∃ row, EQI ru n row ∧ EQw s a row) → mu_WA X G 6 (mu_Q X G M_X0_solve (fun r9 w' => ∃ D : Nat, r9 = some (.int (mI (D : Nat))) ∧ D ≤ rs_S ru ∧ WTn ru D ∧ mu_Fi (slS a b) w w' ∧ ∀ k v, k < D → v < rs_S ru → ∃ x, WTv ru k v x ∧ mu_iv w' b (k * rs_S ru + v) = mI x)) s 0 0 49 [.ref a, .ref bc, .int (mI ((rs_S ru : Nat) : Int)), .ref b, .int (mI n), mu_no] [] := by
    refine mu_ind (rs_N ru) (fun n (s : mu_W) => mu_WA X G 6 (mu_Q X G M_X0_solve (fun r9 w' => ∃ D : Nat, r9 = some (.int (mI (D : Nat))) ∧ D ≤ rs_S ru ∧ WTn ru D ∧ mu_Fi (slS a b) w w' ∧ ∀ k v, k < D → v < rs_S ru → ∃ x, WTv ru k v x ∧ mu_iv w' b (k * rs_S ru + v) = mI x)) s 0 0 49 [.ref a, .ref bc, .int (mI ((rs_S ru : Nat) : Int)), .ref b, .int (mI n), mu_no] []) (fun n (s : mu_W) => mu_Fi (slS a b) w s ∧ ∃ row, EQI ru n row ∧ EQw s a row) ?_
    intro n s hn ⟨hFs, row, hQ, hqs⟩ ih
    refine mu_il_4 B dX0_solve_49 ?_
    refine mu_al_1 B dX0_solve_51 ?_
    refine mu_len (ka := 0) B dX0_solve_52 (hFs.kd kc) (by decide) ?_
    refine mu_icmp_ge (tgt := 93) B dX0_solve_53 (by decide) (fun c53 => ?_) (fun c53 => ?_)
    · try rw [mI_le ⟨by omega, by omega⟩ ⟨by omega, by omega⟩] at c53
      try rw [mI_le ⟨by omega, by omega⟩ ⟨by omega, by omega⟩] at c53
      obtain rfl : rs_N ru = n := by omega
      refine mu_al_0 B dX0_solve_93 ?_
      refine mu_il_2 B dX0_solve_94 ?_
      refine mu_cV1 B dX0_solve_95 mX0_32 ⟨⟨by decide, by decide⟩, by decide, by decide⟩ (Nat.le_of_ble_eq_true rfl) (hFs.kd ka) (c_X0_reduce G (ho.fi hFs) hS hQ hqs) (fun r95 w95 q95 => ?_)
      obtain ⟨rfl, hF1, row', hO', hq'⟩ := q95
      refine mu_iconst (v := mI 0) B dX0_solve_98 rfl ?_
      refine mu_is_4 B dX0_solve_99 (by decide) rfl ?_
      refine mu_iconst (v := mI 0) B dX0_solve_101 rfl ?_
      refine mu_is_5 B dX0_solve_102 (by decide) rfl ?_
      exact LCx row' _ hO' (hFs.trans (hF1.mono (fun x j hh => Or.inl hh))) hq'
    · try rw [mI_le ⟨by omega, by omega⟩ ⟨by omega, by omega⟩] at c53
      refine mu_al_0 B dX0_solve_56 ?_
      refine mu_getR B dX0_solve_57 fX0_14 rfl (hFs.kd ka) (hFs.rv r1) ?_
      refine mu_lconst (v := mL 0) B dX0_solve_60 rfl ?_
      refine mu_cS2 B dX0_solve_61 mX0_18 ⟨⟨by decide, by decide⟩, by decide, by decide⟩ (Nat.le_of_ble_eq_true rfl) (c_J7_fillL G (N := 4) (hFs.kd k6) (by decide)) (fun r61 w61 q61 => ?_)
      obtain ⟨rfl, hF1, hz1⟩ := q61
      have hG1 := hFs.trans (hF1.mono (fun x j (hh : x = a + 6) => (Or.inl ⟨by omega, by omega⟩ : slS a b x j)))
      have hL0 : LR w61 (a + 6) 0 4 (fun _ => 0) := fun c hc => by rw [Nat.zero_add, hz1 c hc]
      refine mu_al_0 B dX0_solve_64 ?_
      refine mu_il_4 B dX0_solve_65 ?_
      refine mu_il_2 B dX0_solve_67 ?_
      refine mu_iconst (v := mI 1) B dX0_solve_68 rfl ?_
      refine mu_cV3 B dX0_solve_69 mX0_24 ⟨⟨by decide, by decide⟩, by decide, by decide⟩ (Nat.le_of_ble_eq_true rfl) (hG1.kd ka) (c_X0_tallyStates G (ho.fi hG1) hS (n := n) (by omega) (by_ := 1) (Or.inl rfl) hL0) (fun r69 w69 q69 => ?_)
      obtain ⟨rfl, hF2, hL2⟩ := q69
      have hG2 := hG1.trans (hF2.mono (fun x j hh => (Or.inl ⟨by have := hh.1; omega, by have := hh.1; omega⟩ : slS a b x j)))
      refine mu_al_0 B dX0_solve_72 ?_
      refine mu_al_1 B dX0_solve_73 ?_
      refine mu_il_4 B dX0_solve_74 ?_
      refine mu_iald B dX0_solve_76 (hG2.kd kc) (mI_inN (by omega) (by omega)) ?_
      rw [mI_clampN (by omega), hG2.iv (fun hh => hcn hh) (hbc n (by omega))]
      refine mu_il_2 B dX0_solve_77 ?_
      refine mu_iconst (v := mI (-1)) B dX0_solve_78 rfl ?_
      refine mu_cV3 B dX0_solve_79 mX0_24 ⟨⟨by decide, by decide⟩, by decide, by decide⟩ (Nat.le_of_ble_eq_true rfl) (hG2.kd ka) (c_X0_tallyStates G (ho.fi hG2) hS (n := rs_be ru n) (by have := hbl n (by omega); omega) (by_ := -1) (Or.inr rfl) hL2) (fun r79 w79 q79 => ?_)
      obtain ⟨rfl, hF3, hL3⟩ := q79
      have hG3 := hG2.trans (hF3.mono (fun x j hh => (Or.inl ⟨by have := hh.1; omega, by have := hh.1; omega⟩ : slS a b x j)))
      have hL4 : LR w79 (a + 6) 0 4 (be_e ru n) := fun c hc => (hL3 c hc).trans (congrArg mL (by show 0 + 1 * ((bn (rs_S ru) n c : Nat) : Int) + -1 * ((bn (rs_S ru) (rs_be ru n) c : Nat) : Int) = be_e ru n c; unfold be_e; omega))
      have hqs3 : EQw w79 a row := ((hqs.fi hF1 (fun p j hp hh => by omega)).fi hF2 (fun p j hp hh => by have := hh.1; omega)).fi hF3 (fun p j hp hh => by have := hh.1; omega)
      refine mu_al_0 B dX0_solve_82 ?_
      refine mu_il_2 B dX0_solve_83 ?_
      refine mu_cV1 B dX0_solve_84 mX0_28 ⟨⟨by decide, by decide⟩, by decide, by decide⟩ (Nat.le_of_ble_eq_true rfl) (hG3.kd ka) (c_X0_demand G (ho.fi hG3) hS hQ hqs3 hL4) (fun r84 w84 q84 => ?_)
      obtain ⟨rfl, hF4, row', hQ', hq'⟩ := q84
      refine mu_inc_4 (c := mI 1) B dX0_solve_87 rfl (by decide) rfl ?_
      try rw [mI_add]
      refine mu_goto (tgt := 49) B dX0_solve_90 (by decide) ?_
      exact mu_to (ih _ (by omega) ⟨hG3.trans (hF4.mono (fun x j hh => Or.inl hh)), row', hQ', hq'⟩) rfl (by rw [show ((n + 1 : Nat) : Int) = (n : Int) + 1 by omega])
  have LA : ∀ p (s : mu_W), p ≤ (4 : Nat) → (mu_Fi (slS a b) w s ∧ ∀ z, z < p → LR s (a + 2 + z) 0 4 (fun _ => 0)) → mu_WA X G 6 (mu_Q X G M_X0_solve (fun r9 w' => ∃ D : Nat, r9 = some (.int (mI (D : Nat))) ∧ D ≤ rs_S ru ∧ WTn ru D ∧ mu_Fi (slS a b) w w' ∧ ∀ k v, k < D → v < rs_S ru → ∃ x, WTv ru k v x ∧ mu_iv w' b (k * rs_S ru + v) = mI x)) s 0 0 23 [.ref a, .ref bc, .int (mI ((rs_S ru : Nat) : Int)), .ref b, .int (mI p), mu_no] [] := by
    refine mu_ind ((4 : Nat)) (fun p (s : mu_W) => mu_WA X G 6 (mu_Q X G M_X0_solve (fun r9 w' => ∃ D : Nat, r9 = some (.int (mI (D : Nat))) ∧ D ≤ rs_S ru ∧ WTn ru D ∧ mu_Fi (slS a b) w w' ∧ ∀ k v, k < D → v < rs_S ru → ∃ x, WTv ru k v x ∧ mu_iv w' b (k * rs_S ru + v) = mI x)) s 0 0 23 [.ref a, .ref bc, .int (mI ((rs_S ru : Nat) : Int)), .ref b, .int (mI p), mu_no] []) (fun p (s : mu_W) => mu_Fi (slS a b) w s ∧ ∀ z, z < p → LR s (a + 2 + z) 0 4 (fun _ => 0)) ?_
    intro p s hp ⟨hFs, hz⟩ ih
    refine mu_il_4 B dX0_solve_23 ?_
    refine mu_iconst (v := mI 4) B dX0_solve_25 rfl ?_
    refine mu_icmp_ge (tgt := 46) B dX0_solve_26 (by decide) (fun c26 => ?_) (fun c26 => ?_)
    · try rw [mI_le ⟨by omega, by omega⟩ ⟨by omega, by omega⟩] at c26
      try rw [mI_le ⟨by omega, by omega⟩ ⟨by omega, by omega⟩] at c26
      obtain rfl : 4 = p := by omega
      refine mu_iconst (v := mI 0) B dX0_solve_46 rfl ?_
      refine mu_is_4 B dX0_solve_47 (by decide) rfl ?_
      exact LB 0 s (Nat.zero_le _) ⟨hFs, fun _ _ => 0, EQI.zero ru, hz⟩
    · try rw [mI_le ⟨by omega, by omega⟩ ⟨by omega, by omega⟩] at c26
      refine mu_al_0 B dX0_solve_29 ?_
      refine mu_getR B dX0_solve_30 fX0_11 rfl (hFs.kd ka) (hFs.rv r0) ?_
      refine mu_il_4 B dX0_solve_33 ?_
      refine mu_aald B dX0_solve_35 (hFs.kd k1) (by simp) (mI_inN (by omega) (by decide)) (by rw [mI_clampN (by omega)]; exact hFs.rv (hrw p (by omega)).1) ?_
      refine mu_lconst (v := mL 0) B dX0_solve_36 rfl ?_
      refine mu_cS2 B dX0_solve_37 mX0_18 ⟨⟨by decide, by decide⟩, by decide, by decide⟩ (Nat.le_of_ble_eq_true rfl) (c_J7_fillL G (N := 4) (hFs.kd (hrw p (by omega)).2) (by decide)) (fun r37 w37 q37 => ?_)
      obtain ⟨rfl, hF1, hz1⟩ := q37
      refine mu_inc_4 (c := mI 1) B dX0_solve_40 rfl (by decide) rfl ?_
      try rw [mI_add]
      refine mu_goto (tgt := 23) B dX0_solve_43 (by decide) ?_
      refine mu_to (ih w37 (by omega) ⟨hFs.trans (hF1.mono (fun x j hh => Or.inl ⟨by omega, by omega⟩)), fun z hz9 c hc => ?_⟩) rfl (by rw [show ((p + 1 : Nat) : Int) = (p : Int) + 1 by omega])
      by_cases e9 : z = p
      · rw [e9, Nat.zero_add, hz1 c hc]
      · exact (hz z (by omega)).fi hF1 (fun j _ _ hh => by omega) c hc
  show mu_WA X G 6 _ _ 0 0 0 _ []
  refine mu_il_2 B dX0_solve_0 ?_
  refine mu_iconst (v := mI 2) B dX0_solve_1 rfl ?_
  refine mu_icmp_lt (tgt := 18) B dX0_solve_2 (by decide) (fun c2 => ?_) (fun c2 => ?_)
  · try rw [mI_lt ⟨by omega, by omega⟩ ⟨by omega, by omega⟩] at c2
    exfalso
    omega
  · try rw [mI_lt ⟨by omega, by omega⟩ ⟨by omega, by omega⟩] at c2
    refine mu_il_2 B dX0_solve_5 ?_
    refine mu_iconst (v := mI 4) B dX0_solve_6 rfl ?_
    refine mu_icmp_gt (tgt := 18) B dX0_solve_7 (by decide) (fun c7 => ?_) (fun c7 => ?_)
    · try rw [mI_lt ⟨by omega, by omega⟩ ⟨by omega, by omega⟩] at c7
      exfalso
      omega
    · try rw [mI_lt ⟨by omega, by omega⟩ ⟨by omega, by omega⟩] at c7
      refine mu_al_3 B dX0_solve_10 ?_
      refine mu_len (ka := 0) B dX0_solve_11 (by exact kb) (by decide) ?_
      refine mu_il_2 B dX0_solve_12 ?_
      refine mu_il_2 B dX0_solve_13 ?_
      refine mu_imul B dX0_solve_14 ?_
      try rw [mI_mul]
      rw [show ((rs_S ru : Nat) : Int) * ((rs_S ru : Nat) : Int) = ((rs_S ru * rs_S ru : Nat) : Int) from (Int.natCast_mul _ _).symm]
      refine mu_icmp_ge (tgt := 20) B dX0_solve_15 (by decide) (fun c15 => ?_) (fun c15 => ?_)
      · try rw [mI_le ⟨by omega, by omega⟩ ⟨by omega, by omega⟩] at c15
        refine mu_iconst (v := mI 0) B dX0_solve_20 rfl ?_
        refine mu_is_4 B dX0_solve_21 (by decide) rfl ?_
        exact LA 0 w (by decide) ⟨mu_Fi.refl _, fun z hz => absurd hz (Nat.not_lt_zero z)⟩
      · try rw [mI_le ⟨by omega, by omega⟩ ⟨by omega, by omega⟩] at c15
        exfalso
        omega

set_option maxHeartbeats 4000000 in
set_option maxRecDepth 100000 in
theorem c_X0_solve0 (G : mu_G) {w : mu_W} {a b bc : Nat} : mu_Ct G M_X0_solve [.ref a, .ref bc, .int (mI 0), .ref b] w (fun r9 w' => r9 = some (.int (mI 0)) ∧ w' = w) := by
  refine mu_ofWA G M_X0_solve [.ref a, .ref bc, .int (mI 0), .ref b, mu_no, mu_no] (by decide) rfl (Nat.le_of_ble_eq_true rfl) ?_
  intro X E
  have B : mu_B X G cX0_solve RX0 6 (mu_rm M_X0_solve) := E.1
  show mu_WA X G 6 _ _ 0 0 0 _ []
  refine mu_il_2 B dX0_solve_0 ?_
  refine mu_iconst (v := mI 2) B dX0_solve_1 rfl ?_
  refine mu_icmp_lt (tgt := 18) B dX0_solve_2 (by decide) (fun c2 => ?_) (fun c2 => ?_)
  · try rw [mI_lt ⟨by omega, by omega⟩ ⟨by omega, by omega⟩] at c2
    refine mu_iconst (v := mI 0) B dX0_solve_18 rfl ?_
    refine mu_iret E rfl (by decide) (by decide) dX0_solve_19 ?_
    exact ⟨rfl, rfl⟩
  · try rw [mI_lt ⟨by omega, by omega⟩ ⟨by omega, by omega⟩] at c2
    exfalso
    omega
