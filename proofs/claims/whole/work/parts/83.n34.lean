/-! ===== the class's searches: cells after a step ===== -/
def CLb (Kc bits : Nat) (c : mu_CL) : Prop := Kc ≤ 64 ∧ (1 ≤ bits ∧ bits ≤ 16) ∧ ∀ k, k < Kc → cl_o c k < 65536 ∧ cl_n c k < 65536 ∧ cl_d c k ≤ 3
def CSd (w : mu_W) (a Kc bits bo st : Nat) (c : mu_CL) : Prop := mu_iv w a 3 = mI Kc ∧ mu_iv w a 6 = mI bits ∧ mu_iv w a 7 = mI bo ∧ mu_iv w a 8 = mI st ∧ ∀ k, k < Kc → mu_iv w (a + 1) k = mI (cl_o c k) ∧ mu_iv w (a + 2) k = mI (cl_n c k) ∧ mu_iv w (a + 3) k = mI (cl_d c k)
theorem CSd.fi {S : Nat → Nat → Prop} {w w' : mu_W} {a Kc bits bo st : Nat} {c : mu_CL} (h : CSd w a Kc bits bo st c) (hF : mu_Fi S w w') (h0 : ∀ j, j = 3 ∨ (6 ≤ j ∧ j ≤ 8) → ¬ S a j) (h1 : ∀ e j, a + 1 ≤ e → e ≤ a + 3 → ¬ S e j) : CSd w' a Kc bits bo st c := ⟨hF.iv (h0 3 (by decide)) h.1, hF.iv (h0 6 (by decide)) h.2.1, hF.iv (h0 7 (by decide)) h.2.2.1, hF.iv (h0 8 (by decide)) h.2.2.2.1, fun k hk => ⟨hF.iv (h1 _ _ (by omega) (by omega)) (h.2.2.2.2 k hk).1, hF.iv (h1 _ _ (by omega) (by omega)) (h.2.2.2.2 k hk).2.1, hF.iv (h1 _ _ (by omega) (by omega)) (h.2.2.2.2 k hk).2.2⟩⟩
/-- the cells sorted by their lowest bit -/
def CSs (w : mu_W) (a Kc bits : Nat) (c : mu_CL) (sb od : Nat → Nat) : Prop := (∀ b, b ≤ bits → mu_iv w (a + 5) b = mI (sb b)) ∧ (∀ s, s < sb bits → mu_iv w (a + 4) s = mI (od s)) ∧ (∀ b, b ≤ bits → sb b ≤ sb bits ∧ sb bits ≤ 64) ∧
  (∀ b k, b < bits → k < Kc → cl_d c k ≠ 3 → LW (cl_o c k ||| cl_n c k) b → ∃ s, sb b ≤ s ∧ s < sb (b + 1) ∧ od s = k) ∧ ∀ b s, b < bits → sb b ≤ s → s < sb (b + 1) → od s < Kc ∧ cl_d c (od s) ≠ 3 ∧ LW (cl_o c (od s) ||| cl_n c (od s)) b
theorem CSs.fi {S : Nat → Nat → Prop} {w w' : mu_W} {a Kc bits : Nat} {c : mu_CL} {sb od : Nat → Nat} (h : CSs w a Kc bits c sb od) (hF : mu_Fi S w w') (h4 : ∀ j, ¬ S (a + 4) j) (h5 : ∀ j, ¬ S (a + 5) j) : CSs w' a Kc bits c sb od := ⟨fun b hb => hF.iv (h5 _) (h.1 b hb), fun s hs => hF.iv (h4 _) (h.2.1 s hs), h.2.2⟩
theorem nx_num (b q : Nat) : mI ((b : Int) / 2 ^ q % 2 ^ 1) = mI ((b / 2 ^ q % 2 : Nat) : Int) := by
  rw [Int.natCast_emod, Int.natCast_ediv, Int.natCast_pow]; rfl
theorem nxc_le (bo st ow ne p : Nat) : nxc bo st ow ne p ≤ 1 := by unfold nxc; omega

set_option maxHeartbeats 4000000 in
set_option maxRecDepth 100000 in
theorem c_X7_nextOf (G : mu_G) {w : mu_W} {a : Nat} (ho : CSo w a) {Kc bits bo st : Nat} {c : mu_CL} (hd : CSd w a Kc bits bo st c) (hcb : CLb Kc bits c) (hbo : bo ≤ 1000000) (hst : st ≤ 1000000) {k p : Nat} (hk : k < Kc) (hp : p < 65536) : mu_Ct G M_X7_nextOf [.ref a, .int (mI k), .int (mI p)] w (fun r w' => r = some (.int (mI (nxc bo st (cl_o c k) (cl_n c k) p : Nat))) ∧ w' = w) := by
  obtain ⟨ka, ⟨r0, k1⟩, ⟨r1, k2⟩, ⟨r2, k3⟩, ⟨r4, k4⟩, ⟨r5, k5⟩, ⟨r9, k6⟩, ⟨r10, k7⟩⟩ := id ho
  have hcb1 := hcb.1
  have hck := hcb.2.2 k hk
  refine mu_ofWA G M_X7_nextOf [.ref a, .int (mI k), .int (mI p), mu_no] (by decide) rfl (Nat.le_of_ble_eq_true rfl) ?_
  intro X E
  have B : mu_B X G cX7_nextOf RX7 4 (mu_rm M_X7_nextOf) := E.1
  show mu_WA X G 4 _ _ 0 0 0 _ []
  refine mu_il_1 B dX7_nextOf_0 ?_
  refine mu_if_lt (tgt := 10) B dX7_nextOf_1 (by decide) (fun c1 => ?_) (fun c1 => ?_)
  · try rw [mI_lt0 ⟨by omega, by omega⟩] at c1
    exfalso
    omega
  · try rw [mI_lt0 ⟨by omega, by omega⟩] at c1
    refine mu_il_1 B dX7_nextOf_4 ?_
    refine mu_bipush (v := mI 64) B dX7_nextOf_5 (by decide) ?_
    refine mu_icmp_lt (tgt := 12) B dX7_nextOf_7 (by decide) (fun c7 => ?_) (fun c7 => ?_)
    · try rw [mI_lt ⟨by omega, by omega⟩ ⟨by omega, by omega⟩] at c7
      refine mu_il_2 B dX7_nextOf_12 ?_
      refine mu_al_0 B dX7_nextOf_13 ?_
      refine mu_getR B dX7_nextOf_14 fX7_11 rfl (by assumption) (by assumption) ?_
      refine mu_il_1 B dX7_nextOf_17 ?_
      refine mu_iald B dX7_nextOf_18 (by assumption) (mI_inN (by omega) (by decide)) ?_
      rw [mI_clampN (by omega), (hd.2.2.2.2 k hk).1]
      refine mu_iand B dX7_nextOf_19 ?_
      rw [mI_andN _ _ (by omega) (by omega)]
      have hal : p &&& cl_o c k ≤ p := Nat.and_le_left
      refine mu_if_eq (tgt := 30) B dX7_nextOf_20 (by decide) (fun c20 => ?_) (fun c20 => ?_)
      · try rw [mI_eq0 ⟨by omega, by omega⟩] at c20
        refine mu_al_0 B dX7_nextOf_30 ?_
        refine mu_getI B dX7_nextOf_31 fX7_94 rfl (by assumption) ?_
        rw [hd.2.2.1]
        refine mu_is_3 B dX7_nextOf_34 (by decide) rfl ?_
        refine mu_il_3 B dX7_nextOf_35 ?_
        refine mu_il_2 B dX7_nextOf_36 ?_
        refine mu_al_0 B dX7_nextOf_37 ?_
        refine mu_getR B dX7_nextOf_38 fX7_15 rfl (by assumption) (by assumption) ?_
        refine mu_il_1 B dX7_nextOf_41 ?_
        refine mu_iald B dX7_nextOf_42 (by assumption) (mI_inN (by omega) (by decide)) ?_
        rw [mI_clampN (by omega), (hd.2.2.2.2 k hk).2.1]
        refine mu_iand B dX7_nextOf_43 ?_
        rw [mI_andN _ _ (by omega) (by omega)]
        have hal2 : p &&& cl_n c k ≤ p := Nat.and_le_left
        have hpc := pcn_16 (x := p &&& cl_n c k) (by omega)
        refine mu_eS1 B dX7_nextOf_44 mX7_53 ⟨⟨by decide, by decide⟩, by decide, by decide⟩ (Nat.le_of_ble_eq_true rfl) (c_bc G (n := p &&& cl_n c k) (by omega)) ?_
        refine mu_ishr B dX7_nextOf_47 ?_
        rw [mI_shr _ ⟨by omega, by omega⟩ _ (by omega)]
        refine mu_iconst (v := mI 1) B dX7_nextOf_48 rfl ?_
        refine mu_iand B dX7_nextOf_49 ?_
        rw [mI_and _ (m := mI 1) 1 (by decide) (by decide), nx_num]
        refine mu_iret E rfl (by decide) (by decide) dX7_nextOf_50 ?_
        refine ⟨?_, rfl⟩
        unfold nxc
        first
          | rw [if_pos (by omega)]
          | rw [if_neg (by omega)]
      · try rw [mI_eq0 ⟨by omega, by omega⟩] at c20
        refine mu_al_0 B dX7_nextOf_23 ?_
        refine mu_getI B dX7_nextOf_24 fX7_98 rfl (by assumption) ?_
        rw [hd.2.2.2.1]
        refine mu_goto (tgt := 34) B dX7_nextOf_27 (by decide) ?_
        refine mu_is_3 B dX7_nextOf_34 (by decide) rfl ?_
        refine mu_il_3 B dX7_nextOf_35 ?_
        refine mu_il_2 B dX7_nextOf_36 ?_
        refine mu_al_0 B dX7_nextOf_37 ?_
        refine mu_getR B dX7_nextOf_38 fX7_15 rfl (by assumption) (by assumption) ?_
        refine mu_il_1 B dX7_nextOf_41 ?_
        refine mu_iald B dX7_nextOf_42 (by assumption) (mI_inN (by omega) (by decide)) ?_
        rw [mI_clampN (by omega), (hd.2.2.2.2 k hk).2.1]
        refine mu_iand B dX7_nextOf_43 ?_
        rw [mI_andN _ _ (by omega) (by omega)]
        have hal2 : p &&& cl_n c k ≤ p := Nat.and_le_left
        have hpc := pcn_16 (x := p &&& cl_n c k) (by omega)
        refine mu_eS1 B dX7_nextOf_44 mX7_53 ⟨⟨by decide, by decide⟩, by decide, by decide⟩ (Nat.le_of_ble_eq_true rfl) (c_bc G (n := p &&& cl_n c k) (by omega)) ?_
        refine mu_ishr B dX7_nextOf_47 ?_
        rw [mI_shr _ ⟨by omega, by omega⟩ _ (by omega)]
        refine mu_iconst (v := mI 1) B dX7_nextOf_48 rfl ?_
        refine mu_iand B dX7_nextOf_49 ?_
        rw [mI_and _ (m := mI 1) 1 (by decide) (by decide), nx_num]
        refine mu_iret E rfl (by decide) (by decide) dX7_nextOf_50 ?_
        refine ⟨?_, rfl⟩
        unfold nxc
        first
          | rw [if_pos (by omega)]
          | rw [if_neg (by omega)]
    · try rw [mI_lt ⟨by omega, by omega⟩ ⟨by omega, by omega⟩] at c7
      exfalso
      omega

set_option maxHeartbeats 4000000 in
set_option maxRecDepth 100000 in
theorem c_X7_agrees (G : mu_G) {w : mu_W} {a : Nat} (ho : CSo w a) {Kc bits bo st : Nat} {c : mu_CL} (hd : CSd w a Kc bits bo st c) (hcb : CLb Kc bits c) (hbo : bo ≤ 1000000) (hst : st ≤ 1000000) {sb od : Nat → Nat} (hs : CSs w a Kc bits c sb od) {b p : Nat} (hb : b < bits) (hp : p < 65536) : mu_Ct G M_X7_agrees [.ref a, .int (mI b), .int (mI p)] w (fun r w' => ((agB bo st Kc c b p → r = some (.int (mI 1))) ∧ (¬ agB bo st Kc c b p → r = some (.int (mI 0)))) ∧ w' = w) := by
  obtain ⟨ka, ⟨r0, k1⟩, ⟨r1, k2⟩, ⟨r2, k3⟩, ⟨r4, k4⟩, ⟨r5, k5⟩, ⟨r9, k6⟩, ⟨r10, k7⟩⟩ := id ho
  have hcb1 := hcb.1
  have hcb2 := hcb.2.1
  have hsb := hs.2.2.1 (b + 1) (by omega)
  have hsb0 := hs.2.2.1 b (by omega)
  refine mu_ofWA G M_X7_agrees [.ref a, .int (mI b), .int (mI p), mu_no, mu_no, mu_no] (by decide) rfl (Nat.le_of_ble_eq_true rfl) ?_
  intro X E
  have B : mu_B X G cX7_agrees RX7 6 (mu_rm M_X7_agrees) := E.1
  have LG : ∀ s (uu : Unit), s ≤ sb bits → (sb b ≤ s ∧ ∀ s2, sb b ≤ s2 → s2 < s → agc bo st c (od s2) p) → mu_WA X G 6 (mu_Q X G M_X7_agrees (fun r w' => ((agB bo st Kc c b p → r = some (.int (mI 1))) ∧ (¬ agB bo st Kc c b p → r = some (.int (mI 0)))) ∧ w' = w)) w 0 0 19 [.ref a, .int (mI b), .int (mI p), .int (mI s), mu_no, mu_no] [] := by
    refine mu_ind (sb bits) (fun s (uu : Unit) => mu_WA X G 6 (mu_Q X G M_X7_agrees (fun r w' => ((agB bo st Kc c b p → r = some (.int (mI 1))) ∧ (¬ agB bo st Kc c b p → r = some (.int (mI 0)))) ∧ w' = w)) w 0 0 19 [.ref a, .int (mI b), .int (mI p), .int (mI s), mu_no, mu_no] []) (fun s (uu : Unit) => sb b ≤ s ∧ ∀ s2, sb b ≤ s2 → s2 < s → agc bo st c (od s2) p) ?_
    intro s uu hsl hs9 ihs
    refine mu_il_3 B dX7_agrees_19 ?_
    refine mu_al_0 B dX7_agrees_20 ?_
    refine mu_getR B dX7_agrees_21 fX7_24 rfl (by assumption) (by assumption) ?_
    refine mu_il_1 B dX7_agrees_24 ?_
    refine mu_iconst (v := mI 1) B dX7_agrees_25 rfl ?_
    refine mu_iadd B dX7_agrees_26 ?_
    try rw [mI_add]
    try rw [mI_add]
    rw [show (b : Int) + 1 = ((b + 1 : Nat) : Int) by omega]
    refine mu_iald B dX7_agrees_27 (by assumption) (mI_inN (by omega) (by decide)) ?_
    rw [mI_clampN (by omega), hs.1 (b + 1) (by omega)]
    refine mu_icmp_ge (tgt := 105) B dX7_agrees_28 (by decide) (fun c28 => ?_) (fun c28 => ?_)
    · try rw [mI_le ⟨by omega, by omega⟩ ⟨by omega, by omega⟩] at c28
      try rw [mI_le ⟨by omega, by omega⟩ ⟨by omega, by omega⟩] at c28
      refine mu_iconst (v := mI 1) B dX7_agrees_105 rfl ?_
      refine mu_zret E rfl (by decide) (by decide) dX7_agrees_106 (by decide) ?_
      refine ⟨⟨fun _ => rfl, fun q => ?_⟩, rfl⟩
      exfalso
      refine q (fun k hk hd3 hlw => ?_)
      obtain ⟨s2, h1, h2, h3⟩ := hs.2.2.2.1 b k hb hk hd3 hlw
      rw [← h3]
      exact hs9.2 s2 h1 (by omega)
    · try rw [mI_le ⟨by omega, by omega⟩ ⟨by omega, by omega⟩] at c28
      refine mu_il_3 B dX7_agrees_31 ?_
      refine mu_bipush (v := mI 64) B dX7_agrees_32 (by decide) ?_
      refine mu_icmp_ge (tgt := 105) B dX7_agrees_34 (by decide) (fun c34 => ?_) (fun c34 => ?_)
      · try rw [mI_le ⟨by omega, by omega⟩ ⟨by omega, by omega⟩] at c34
        exfalso
        omega
      · try rw [mI_le ⟨by omega, by omega⟩ ⟨by omega, by omega⟩] at c34
        have hod := hs.2.2.2.2 b s hb hs9.1 (by omega)
        have hck := hcb.2.2 (od s) hod.1
        have K94 : ∀ x : Nat, x = (if cl_d c (od s) = 2 then (if p &&& cl_o c (od s) = 0 then 0 else 1) else cl_d c (od s)) → ∀ bf : Int, mu_WA X G 6 (mu_Q X G M_X7_agrees (fun r w' => ((agB bo st Kc c b p → r = some (.int (mI 1))) ∧ (¬ agB bo st Kc c b p → r = some (.int (mI 0)))) ∧ w' = w)) w 0 0 94 [.ref a, .int (mI b), .int (mI p), .int (mI s), .int (mI ((od s : Nat) : Int)), .int (mI bf)] [.int (mI (x : Int)), .int (mI ((nxc bo st (cl_o c (od s)) (cl_n c (od s)) p : Nat) : Int))] := by
          intro x hx bf
          have hnl := nxc_le bo st (cl_o c (od s)) (cl_n c (od s)) p
          have hxl : x ≤ 3 := by rw [hx]; (repeat' split) <;> omega
          refine mu_icmp_eq (tgt := 99) B dX7_agrees_94 (by decide) (fun c94 => ?_) (fun c94 => ?_)
          · try rw [mI_eq ⟨by omega, by omega⟩ ⟨by omega, by omega⟩] at c94
            refine mu_inc_3 (c := mI 1) B dX7_agrees_99 rfl (by decide) rfl ?_
            try rw [mI_add]
            refine mu_goto (tgt := 19) B dX7_agrees_102 (by decide) ?_
            refine mu_fg (ihs () (by omega) ⟨by omega, fun s2 h1 h2 => ?_⟩) rfl (by rw [show ((s + 1 : Nat) : Int) = (s : Int) + 1 by omega]; exact ⟨Or.inl rfl, Or.inl rfl, Or.inl rfl, Or.inl rfl, Or.inr rfl, Or.inr rfl, trivial⟩)
            by_cases e9 : s2 = s
            · rw [e9]; unfold agc; rw [← hx]; omega
            · exact hs9.2 s2 h1 (by omega)
          · try rw [mI_eq ⟨by omega, by omega⟩ ⟨by omega, by omega⟩] at c94
            refine mu_iconst (v := mI 0) B dX7_agrees_97 rfl ?_
            refine mu_zret E rfl (by decide) (by decide) dX7_agrees_98 (by decide) ?_
            refine ⟨⟨fun q => ?_, fun _ => rfl⟩, rfl⟩
            have h9 := q (od s) hod.1 hod.2.1 hod.2.2
            unfold agc at h9
            rw [← hx] at h9
            exfalso; omega
        have K62 : ∀ bf : Nat, bf = (if p &&& cl_o c (od s) = 0 then 0 else 1) → mu_WA X G 6 (mu_Q X G M_X7_agrees (fun r w' => ((agB bo st Kc c b p → r = some (.int (mI 1))) ∧ (¬ agB bo st Kc c b p → r = some (.int (mI 0)))) ∧ w' = w)) w 0 0 62 [.ref a, .int (mI b), .int (mI p), .int (mI s), .int (mI ((od s : Nat) : Int)), mu_no] [.int (mI (bf : Int))] := by
          intro bf hbf
          refine mu_is_5 B dX7_agrees_62 (by decide) rfl ?_
          refine mu_al_0 B dX7_agrees_64 ?_
          refine mu_il_4 B dX7_agrees_65 ?_
          refine mu_il_2 B dX7_agrees_67 ?_
          refine mu_eV2 B dX7_agrees_68 mX7_115 ⟨⟨by decide, by decide⟩, by decide, by decide⟩ (Nat.le_of_ble_eq_true rfl) (by assumption) (c_X7_nextOf G ho hd hcb hbo hst (k := od s) (p := p) hod.1 hp) ?_
          refine mu_al_0 B dX7_agrees_71 ?_
          refine mu_getR B dX7_agrees_72 fX7_18 rfl (by assumption) (by assumption) ?_
          refine mu_il_4 B dX7_agrees_75 ?_
          refine mu_iald B dX7_agrees_77 (by assumption) (mI_inN (by omega) (by decide)) ?_
          rw [mI_clampN (by omega), (hd.2.2.2.2 (od s) hod.1).2.2]
          refine mu_iconst (v := mI 2) B dX7_agrees_78 rfl ?_
          refine mu_icmp_ne (tgt := 87) B dX7_agrees_79 (by decide) (fun c79 => ?_) (fun c79 => ?_)
          · try rw [mI_eq ⟨by omega, by omega⟩ ⟨by omega, by omega⟩] at c79
            refine mu_al_0 B dX7_agrees_87 ?_
            refine mu_getR B dX7_agrees_88 fX7_18 rfl (by assumption) (by assumption) ?_
            refine mu_il_4 B dX7_agrees_91 ?_
            refine mu_iald B dX7_agrees_93 (by assumption) (mI_inN (by omega) (by decide)) ?_
            rw [mI_clampN (by omega), (hd.2.2.2.2 (od s) hod.1).2.2]
            first
              | exact K94 bf (by rw [if_pos (by omega)]; exact hbf) _
              | exact K94 (cl_d c (od s)) (by rw [if_neg (by omega)]) _
          · try rw [mI_eq ⟨by omega, by omega⟩ ⟨by omega, by omega⟩] at c79
            refine mu_il_5 B dX7_agrees_82 ?_
            refine mu_goto (tgt := 94) B dX7_agrees_84 (by decide) ?_
            first
              | exact K94 bf (by rw [if_pos (by omega)]; exact hbf) _
              | exact K94 (cl_d c (od s)) (by rw [if_neg (by omega)]) _
        refine mu_al_0 B dX7_agrees_37 ?_
        refine mu_getR B dX7_agrees_38 fX7_21 rfl (by assumption) (by assumption) ?_
        refine mu_il_3 B dX7_agrees_41 ?_
        refine mu_iald B dX7_agrees_42 (by assumption) (mI_inN (by omega) (by decide)) ?_
        rw [mI_clampN (by omega), hs.2.1 s (by omega)]
        refine mu_is_4 B dX7_agrees_43 (by decide) rfl ?_
        refine mu_il_2 B dX7_agrees_45 ?_
        refine mu_al_0 B dX7_agrees_46 ?_
        refine mu_getR B dX7_agrees_47 fX7_11 rfl (by assumption) (by assumption) ?_
        refine mu_il_4 B dX7_agrees_50 ?_
        refine mu_iald B dX7_agrees_52 (by assumption) (mI_inN (by omega) (by decide)) ?_
        rw [mI_clampN (by omega), (hd.2.2.2.2 (od s) hod.1).1]
        refine mu_iand B dX7_agrees_53 ?_
        rw [mI_andN _ _ (by omega) (by omega)]
        have hal : p &&& cl_o c (od s) ≤ p := Nat.and_le_left
        refine mu_if_eq (tgt := 61) B dX7_agrees_54 (by decide) (fun c54 => ?_) (fun c54 => ?_)
        · try rw [mI_eq0 ⟨by omega, by omega⟩] at c54
          refine mu_iconst (v := mI 0) B dX7_agrees_61 rfl ?_
          first
            | exact K62 0 (by rw [if_pos (by omega)])
            | exact K62 1 (by rw [if_neg (by omega)])
        · try rw [mI_eq0 ⟨by omega, by omega⟩] at c54
          refine mu_iconst (v := mI 1) B dX7_agrees_57 rfl ?_
          refine mu_goto (tgt := 62) B dX7_agrees_58 (by decide) ?_
          first
            | exact K62 0 (by rw [if_pos (by omega)])
            | exact K62 1 (by rw [if_neg (by omega)])
  show mu_WA X G 6 _ _ 0 0 0 _ []
  refine mu_il_1 B dX7_agrees_0 ?_
  refine mu_if_lt (tgt := 10) B dX7_agrees_1 (by decide) (fun c1 => ?_) (fun c1 => ?_)
  · try rw [mI_lt0 ⟨by omega, by omega⟩] at c1
    exfalso
    omega
  · try rw [mI_lt0 ⟨by omega, by omega⟩] at c1
    refine mu_il_1 B dX7_agrees_4 ?_
    refine mu_bipush (v := mI 16) B dX7_agrees_5 (by decide) ?_
    refine mu_icmp_lt (tgt := 12) B dX7_agrees_7 (by decide) (fun c7 => ?_) (fun c7 => ?_)
    · try rw [mI_lt ⟨by omega, by omega⟩ ⟨by omega, by omega⟩] at c7
      refine mu_al_0 B dX7_agrees_12 ?_
      refine mu_getR B dX7_agrees_13 fX7_24 rfl (by assumption) (by assumption) ?_
      refine mu_il_1 B dX7_agrees_16 ?_
      refine mu_iald B dX7_agrees_17 (by assumption) (mI_inN (by omega) (by decide)) ?_
      rw [mI_clampN (by omega), hs.1 b (by omega)]
      refine mu_is_3 B dX7_agrees_18 (by decide) rfl ?_
      exact LG (sb b) () (hs.2.2.1 b (by omega)).1 ⟨Nat.le_refl _, fun s2 h1 h2 => by omega⟩
    · try rw [mI_lt ⟨by omega, by omega⟩ ⟨by omega, by omega⟩] at c7
      exfalso
      omega
