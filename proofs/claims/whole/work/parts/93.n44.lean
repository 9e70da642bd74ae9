/-! ===== the class's searches: oscillators found ===== -/
theorem NXr.fi {S : Nat → Nat → Prop} {w w' : mu_W} {a m : Nat} {f : Nat → Int} (h : NXr w a m f) (hF : mu_Fi S w w') (hn : ∀ j, ¬ S (a + 6) j) : NXr w' a m f := fun x hx => hF.iv (hn _) (h x hx)

set_option maxHeartbeats 4000000 in
set_option maxRecDepth 100000 in
theorem c_X7_findOscillators (G : mu_G) {w : mu_W} {a : Nat} (ho : CSo w a) {rr : Nat} {ru : mu_RS} (hq : RUq w rr ru) {R C n : Nat} (hR : 1 ≤ R ∧ R ≤ 16) (hC : 1 ≤ C ∧ C ≤ 16) (hRC2 : R * C ≤ 12) (hn : 2 ≤ n ∧ n ≤ 6) : mu_Ct G M_X7_findOscillators [.ref a, .ref rr, .int (mI R), .int (mI C), .int (mI n)] w (fx_post w a (os_P ru R C n)) := by
  obtain ⟨ka, ⟨r0, k1⟩, ⟨r1, k2⟩, ⟨r2, k3⟩, ⟨r4, k4⟩, ⟨r5, k5⟩, ⟨r9, k6⟩, ⟨r10, k7⟩⟩ := id ho
  obtain ⟨hru, hnb, hbo, hbo2, hst⟩ := id hq
  have hRC : R * C ≤ 16 := by omega
  have hpp := Nat.two_pow_pos (R * C)
  have h4096 : 2 ^ (R * C) ≤ 4096 := Nat.pow_le_pow_right (n := 2) (i := R * C) (j := 12) (by decide) hRC2
  refine mu_ofWA G M_X7_findOscillators [.ref a, .ref rr, .int (mI R), .int (mI C), .int (mI n), mu_no, mu_no] (by decide) rfl (Nat.le_of_ble_eq_true rfl) ?_
  intro X E
  have B : mu_B X G cX7_findOscillators RX7 7 (mu_rm M_X7_findOscillators) := E.1
  show mu_WA X G 7 _ _ 0 0 0 _ []
  refine mu_al_0 B dX7_findOscillators_0 ?_
  refine mu_al_1 B dX7_findOscillators_1 ?_
  refine mu_il_2 B dX7_findOscillators_2 ?_
  refine mu_il_3 B dX7_findOscillators_3 ?_
  refine mu_iconst (v := mI 3) B dX7_findOscillators_4 rfl ?_
  refine mu_cV4 B dX7_findOscillators_5 mX7_34 ⟨⟨by decide, by decide⟩, by decide, by decide⟩ (Nat.le_of_ble_eq_true rfl) ho.1 (c_X7_layOut G ho hru (by omega) (R := R) (C := C) (dw := 3) hR hC hRC (box_64 hR hC hRC) (by decide)) (fun r5 w5 q5 => ?_)
  obtain ⟨rfl, hF1, hd1⟩ := q5
  have ho1 := ho.fi hF1
  refine mu_al_0 B dX7_findOscillators_8 ?_
  refine mu_cV0 B dX7_findOscillators_9 mX7_38 ⟨⟨by decide, by decide⟩, by decide, by decide⟩ (Nat.le_of_ble_eq_true rfl) ho1.1 (c_X7_sortCells G ho1 hd1 (CLb.ly hR.1 hC.1 hRC (box_64 hR hC hRC) (by decide)) hbo2 hst) (fun r9 w9 q9 => ?_)
  obtain ⟨rfl, hF2, sb, od, hs2⟩ := q9
  have ho2 := ho1.fi hF2
  have hd2 := hd1.fi hF2 (fun j _ hh => by rcases hh with hh | hh <;> omega) (fun e j _ _ hh => by rcases hh with hh | hh <;> omega)
  refine mu_al_0 B dX7_findOscillators_12 ?_
  refine mu_ldc B kX7_41 dX7_findOscillators_13 ?_
  refine mu_cV1 B dX7_findOscillators_15 mX7_42 ⟨⟨by decide, by decide⟩, by decide, by decide⟩ (Nat.le_of_ble_eq_true rfl) ho2.1 (c_X7_explore G ho2 hd2 (CLb.ly hR.1 hC.1 hRC (box_64 hR hC hRC) (by decide)) hbo2 hst hs2 (most := 65536) (by decide)) (fun r15 w15 q15 => ?_)
  obtain ⟨rfl, hF3, hH3⟩ := ex_full hRC q15
  have ho3 := ho2.fi hF3
  have hd3 := hd2.fi hF3 (fun j _ hh => by rcases hh with hh | hh <;> omega) (fun e j _ _ hh => by rcases hh with hh | hh <;> omega)
  have hF0 := ((ly_se hF1).trans (so_se hF2)).trans (h_se hF3)
  have k63 := ho3.2.2.2.2.2.2.1.2
  have ka3 := ho3.1
  refine mu_iconst (v := mI 1) B dX7_findOscillators_18 rfl ?_
  refine mu_al_0 B dX7_findOscillators_19 ?_
  refine mu_getI B dX7_findOscillators_20 fX7_69 rfl ka3 ?_
  rw [hd3.2.1]
  refine mu_ishl B dX7_findOscillators_23 ?_
  rw [mI_shl _ _ (by omega), Int.one_mul]
  rw [show (2 : Int) ^ (R * C) = ((2 ^ (R * C) : Nat) : Int) by rw [Int.natCast_pow]; rfl]
  refine mu_al_0 B dX7_findOscillators_24 ?_
  refine mu_getR B dX7_findOscillators_25 fX7_27 rfl ka3 ho3.2.2.2.2.2.2.1.1 ?_
  refine mu_len (ka := 0) B dX7_findOscillators_28 k63 (by decide) ?_
  refine mu_mmin B dX7_findOscillators_29 mlX7_72 ⟨by decide, by decide⟩ (Nat.le_of_ble_eq_true rfl) ⟨by decide, by decide⟩ ?_
  rw [if_neg (by rw [mI_lt ⟨by omega, by omega⟩ ⟨by omega, by omega⟩]; omega)]
  refine mu_is_5 B dX7_findOscillators_32 (by decide) rfl ?_
  refine mu_iconst (v := mI 0) B dX7_findOscillators_34 rfl ?_
  refine mu_is_6 B dX7_findOscillators_35 (by decide) rfl ?_
  have L1 : ∀ pt (s : mu_W), pt ≤ 2 ^ (R * C) → (mu_Fi (fun q _ => q = a + 6) w15 s ∧ NXr s a pt (nxF ru R C)) → mu_WA X G 7 (mu_Q X G M_X7_findOscillators (fx_post w a (os_P ru R C n))) s 0 0 37 [.ref a, .ref rr, .int (mI R), .int (mI C), .int (mI n), .int (mI ((2 ^ (R * C) : Nat) : Int)), .int (mI pt)] [] := by
    refine mu_ind (2 ^ (R * C)) (fun pt (s : mu_W) => mu_WA X G 7 (mu_Q X G M_X7_findOscillators (fx_post w a (os_P ru R C n))) s 0 0 37 [.ref a, .ref rr, .int (mI R), .int (mI C), .int (mI n), .int (mI ((2 ^ (R * C) : Nat) : Int)), .int (mI pt)] []) (fun pt (s : mu_W) => mu_Fi (fun q _ => q = a + 6) w15 s ∧ NXr s a pt (nxF ru R C)) ?_
    intro pt s hpt ⟨hFs, hNs⟩ ih
    have hos := ho3.fi hFs
    refine mu_il_6 B dX7_findOscillators_37 ?_
    refine mu_il_5 B dX7_findOscillators_39 ?_
    refine mu_icmp_ge (tgt := 76) B dX7_findOscillators_41 (by decide) (fun c41 => ?_) (fun c41 => ?_)
    · try rw [mI_le ⟨by omega, by omega⟩ ⟨by omega, by omega⟩] at c41
      try rw [mI_le ⟨by omega, by omega⟩ ⟨by omega, by omega⟩] at c41
      obtain rfl : 2 ^ (R * C) = pt := by omega
      refine mu_al_0 B dX7_findOscillators_76 ?_
      refine mu_cV0 B dX7_findOscillators_77 mX7_66 ⟨⟨by decide, by decide⟩, by decide, by decide⟩ (Nat.le_of_ble_eq_true rfl) hos.1 (c_X7_forget G hos) (fun r77 w77 q77 => ?_)
      obtain ⟨rfl, hF6, hH6⟩ := q77
      refine mu_iconst (v := mI 0) B dX7_findOscillators_80 rfl ?_
      refine mu_is_6 B dX7_findOscillators_81 (by decide) rfl ?_
      have L2 : ∀ pt (s : mu_W), pt ≤ 2 ^ (R * C) → (mu_Fi (seS a) w s ∧ CHt s a (fun x => x < pt ∧ os_P ru R C n x) ∧ NXr s a (2 ^ (R * C)) (nxF ru R C)) → mu_WA X G 7 (mu_Q X G M_X7_findOscillators (fx_post w a (os_P ru R C n))) s 0 0 83 [.ref a, .ref rr, .int (mI R), .int (mI C), .int (mI n), .int (mI ((2 ^ (R * C) : Nat) : Int)), .int (mI pt)] [] := by
        refine mu_ind (2 ^ (R * C)) (fun pt (s : mu_W) => mu_WA X G 7 (mu_Q X G M_X7_findOscillators (fx_post w a (os_P ru R C n))) s 0 0 83 [.ref a, .ref rr, .int (mI R), .int (mI C), .int (mI n), .int (mI ((2 ^ (R * C) : Nat) : Int)), .int (mI pt)] []) (fun pt (s : mu_W) => mu_Fi (seS a) w s ∧ CHt s a (fun x => x < pt ∧ os_P ru R C n x) ∧ NXr s a (2 ^ (R * C)) (nxF ru R C)) ?_
        intro pt s hpt ⟨hFs, hHs, hNs⟩ ih
        refine mu_il_6 B dX7_findOscillators_83 ?_
        refine mu_il_5 B dX7_findOscillators_85 ?_
        refine mu_icmp_ge (tgt := 113) B dX7_findOscillators_87 (by decide) (fun c87 => ?_) (fun c87 => ?_)
        · try rw [mI_le ⟨by omega, by omega⟩ ⟨by omega, by omega⟩] at c87
          try rw [mI_le ⟨by omega, by omega⟩ ⟨by omega, by omega⟩] at c87
          obtain rfl : 2 ^ (R * C) = pt := by omega
          have hH9 : CHt s a (os_P ru R C n) := hHs.ext (fun x hx => ⟨fun q => q.2, fun q => ⟨q.1, q⟩⟩)
          refine mu_al_0 B dX7_findOscillators_113 ?_
          refine mu_getI B dX7_findOscillators_114 fX7_46 rfl (hFs.kd ka) ?_
          rw [hH9.2]
          refine mu_iret E rfl (by decide) (by decide) dX7_findOscillators_117 ?_
          exact ⟨rfl, hFs, hH9⟩
        · try rw [mI_le ⟨by omega, by omega⟩ ⟨by omega, by omega⟩] at c87
          have hpt9 : pt < 2 ^ (R * C) := by omega
          refine mu_al_0 B dX7_findOscillators_90 ?_
          refine mu_il_6 B dX7_findOscillators_91 ?_
          refine mu_il_4 B dX7_findOscillators_93 ?_
          refine mu_cV2 B dX7_findOscillators_95 mX7_85 ⟨⟨by decide, by decide⟩, by decide, by decide⟩ (Nat.le_of_ble_eq_true rfl) (hFs.kd ka) (c_X7_returnsAfter G (ho.fi hFs) hNs h4096 (nxF_bd ru R C) (p := pt) (n := n) hpt9 ⟨by omega, by omega⟩) (fun r95 w95 q95 => ?_)
          obtain ⟨hyn, rfl⟩ := q95
          obtain ⟨z, rfl, hz⟩ : ∃ z : Int, r95 = some (.int (mI z)) ∧ ((z = 1 ∧ RA (nxF ru R C) pt n) ∨ (z = 0 ∧ ¬ (RA (nxF ru R C) pt n))) := by
            by_cases q : RA (nxF ru R C) pt n
            · exact ⟨1, hyn.1 q, Or.inl ⟨rfl, q⟩⟩
            · exact ⟨0, hyn.2 q, Or.inr ⟨rfl, q⟩⟩
          show mu_WA X G 7 _ _ 0 0 98 _ [.int (mI z)]
          refine mu_if_eq (tgt := 107) B dX7_findOscillators_98 (by decide) (fun c98 => ?_) (fun c98 => ?_)
          · try rw [mI_eq0 ⟨by omega, by omega⟩] at c98
            have hno : ¬ os_P ru R C n pt := fun q => by rcases hz with hz | hz; omega; exact hz.2 ((os_iff hnb hbo hRC hpt9 (by omega)).mpr q)
            refine mu_inc_6 (c := mI 1) B dX7_findOscillators_107 rfl (by decide) rfl ?_
            try rw [mI_add]
            refine mu_goto (tgt := 83) B dX7_findOscillators_110 (by decide) ?_
            first
              | (refine mu_to (ih _ (by omega) ⟨hFs.trans (h_se hF5), hH5.ext (fun x hx => ?_), hNs.fi hF5 (fun j hh => by rcases hh with hh | hh <;> omega)⟩) rfl (by rw [show ((pt + 1 : Nat) : Int) = (pt : Int) + 1 by omega])
                 constructor
                 · rintro (q | q)
                   · exact ⟨Nat.lt_succ_of_lt q.1, q.2⟩
                   · rw [q]; exact ⟨Nat.lt_succ_self _, hyes⟩
                 · intro q
                   by_cases e9 : x = pt
                   · exact Or.inr e9
                   · exact Or.inl ⟨by have := q.1; omega, q.2⟩)
              | (refine mu_to (ih _ (by omega) ⟨hFs, hHs.ext (fun x hx => ⟨fun q => ⟨Nat.lt_succ_of_lt q.1, q.2⟩, fun q => ⟨?_, q.2⟩⟩), hNs⟩) rfl (by rw [show ((pt + 1 : Nat) : Int) = (pt : Int) + 1 by omega])
                 by_cases e9 : x = pt
                 · exact absurd (e9 ▸ q.2) hno
                 · have := q.1; omega)
          · try rw [mI_eq0 ⟨by omega, by omega⟩] at c98
            have hyes : os_P ru R C n pt := by rcases hz with hz | hz; exact (os_iff hnb hbo hRC hpt9 (by omega)).mp hz.2; omega
            refine mu_al_0 B dX7_findOscillators_101 ?_
            refine mu_il_6 B dX7_findOscillators_102 ?_
            refine mu_cV1 B dX7_findOscillators_104 mX7_63 ⟨⟨by decide, by decide⟩, by decide, by decide⟩ (Nat.le_of_ble_eq_true rfl) (hFs.kd ka) (c_X7_hit G (ho.fi hFs) hHs (p := pt) (by omega) (fun q => Nat.lt_irrefl _ q.1)) (fun r104 w104 q104 => ?_)
            obtain ⟨rfl, hF5, hH5⟩ := q104
            refine mu_inc_6 (c := mI 1) B dX7_findOscillators_107 rfl (by decide) rfl ?_
            try rw [mI_add]
            refine mu_goto (tgt := 83) B dX7_findOscillators_110 (by decide) ?_
            first
              | (refine mu_to (ih _ (by omega) ⟨hFs.trans (h_se hF5), hH5.ext (fun x hx => ?_), hNs.fi hF5 (fun j hh => by rcases hh with hh | hh <;> omega)⟩) rfl (by rw [show ((pt + 1 : Nat) : Int) = (pt : Int) + 1 by omega])
                 constructor
                 · rintro (q | q)
                   · exact ⟨Nat.lt_succ_of_lt q.1, q.2⟩
                   · rw [q]; exact ⟨Nat.lt_succ_self _, hyes⟩
                 · intro q
                   by_cases e9 : x = pt
                   · exact Or.inr e9
                   · exact Or.inl ⟨by have := q.1; omega, q.2⟩)
              | (refine mu_to (ih _ (by omega) ⟨hFs, hHs.ext (fun x hx => ⟨fun q => ⟨Nat.lt_succ_of_lt q.1, q.2⟩, fun q => ⟨?_, q.2⟩⟩), hNs⟩) rfl (by rw [show ((pt + 1 : Nat) : Int) = (pt : Int) + 1 by omega])
                 by_cases e9 : x = pt
                 · exact absurd (e9 ▸ q.2) hno
                 · have := q.1; omega)
      exact L2 0 w77 (Nat.zero_le _) ⟨((hF0.trans (hFs.mono (fun e j hh => by unfold seS; omega))).trans (h_se hF6)), hH6.ext (fun x hx => ⟨fun q => q.elim, fun q => absurd q.1 (Nat.not_lt_zero _)⟩), hNs.fi hF6 (fun j hh => by rcases hh with hh | hh <;> omega)⟩
    · try rw [mI_le ⟨by omega, by omega⟩ ⟨by omega, by omega⟩] at c41
      have hpt9 : pt < 2 ^ (R * C) := by omega
      have K69 : ∀ v : Int, v = (nxF ru R C) pt → mu_WA X G 7 (mu_Q X G M_X7_findOscillators (fx_post w a (os_P ru R C n))) s 0 0 69 [.ref a, .ref rr, .int (mI R), .int (mI C), .int (mI n), .int (mI ((2 ^ (R * C) : Nat) : Int)), .int (mI pt)] [.int (mI v), .int (mI (pt : Int)), .ref (a + 6)] := by
        intro v hv
        refine mu_iast B dX7_findOscillators_69 (hFs.kd k63) (mI_inN (by omega) (by decide)) ?_
        rw [mI_clampN (by omega)]
        refine mu_inc_6 (c := mI 1) B dX7_findOscillators_70 rfl (by decide) rfl ?_
        try rw [mI_add]
        refine mu_goto (tgt := 37) B dX7_findOscillators_73 (by decide) ?_
        refine mu_to (ih _ (by omega) ⟨hFs.si rfl, fun x hx => ?_⟩) rfl (by rw [show ((pt + 1 : Nat) : Int) = (pt : Int) + 1 by omega])
        by_cases e9 : x = pt
        · rw [e9, mu_iv_same, hv]
        · rw [mu_iv_oth _ _ (by omega)]; exact hNs x (by omega)
      refine mu_al_0 B dX7_findOscillators_44 ?_
      refine mu_getR B dX7_findOscillators_45 fX7_27 rfl hos.1 hos.2.2.2.2.2.2.1.1 ?_
      refine mu_il_6 B dX7_findOscillators_48 ?_
      refine mu_al_0 B dX7_findOscillators_50 ?_
      refine mu_il_6 B dX7_findOscillators_51 ?_
      refine mu_cV1 B dX7_findOscillators_53 mX7_78 ⟨⟨by decide, by decide⟩, by decide, by decide⟩ (Nat.le_of_ble_eq_true rfl) hos.1 (c_X7_isHit G hos (hH3.fi hFs (fun hh => by omega) (fun j hh => by omega)) (p := pt) (by omega)) (fun r53 w53 q53 => ?_)
      obtain ⟨hyn, rfl⟩ := q53
      obtain ⟨z, rfl, hz⟩ : ∃ z : Int, r53 = some (.int (mI z)) ∧ ((z = 1 ∧ pt < 2 ^ (R * C) ∧ okP (rs_bo ru) (rs_st ru) ((R + 2) * (C + 2)) (lyc R C (rs_nb ru) 3) (R * C) pt) ∨ (z = 0 ∧ ¬ (pt < 2 ^ (R * C) ∧ okP (rs_bo ru) (rs_st ru) ((R + 2) * (C + 2)) (lyc R C (rs_nb ru) 3) (R * C) pt))) := by
        by_cases q : pt < 2 ^ (R * C) ∧ okP (rs_bo ru) (rs_st ru) ((R + 2) * (C + 2)) (lyc R C (rs_nb ru) 3) (R * C) pt
        · exact ⟨1, hyn.1 q, Or.inl ⟨rfl, q⟩⟩
        · exact ⟨0, hyn.2 q, Or.inr ⟨rfl, q⟩⟩
      show mu_WA X G 7 _ _ 0 0 56 _ [.int (mI z), .int (mI (pt : Int)), .ref (a + 6)]
      refine mu_if_eq (tgt := 68) B dX7_findOscillators_56 (by decide) (fun c56 => ?_) (fun c56 => ?_)
      · try rw [mI_eq0 ⟨by omega, by omega⟩] at c56
        refine mu_iconst (v := mI (-1)) B dX7_findOscillators_68 rfl ?_
        first
          | exact K69 _ (by rcases hz with hz | hz; exact (nxF_1 hz.2.2).symm; omega)
          | exact K69 (-1) (by rcases hz with hz | hz; omega; exact (nxF_0 (fun q => hz.2 ⟨hpt9, q⟩)).symm)
      · try rw [mI_eq0 ⟨by omega, by omega⟩] at c56
        refine mu_al_0 B dX7_findOscillators_59 ?_
        refine mu_il_6 B dX7_findOscillators_60 ?_
        refine mu_eV1 B dX7_findOscillators_62 mX7_82 ⟨⟨by decide, by decide⟩, by decide, by decide⟩ (Nat.le_of_ble_eq_true rfl) hos.1 (c_X7_nextWithin G hos (hd3.fi hFs (fun j _ hh => by omega) (fun e j h1 h2 hh => by omega)) (CLb.ly hR.1 hC.1 hRC (box_64 hR hC hRC) (by decide)) hbo2 hst (p := pt) (by omega)) ?_
        refine mu_goto (tgt := 69) B dX7_findOscillators_65 (by decide) ?_
        first
          | exact K69 _ (by rcases hz with hz | hz; exact (nxF_1 hz.2.2).symm; omega)
          | exact K69 (-1) (by rcases hz with hz | hz; omega; exact (nxF_0 (fun q => hz.2 ⟨hpt9, q⟩)).symm)
  exact L1 0 w15 (Nat.zero_le _) ⟨mu_Fi.refl _, fun x hx => absurd hx (Nat.not_lt_zero x)⟩
