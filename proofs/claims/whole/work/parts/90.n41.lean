/-! ===== the class's searches: still lives and ancestors ===== -/
def seS (a : Nat) : Nat → Nat → Prop := fun e _ => a ≤ e ∧ e ≤ a + 7
theorem ly_se {a : Nat} {w w' : mu_W} (h : mu_Fi (lyS a) w w') : mu_Fi (seS a) w w' := h.mono (fun e j hh => by unfold lyS at hh; unfold seS; omega)
theorem so_se {a : Nat} {w w' : mu_W} (h : mu_Fi (soS a) w w') : mu_Fi (seS a) w w' := h.mono (fun e j hh => by unfold soS at hh; unfold seS; omega)
theorem h_se {a : Nat} {w w' : mu_W} (h : mu_Fi (hS a) w w') : mu_Fi (seS a) w w' := h.mono (fun e j hh => by unfold hS at hh; unfold seS; omega)
theorem en_bd {P : Nat → Prop} {q : Nat} (h : ∀ x, P x → x < q) (n : Nat) : en_c P n ≤ q := by
  by_cases e : q ≤ n
  · have := en_stop (P := P) (n := q) (fun j hj hp => by have := h j hp; omega) (n - q)
    rw [show q + (n - q) = n by omega] at this
    rw [this]; exact en_le P q
  · have := en_le P n; omega
theorem ex_full {w : mu_W} {a bits bo st Kc : Nat} {c : mu_CL} {r : Option Value} {w' : mu_W} (hb : bits ≤ 16) (h : ex_post w a bits bo st Kc c 65536 r w') : r = none ∧ mu_Fi (hS a) w w' ∧ CHt w' a (fun x => x < 2 ^ bits ∧ okP bo st Kc c bits x) := by
  obtain ⟨h1, h2, q, h3, h4, h5⟩ := h
  have h65 := pow_16 hb
  have hq : q = 2 ^ bits := by
    rcases h5 with h5 | h5
    · exact h5
    · have := en_bd (P := ex_P bo st Kc c bits q) (q := q) (fun x hx => hx.1) 65536
      omega
  subst hq
  exact ⟨h1, h2, h4⟩
def fx_post (w : mu_W) (a : Nat) (P : Nat → Prop) (r : Option Value) (w' : mu_W) : Prop := r = some (.int (mI (en_c P 65536))) ∧ mu_Fi (seS a) w w' ∧ CHt w' a P
/-- a rule that a search may take -/
def RUq (w : mu_W) (rr : Nat) (r : mu_RS) : Prop := RUx w rr (rs_nb r) (rs_bo r) (rs_st r) ∧ (rs_nb r = 4 ∨ rs_nb r = 6 ∨ rs_nb r = 8) ∧ rs_bo r % 2 = 0 ∧ rs_bo r ≤ 1000000 ∧ rs_st r ≤ 1000000
theorem RUq.no {w : mu_W} {a rr : Nat} {r : mu_RS} (h : RUq w rr r) (ho : CSo w a) (j : Nat) : ¬ seS a rr j := fun hh => by
  obtain ⟨ka, ⟨r0, k1⟩, ⟨r1, k2⟩, ⟨r2, k3⟩, ⟨r4, k4⟩, ⟨r5, k5⟩, ⟨r9, k6⟩, ⟨r10, k7⟩⟩ := ho
  have h4 := h.1.1
  rcases (show rr = a ∨ rr = a + 1 ∨ rr = a + 2 ∨ rr = a + 3 ∨ rr = a + 4 ∨ rr = a + 5 ∨ rr = a + 6 ∨ rr = a + 7 by unfold seS at hh; omega) with e | e | e | e | e | e | e | e
  · rw [e, ka] at h4; cases h4
  · rw [e, k1] at h4; cases h4
  · rw [e, k2] at h4; cases h4
  · rw [e, k3] at h4; cases h4
  · rw [e, k4] at h4; cases h4
  · rw [e, k5] at h4; cases h4
  · rw [e, k6] at h4; cases h4
  · rw [e, k7] at h4; cases h4
theorem RUq.fi {w w' : mu_W} {a rr : Nat} {r : mu_RS} (h : RUq w rr r) (ho : CSo w a) (hF : mu_Fi (seS a) w w') : RUq w' rr r := ⟨h.1.fi hF (h.no ho), h.2⟩
theorem CSd.ext {w : mu_W} {a Kc bits bo st : Nat} {c c' : mu_CL} (h : CSd w a Kc bits bo st c) (hc : ∀ k, k < Kc → cl_o c' k = cl_o c k ∧ cl_n c' k = cl_n c k ∧ cl_d c' k = cl_d c k) : CSd w a Kc bits bo st c' := ⟨h.1, h.2.1, h.2.2.1, h.2.2.2.1, fun k hk => by
  rw [(hc k hk).1, (hc k hk).2.1, (hc k hk).2.2]
  exact h.2.2.2.2 k hk⟩
theorem CSd.due {w : mu_W} {a Kc bits bo st : Nat} {c c' : mu_CL} {q v : Nat} (h : CSd w a Kc bits bo st c) (hc : ∀ k, k < Kc → cl_o c' k = cl_o c k ∧ cl_n c' k = cl_n c k ∧ cl_d c' k = if k = q then v else cl_d c k) : CSd (mu_si w (a + 3) q (mI v)) a Kc bits bo st c' := by
  refine ⟨(mu_iv_oth _ _ (by omega)).trans h.1, (mu_iv_oth _ _ (by omega)).trans h.2.1, (mu_iv_oth _ _ (by omega)).trans h.2.2.1, (mu_iv_oth _ _ (by omega)).trans h.2.2.2.1, fun k hk => ?_⟩
  rw [(hc k hk).1, (hc k hk).2.1, (hc k hk).2.2]
  refine ⟨(mu_iv_oth _ _ (by omega)).trans (h.2.2.2.2 k hk).1, (mu_iv_oth _ _ (by omega)).trans (h.2.2.2.2 k hk).2.1, ?_⟩
  by_cases e : k = q
  · rw [if_pos e, e, mu_iv_same]
  · rw [if_neg e, mu_iv_oth _ _ (by omega)]; exact (h.2.2.2.2 k hk).2.2
theorem box64 : ∀ R, R < 17 → ∀ C, C < 17 → R * C ≤ 16 → (R + 2) * (C + 2) ≤ 64 ∨ R = 0 ∨ C = 0 := by decide +kernel
theorem box_64 {R C : Nat} (hR : 1 ≤ R ∧ R ≤ 16) (hC : 1 ≤ C ∧ C ≤ 16) (h : R * C ≤ 16) : (R + 2) * (C + 2) ≤ 64 := by
  rcases box64 R (by omega) C (by omega) h with q | q | q
  · exact q
  · omega
  · omega

set_option maxHeartbeats 4000000 in
set_option maxRecDepth 100000 in
theorem c_X7_findStill (G : mu_G) {w : mu_W} {a : Nat} (ho : CSo w a) {rr : Nat} {ru : mu_RS} (hq : RUq w rr ru) {R C : Nat} (hR : 1 ≤ R ∧ R ≤ 16) (hC : 1 ≤ C ∧ C ≤ 16) (hRC : R * C ≤ 16) : mu_Ct G M_X7_findStill [.ref a, .ref rr, .int (mI R), .int (mI C)] w (fx_post w a (st_P ru R C)) := by
  obtain ⟨hru, hnb, hbo, hbo2, hst⟩ := id hq
  refine mu_ofWA G M_X7_findStill [.ref a, .ref rr, .int (mI R), .int (mI C)] (by decide) rfl (Nat.le_of_ble_eq_true rfl) ?_
  intro X E
  have B : mu_B X G cX7_findStill RX7 4 (mu_rm M_X7_findStill) := E.1
  show mu_WA X G 4 _ _ 0 0 0 _ []
  refine mu_al_0 B dX7_findStill_0 ?_
  refine mu_al_1 B dX7_findStill_1 ?_
  refine mu_il_2 B dX7_findStill_2 ?_
  refine mu_il_3 B dX7_findStill_3 ?_
  refine mu_iconst (v := mI 2) B dX7_findStill_4 rfl ?_
  refine mu_cV4 B dX7_findStill_5 mX7_34 ⟨⟨by decide, by decide⟩, by decide, by decide⟩ (Nat.le_of_ble_eq_true rfl) ho.1 (c_X7_layOut G ho hru (by omega) (R := R) (C := C) (dw := 2) hR hC hRC (box_64 hR hC hRC) (by decide)) (fun r5 w5 q5 => ?_)
  obtain ⟨rfl, hF1, hd1⟩ := q5
  have ho1 := ho.fi hF1
  refine mu_al_0 B dX7_findStill_8 ?_
  refine mu_cV0 B dX7_findStill_9 mX7_38 ⟨⟨by decide, by decide⟩, by decide, by decide⟩ (Nat.le_of_ble_eq_true rfl) ho1.1 (c_X7_sortCells G ho1 hd1 (CLb.ly hR.1 hC.1 hRC (box_64 hR hC hRC) (by decide)) hbo2 hst) (fun r9 w9 q9 => ?_)
  obtain ⟨rfl, hF2, sb, od, hs2⟩ := q9
  have ho2 := ho1.fi hF2
  have hd2 := hd1.fi hF2 (fun j _ hh => by rcases hh with hh | hh <;> omega) (fun e j _ _ hh => by rcases hh with hh | hh <;> omega)
  refine mu_al_0 B dX7_findStill_12 ?_
  refine mu_ldc B kX7_41 dX7_findStill_13 ?_
  refine mu_cV1 B dX7_findStill_15 mX7_42 ⟨⟨by decide, by decide⟩, by decide, by decide⟩ (Nat.le_of_ble_eq_true rfl) ho2.1 (c_X7_explore G ho2 hd2 (CLb.ly hR.1 hC.1 hRC (box_64 hR hC hRC) (by decide)) hbo2 hst hs2 (most := 65536) (by decide)) (fun r15 w15 q15 => ?_)
  obtain ⟨rfl, hF3, hH3⟩ := ex_full hRC q15
  have hH4 : CHt w15 a (st_P ru R C) := hH3.ext (fun x hx => ⟨fun q => ⟨q.1, (still_iff hnb hbo hRC q.1).mp q.2⟩, fun q => ⟨q.1, (still_iff hnb hbo hRC q.1).mpr q.2⟩⟩)
  have ka3 := hF3.kd ho2.1
  refine mu_al_0 B dX7_findStill_18 ?_
  refine mu_getI B dX7_findStill_19 fX7_46 rfl (by assumption) ?_
  rw [hH4.2]
  refine mu_iret E rfl (by decide) (by decide) dX7_findStill_22 ?_
  exact ⟨rfl, ((ly_se hF1).trans (so_se hF2)).trans (h_se hF3), hH4⟩

theorem kx_ (i j C : Nat) : ((i : Int) + 2) * ((C : Int) + 4) + (j : Int) + 2 = (((C + 2 + 2) * (i + 2) + (j + 2) : Nat) : Int) := by
  rw [Int.natCast_add, Int.natCast_mul, show ((C + 2 + 2 : Nat) : Int) = (C : Int) + 4 by omega, show ((i + 2 : Nat) : Int) = (i : Int) + 2 by omega, Int.mul_comm]
  omega
theorem CLb.an {R C nb o t : Nat} (h : (R + 2) * (C + 2) ≤ 16) (h64 : (R + 2 + 2) * (C + 2 + 2) ≤ 64) : CLb ((R + 2 + 2) * (C + 2 + 2)) ((R + 2) * (C + 2)) (anc R C nb o t) := ⟨h64, ⟨Nat.mul_pos (by omega) (by omega), h⟩, fun k _ => ⟨bitN_lt h, nrN_lt h _, by rw [an_d]; have := dT_le R C o t (lyi (C + 2) k) (lyj (C + 2) k); omega⟩⟩
theorem an_step {R C nb o i j : Nat} (hi : i < R) (hj : j < C) (k : Nat) (hk : k < (R + 2 + 2) * (C + 2 + 2)) : cl_d (anc R C nb o (i * C + j + 1)) k = if k = (C + 2 + 2) * (i + 2) + (j + 2) then o / 2 ^ (i * C + j) % 2 else cl_d (anc R C nb o (i * C + j)) k := by
  rw [an_d, an_d, dT_S]
  by_cases e : k = (C + 2 + 2) * (i + 2) + (j + 2)
  · obtain ⟨e1, e2⟩ := ly_at (C := C + 2) (y := i + 2) (x := j + 2) (by omega)
    rw [if_pos e, e, e1, e2, if_pos]
    refine ⟨by omega, ?_⟩
    rw [show (((i + 2 : Nat) : Int) - 1 - 1).toNat = i by omega, show (((j + 2 : Nat) : Int) - 1 - 1).toNat = j by omega]
  · rw [if_neg e, if_neg (fun q => e ?_)]
    have h1 := gs_kk (R := R + 2 + 2) (C := C + 2 + 2) hk
    unfold lyi lyj at q
    generalize hy : k / (C + 2 + 2) = y at h1 q
    generalize hx : k % (C + 2 + 2) = x at h1 q
    obtain ⟨q1, q2⟩ := q
    rw [Nat.mul_comm, Nat.mul_comm i] at q2
    have q3 := gs_inj (C := C) (by omega) hj q2
    have y2 : y = i + 2 := by omega
    have x2 : x = j + 2 := by omega
    rw [← h1.2.2, y2, x2]
def fa_post (w : mu_W) (a : Nat) (ru : mu_RS) (R C o most : Nat) (r : Option Value) (w' : mu_W) : Prop := mu_Fi (seS a) w w' ∧ ∃ q, q ≤ 2 ^ ((R + 2) * (C + 2)) ∧ CHt w' a (fun x => x < q ∧ an_P ru R C o x) ∧ (q = 2 ^ ((R + 2) * (C + 2)) ∨ most ≤ en_c (fun x => x < q ∧ an_P ru R C o x) 65536) ∧ r = some (.int (mI (en_c (fun x => x < q ∧ an_P ru R C o x) 65536)))

set_option maxHeartbeats 4000000 in
set_option maxRecDepth 100000 in
theorem c_X7_findAncestors (G : mu_G) {w : mu_W} {a : Nat} (ho : CSo w a) {rr : Nat} {ru : mu_RS} (hq : RUq w rr ru) {R C o most : Nat} (hR : 1 ≤ R ∧ R ≤ 16) (hC : 1 ≤ C ∧ C ≤ 16) (h16 : (R + 2) * (C + 2) ≤ 16) (hol2 : o < 2 ^ (R * C)) (hmo : most ≤ 1000000) : mu_Ct G M_X7_findAncestors [.ref a, .ref rr, .int (mI R), .int (mI C), .int (mI o), .int (mI most)] w (fa_post w a ru R C o most) := by
  obtain ⟨ka, ⟨r0, k1⟩, ⟨r1, k2⟩, ⟨r2, k3⟩, ⟨r4, k4⟩, ⟨r5, k5⟩, ⟨r9, k6⟩, ⟨r10, k7⟩⟩ := id ho
  obtain ⟨hru, hnb, hbo, hbo2, hst⟩ := id hq
  have hrc := rc4 hR.1 hC.1 h16
  have h64 : ((R + 2 + 2) * (C + 2 + 2)) ≤ 64 := box_64 (R := R + 2) (C := C + 2) ⟨by omega, by omega⟩ ⟨by omega, by omega⟩ h16
  have hob : o < 65536 := Nat.lt_of_lt_of_le hol2 (pw16 (by omega))
  refine mu_ofWA G M_X7_findAncestors [.ref a, .ref rr, .int (mI R), .int (mI C), .int (mI o), .int (mI most), mu_no, mu_no, mu_no, mu_no] (by decide) rfl (Nat.le_of_ble_eq_true rfl) ?_
  intro X E
  have B : mu_B X G cX7_findAncestors RX7 10 (mu_rm M_X7_findAncestors) := E.1
  have LI : ∀ i (s : mu_W), i ≤ R → (mu_Fi (seS a) w s ∧ CSd s a ((R + 2 + 2) * (C + 2 + 2)) ((R + 2) * (C + 2)) (rs_bo ru) (rs_st ru) (anc R C (rs_nb ru) o (i * C))) → mu_WA X G 10 (mu_Q X G M_X7_findAncestors (fa_post w a ru R C o most)) s 0 0 19 [.ref a, .ref rr, .int (mI R), .int (mI C), .int (mI o), .int (mI most), .int (mI ((o / 2 ^ (i * C) : Nat) : Int)), .int (mI i), mu_no, mu_no] [] := by
    refine mu_ind (R) (fun i (s : mu_W) => mu_WA X G 10 (mu_Q X G M_X7_findAncestors (fa_post w a ru R C o most)) s 0 0 19 [.ref a, .ref rr, .int (mI R), .int (mI C), .int (mI o), .int (mI most), .int (mI ((o / 2 ^ (i * C) : Nat) : Int)), .int (mI i), mu_no, mu_no] []) (fun i (s : mu_W) => mu_Fi (seS a) w s ∧ CSd s a ((R + 2 + 2) * (C + 2 + 2)) ((R + 2) * (C + 2)) (rs_bo ru) (rs_st ru) (anc R C (rs_nb ru) o (i * C))) ?_
    intro i s hi ⟨hFs, hds⟩ ih
    refine mu_il_7 B dX7_findAncestors_19 ?_
    refine mu_il_2 B dX7_findAncestors_21 ?_
    refine mu_icmp_ge (tgt := 87) B dX7_findAncestors_22 (by decide) (fun c22 => ?_) (fun c22 => ?_)
    · try rw [mI_le ⟨by omega, by omega⟩ ⟨by omega, by omega⟩] at c22
      try rw [mI_le ⟨by omega, by omega⟩ ⟨by omega, by omega⟩] at c22
      obtain rfl : R = i := by omega
      have ho1 := ho.fi hFs
      have hd1 := hds
      refine mu_al_0 B dX7_findAncestors_87 ?_
      refine mu_cV0 B dX7_findAncestors_88 mX7_38 ⟨⟨by decide, by decide⟩, by decide, by decide⟩ (Nat.le_of_ble_eq_true rfl) ho1.1 (c_X7_sortCells G ho1 hd1 (CLb.an h16 h64) hbo2 hst) (fun r88 w88 q88 => ?_)
      obtain ⟨rfl, hF2, sb, od, hs2⟩ := q88
      have ho2 := ho1.fi hF2
      have hd2 := hd1.fi hF2 (fun j _ hh => by rcases hh with hh | hh <;> omega) (fun e j _ _ hh => by rcases hh with hh | hh <;> omega)
      refine mu_al_0 B dX7_findAncestors_91 ?_
      refine mu_il_5 B dX7_findAncestors_92 ?_
      refine mu_cV1 B dX7_findAncestors_94 mX7_42 ⟨⟨by decide, by decide⟩, by decide, by decide⟩ (Nat.le_of_ble_eq_true rfl) ho2.1 (c_X7_explore G ho2 hd2 (CLb.an h16 h64) hbo2 hst hs2 (most := most) hmo) (fun r94 w94 q94 => ?_)
      obtain ⟨rfl, hF3, q, hq1, hH3, hq2⟩ := q94
      have hee : ∀ x, x < 65536 → (ex_P (rs_bo ru) (rs_st ru) ((R + 2 + 2) * (C + 2 + 2)) (anc R C (rs_nb ru) o (R * C)) ((R + 2) * (C + 2)) q x ↔ (x < q ∧ an_P ru R C o x)) := fun x hx => ⟨fun q9 => ⟨q9.1, Nat.lt_of_lt_of_le q9.1 hq1, (anc_iff hnb hbo h16 hol2).mp q9.2⟩, fun q9 => ⟨q9.1, (anc_iff hnb hbo h16 hol2).mpr q9.2.2⟩⟩
      have hH4 := hH3.ext hee
      rw [en_eq hee] at hq2
      have ka3 := hF3.kd ho2.1
      refine mu_al_0 B dX7_findAncestors_97 ?_
      refine mu_getI B dX7_findAncestors_98 fX7_46 rfl (by assumption) ?_
      rw [hH4.2]
      refine mu_iret E rfl (by decide) (by decide) dX7_findAncestors_101 ?_
      exact ⟨(hFs.trans (so_se hF2)).trans (h_se hF3), q, hq1, hH4, hq2, rfl⟩
    · try rw [mI_le ⟨by omega, by omega⟩ ⟨by omega, by omega⟩] at c22
      have hi9 : i < R := by omega
      refine mu_iconst (v := mI 0) B dX7_findAncestors_25 rfl ?_
      refine mu_is_8 B dX7_findAncestors_26 (by decide) rfl ?_
      have LJ : ∀ j (t : mu_W), j ≤ C → (mu_Fi (seS a) w t ∧ CSd t a ((R + 2 + 2) * (C + 2 + 2)) ((R + 2) * (C + 2)) (rs_bo ru) (rs_st ru) (anc R C (rs_nb ru) o (i * C + j))) → mu_WA X G 10 (mu_Q X G M_X7_findAncestors (fa_post w a ru R C o most)) t 0 0 28 [.ref a, .ref rr, .int (mI R), .int (mI C), .int (mI o), .int (mI most), .int (mI ((o / 2 ^ (i * C + j) : Nat) : Int)), .int (mI i), .int (mI j), mu_no] [] := by
        refine mu_ind (C) (fun j (t : mu_W) => mu_WA X G 10 (mu_Q X G M_X7_findAncestors (fa_post w a ru R C o most)) t 0 0 28 [.ref a, .ref rr, .int (mI R), .int (mI C), .int (mI o), .int (mI most), .int (mI ((o / 2 ^ (i * C + j) : Nat) : Int)), .int (mI i), .int (mI j), mu_no] []) (fun j (t : mu_W) => mu_Fi (seS a) w t ∧ CSd t a ((R + 2 + 2) * (C + 2 + 2)) ((R + 2) * (C + 2)) (rs_bo ru) (rs_st ru) (anc R C (rs_nb ru) o (i * C + j))) ?_
        intro j t hj ⟨hFt, hdt⟩ ihj
        refine mu_il_8 B dX7_findAncestors_28 ?_
        refine mu_il_3 B dX7_findAncestors_30 ?_
        refine mu_icmp_ge (tgt := 81) B dX7_findAncestors_31 (by decide) (fun c31 => ?_) (fun c31 => ?_)
        · try rw [mI_le ⟨by omega, by omega⟩ ⟨by omega, by omega⟩] at c31
          try rw [mI_le ⟨by omega, by omega⟩ ⟨by omega, by omega⟩] at c31
          obtain rfl : C = j := by omega
          refine mu_inc_7 (c := mI 1) B dX7_findAncestors_81 rfl (by decide) rfl ?_
          try rw [mI_add]
          refine mu_goto (tgt := 19) B dX7_findAncestors_84 (by decide) ?_
          refine mu_fg (ih t (by omega) ⟨hFt, ?_⟩) rfl (by rw [show ((i + 1 : Nat) : Int) = (i : Int) + 1 by omega, show (i + 1) * C = i * C + C by rw [Nat.add_mul, Nat.one_mul]]; exact ⟨Or.inl rfl, Or.inl rfl, Or.inl rfl, Or.inl rfl, Or.inl rfl, Or.inl rfl, Or.inl rfl, Or.inl rfl, Or.inr rfl, Or.inr rfl, trivial⟩)
          rw [show (i + 1) * C = i * C + C by rw [Nat.add_mul, Nat.one_mul]]; exact hdt
        · try rw [mI_le ⟨by omega, by omega⟩ ⟨by omega, by omega⟩] at c31
          have hkx : ((C + 2 + 2) * (i + 2) + (j + 2)) < ((R + 2 + 2) * (C + 2 + 2)) := ly_k (R := R + 2) (C := C + 2) (y := i + 2) (x := j + 2) (by omega) (by omega)
          have hol := Nat.div_le_self o (2 ^ (i * C + j))
          have hop : (0 : Int) ≤ ((o / 2 ^ (i * C + j) : Nat) : Int) := Int.natCast_nonneg _
          refine mu_il_7 B dX7_findAncestors_34 ?_
          refine mu_iconst (v := mI 2) B dX7_findAncestors_36 rfl ?_
          refine mu_iadd B dX7_findAncestors_37 ?_
          try rw [mI_add]
          refine mu_il_3 B dX7_findAncestors_38 ?_
          refine mu_iconst (v := mI 4) B dX7_findAncestors_39 rfl ?_
          refine mu_iadd B dX7_findAncestors_40 ?_
          try rw [mI_add]
          refine mu_imul B dX7_findAncestors_41 ?_
          try rw [mI_mul]
          refine mu_il_8 B dX7_findAncestors_42 ?_
          refine mu_iadd B dX7_findAncestors_44 ?_
          try rw [mI_add]
          refine mu_iconst (v := mI 2) B dX7_findAncestors_45 rfl ?_
          refine mu_iadd B dX7_findAncestors_46 ?_
          try rw [mI_add]
          try rw [mI_add]
          rw [kx_]
          refine mu_is_9 B dX7_findAncestors_47 (by decide) rfl ?_
          refine mu_il_9 B dX7_findAncestors_49 ?_
          refine mu_al_0 B dX7_findAncestors_51 ?_
          refine mu_getI B dX7_findAncestors_52 fX7_50 rfl (hFt.kd ka) ?_
          rw [hdt.1]
          refine mu_icmp_ge (tgt := 69) B dX7_findAncestors_55 (by decide) (fun c55 => ?_) (fun c55 => ?_)
          · try rw [mI_le ⟨by omega, by omega⟩ ⟨by omega, by omega⟩] at c55
            exfalso
            omega
          · try rw [mI_le ⟨by omega, by omega⟩ ⟨by omega, by omega⟩] at c55
            refine mu_al_0 B dX7_findAncestors_58 ?_
            refine mu_getR B dX7_findAncestors_59 fX7_18 rfl (hFt.kd ka) (hFt.rv r2) ?_
            refine mu_il_9 B dX7_findAncestors_62 ?_
            refine mu_il_6 B dX7_findAncestors_64 ?_
            refine mu_iconst (v := mI 1) B dX7_findAncestors_66 rfl ?_
            refine mu_iand B dX7_findAncestors_67 ?_
            rw [mI_and _ (m := mI 1) 1 (by decide) (by decide)]
            rw [show ((o / 2 ^ (i * C + j) : Nat) : Int) % 2 ^ 1 = ((o / 2 ^ (i * C + j) % 2 : Nat) : Int) from (Int.natCast_emod _ _).symm]
            refine mu_iast B dX7_findAncestors_68 (hFt.kd k3) (mI_inN (by omega) (by decide)) ?_
            rw [mI_clampN (by omega)]
            refine mu_il_6 B dX7_findAncestors_69 ?_
            refine mu_iconst (v := mI 1) B dX7_findAncestors_71 rfl ?_
            refine mu_ishr B dX7_findAncestors_72 ?_
            rw [show (mI 1 : Int32) = mI ((1 : Nat) : Int) from rfl, mI_shr _ ⟨by omega, by omega⟩ 1 (by decide)]
            rw [show ((o / 2 ^ (i * C + j) : Nat) : Int) / 2 ^ 1 = ((o / 2 ^ (i * C + (j + 1)) : Nat) : Int) by rw [show i * C + (j + 1) = (i * C + j) + 1 by omega, Nat.pow_succ, ← Nat.div_div_eq_div_mul, Int.natCast_ediv (o / 2 ^ (i * C + j)) 2]; rfl]
            refine mu_is_6 B dX7_findAncestors_73 (by decide) rfl ?_
            refine mu_inc_8 (c := mI 1) B dX7_findAncestors_75 rfl (by decide) rfl ?_
            try rw [mI_add]
            refine mu_goto (tgt := 28) B dX7_findAncestors_78 (by decide) ?_
            refine mu_fg (ihj (mu_si t (a + 3) ((C + 2 + 2) * (i + 2) + (j + 2)) (mI ((o / 2 ^ (i * C + j) % 2 : Nat) : Int))) (by omega) ⟨hFt.si ⟨by omega, by omega⟩, ?_⟩) rfl (by rw [show ((j + 1 : Nat) : Int) = (j : Int) + 1 by omega]; exact ⟨Or.inl rfl, Or.inl rfl, Or.inl rfl, Or.inl rfl, Or.inl rfl, Or.inl rfl, Or.inl rfl, Or.inl rfl, Or.inl rfl, Or.inr rfl, trivial⟩)
            exact hdt.due (fun k hk => ⟨rfl, rfl, an_step hi9 (by omega) k hk⟩)
      exact mu_to (LJ 0 s (Nat.zero_le _) ⟨hFs, hds⟩) rfl (by rw [Nat.add_zero]; rfl)
  show mu_WA X G 10 _ _ 0 0 0 _ []
  refine mu_al_0 B dX7_findAncestors_0 ?_
  refine mu_al_1 B dX7_findAncestors_1 ?_
  refine mu_il_2 B dX7_findAncestors_2 ?_
  refine mu_iconst (v := mI 2) B dX7_findAncestors_3 rfl ?_
  refine mu_iadd B dX7_findAncestors_4 ?_
  try rw [mI_add]
  try rw [mI_add]
  rw [show (R : Int) + 2 = ((R + 2 : Nat) : Int) by omega]
  refine mu_il_3 B dX7_findAncestors_5 ?_
  refine mu_iconst (v := mI 2) B dX7_findAncestors_6 rfl ?_
  refine mu_iadd B dX7_findAncestors_7 ?_
  try rw [mI_add]
  try rw [mI_add]
  rw [show (C : Int) + 2 = ((C + 2 : Nat) : Int) by omega]
  refine mu_iconst (v := mI 0) B dX7_findAncestors_8 rfl ?_
  refine mu_cV4 B dX7_findAncestors_9 mX7_34 ⟨⟨by decide, by decide⟩, by decide, by decide⟩ (Nat.le_of_ble_eq_true rfl) ho.1 (c_X7_layOut G ho hru (by omega) (R := R + 2) (C := C + 2) (dw := 0) ⟨by omega, by omega⟩ ⟨by omega, by omega⟩ h16 h64 (by decide)) (fun r9 w9 q9 => ?_)
  obtain ⟨rfl, hF1, hd0⟩ := q9
  refine mu_il_4 B dX7_findAncestors_12 ?_
  refine mu_is_6 B dX7_findAncestors_14 (by decide) rfl ?_
  refine mu_iconst (v := mI 0) B dX7_findAncestors_16 rfl ?_
  refine mu_is_7 B dX7_findAncestors_17 (by decide) rfl ?_
  refine mu_to (LI 0 w9 (Nat.zero_le _) ⟨ly_se hF1, hd0.ext (fun k hk => ⟨rfl, rfl, ?_⟩)⟩) rfl (by rw [Nat.zero_mul, Nat.pow_zero, Nat.div_one]; rfl)
  rw [an_d, ly_d, Nat.zero_mul, dT_0]
  split <;> rfl
