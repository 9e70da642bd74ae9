/-! ===== rows: the tape, what is said of a field ===== -/
def s12 (m : Nat) : Nat → Nat → Prop := fun q j => (q = m ∧ j = 2) ∨ q = m + 1
theorem mu_Fi.one (w : mu_W) (a k : Nat) (x : Int32) {S : Nat → Nat → Prop} (hS : S a k) : mu_Fi S w (mu_si w a k x) := (mu_Fi.refl w).si hS

set_option maxHeartbeats 2000000 in
theorem rw_feed {G : mu_G} {a b c d e : Int32} : ROW G M_X11_feed M_X12_feed [.int a, .int b, .int c, .int d, .int e] := by
  intro w o N n tp nr rs nf fs ng gs sr P sx sy hC hM hB hN
  obtain ⟨ra, fa, ga, hf, hg, C⟩ := id hC
  obtain ⟨c1, c2, c3, c4, c5, c6, c7, ⟨c8, c9, c10⟩, c11⟩ := id C
  obtain ⟨m1, m2, m3, m4, m5, m6, m7, m8⟩ := id hM
  refine (c_X11_feed G c1 c3).mono (fun r w1 p => ?_)
  by_cases hq : n + 20 ≤ 2000
  · rw [if_pos hq] at p
    have hG := mu_Gx.fi p.2.2
    have hC1 : CST w1 o (n + 20) (sp_tape n tp a b c d e) nr rs nf fs ng gs sr P sx sy := ⟨ra, fa, ga, hf, hg, C.tap hG (fun q j s => by unfold ap_S at s; unfold SCR; omega) (C.kS hG (fun q j l1 l2 => by unfold ap_S; omega)) p.2.1⟩
    have hM1 := hM.out c2 hG (fun q j l1 l2 => by unfold ap_S; omega)
    refine RB.mk (S := s12 (o + 35)) p.1 hB.up hC1 ((c_X12_feed G hM1.1 hM1.2.1).mono (fun r2 w2 p2 => ?_)) (fun q j s => by unfold s12 at s; omega)
    rw [if_pos hq] at p2
    have F : mu_Fi (s12 (o + 35)) w1 w2 := p2.2.2.2
    exact ⟨p2.1, F, ⟨hM1.1.fi F, p2.2.2.1, hM1.2.2.1.ei (F.e (by unfold s12; omega)) (fun q j l1 l2 => F.e (by unfold s12; omega)), hM1.2.2.2.1.ei (F.e (by unfold s12; omega)) (fun q j l1 l2 => F.e (by unfold s12; omega)), hM1.2.2.2.2.1.ei (F.e (by unfold s12; omega)) (fun q j l1 l2 => F.e (by unfold s12; omega)), hM1.2.2.2.2.2.1.ei (F.e (by unfold s12; omega)) (F.e (by unfold s12; omega)) (fun j => F.e (by unfold s12; omega)), (F.e (by unfold s12; omega)).trans hM1.2.2.2.2.2.2.1, (F.e (by unfold s12; omega)).trans hM1.2.2.2.2.2.2.2⟩⟩
  · rw [if_neg hq] at p
    obtain ⟨p, rfl⟩ := p
    refine RB.ro p hB hC hM ((c_X12_feed G m1 m2).mono (fun r2 w2 p2 => ?_))
    rw [if_neg hq] at p2
    exact p2

set_option maxHeartbeats 2000000 in
theorem rw_end {G : mu_G} {a : Int32} : ROW G M_X11_end M_X12_end [.int a] := by
  intro w o N n tp nr rs nf fs ng gs sr P sx sy hC hM hB hN
  obtain ⟨za, ha, rfl⟩ := mI_ex a
  obtain ⟨ra, fa, ga, hf, hg, C⟩ := id hC
  obtain ⟨c1, c2, c3, c4, c5, c6, c7, ⟨c8, c9, c10⟩, c11⟩ := id C
  obtain ⟨m1, m2, m3, m4, m5, m6, m7, m8⟩ := id hM
  refine (c_X11_end G c1 c3 ha).mono (fun r w1 p => ?_)
  have hG := mu_Gx.fi p.2.1
  have hM1 := hM.out c2 hG (fun q j l1 l2 => by unfold ap_S; omega)
  have hSt := C.kS hG (fun q j l1 l2 => by unfold ap_S; omega)
  by_cases hq : 0 ≤ za ∧ za ≤ n
  · rw [if_pos hq, if_pos hq] at p
    have hC1 : CST w1 o za.toNat tp nr rs nf fs ng gs sr P sx sy := ⟨ra, fa, ga, hf, hg, C.tap hG (fun q j s => by unfold ap_S at s; unfold SCR; omega) hSt p.2.2⟩
    refine RB.mk (S := s12 (o + 35)) p.1 hB.up hC1 ((c_X12_end G hM1.1 hM1.2.1 ha).mono (fun r2 w2 p2 => ?_)) (fun q j s => by unfold s12 at s; omega)
    rw [if_pos hq, if_pos hq] at p2
    have F : mu_Fi (s12 (o + 35)) w1 w2 := by rw [p2.2]; exact mu_Fi.one _ _ _ _ (by unfold s12; omega)
    refine ⟨p2.1, F, ⟨hM1.1.fi F, ?_, hM1.2.2.1.ei (F.e (by unfold s12; omega)) (fun q j l1 l2 => F.e (by unfold s12; omega)), hM1.2.2.2.1.ei (F.e (by unfold s12; omega)) (fun q j l1 l2 => F.e (by unfold s12; omega)), hM1.2.2.2.2.1.ei (F.e (by unfold s12; omega)) (fun q j l1 l2 => F.e (by unfold s12; omega)), hM1.2.2.2.2.2.1.ei (F.e (by unfold s12; omega)) (F.e (by unfold s12; omega)) (fun j => F.e (by unfold s12; omega)), (F.e (by unfold s12; omega)).trans hM1.2.2.2.2.2.2.1, (F.e (by unfold s12; omega)).trans hM1.2.2.2.2.2.2.2⟩⟩
    have ht := hM1.2.1
    refine ⟨⟨by have := ht.1.1; omega, fun j hj => ht.1.2 j (by omega)⟩, ?_, fun j hj => ?_⟩
    · rw [p2.2, mu_iv_same, Int.toNat_of_nonneg hq.1]
    · rw [p2.2, mu_iv_oth _ _ (by omega)]; exact ht.2.2 j (by omega)
  · rw [if_neg hq, if_neg hq] at p
    have hC1 : CST w1 o n tp nr rs nf fs ng gs sr P sx sy := ⟨ra, fa, ga, hf, hg, C.tap hG (fun q j s => by unfold ap_S at s; unfold SCR; omega) hSt p.2.2⟩
    refine RB.ro p.1 hB hC1 hM1 ((c_X12_end G hM1.1 hM1.2.1 ha).mono (fun r2 w2 p2 => ?_))
    rw [if_neg hq, if_neg hq] at p2
    exact p2

theorem ftw_mB {i : Int} : ∀ (l : List Nat) (p : Nat) (x : Int32), ftw i p x (mB l) = if (p : Int) ≤ i ∧ i < p + l.length then mI ((l.getD (i - p).toNat 0 : Nat) : Int) else x
  | [], p, x => by
    rw [if_neg (by simp only [List.length_nil]; omega)]; rfl
  | z :: l, p, x => by
    show ftw i (p + 1) (if (p : Int) = i then mI (z : Nat) else x) (mB l) = _
    rw [ftw_mB l (p + 1)]
    by_cases h1 : (p : Int) = i
    · rw [if_neg (by omega), if_pos h1, if_pos (by simp only [List.length_cons]; omega), show (i - p).toNat = 0 by omega]
      rfl
    · rw [if_neg h1]
      by_cases h2 : ((p + 1 : Nat) : Int) ≤ i ∧ i < ((p + 1 : Nat) : Int) + l.length
      · rw [if_pos h2, if_pos (by simp only [List.length_cons]; omega), show (i - p).toNat = (i - ((p + 1 : Nat) : Int)).toNat + 1 by omega]
        rfl
      · rw [if_neg h2, if_neg (by simp only [List.length_cons]; omega)]

set_option maxHeartbeats 2000000 in
theorem rw_textByte {G : mu_G} {a b : Int32} : ROW G M_X11_textByte M_X12_textByte [.int a, .int b] := by
  intro w o N n tp nr rs nf fs ng gs sr P sx sy hC hM hB hN
  obtain ⟨za, ha, rfl⟩ := mI_ex a
  obtain ⟨zb, hb, rfl⟩ := mI_ex b
  obtain ⟨ra, fa, ga, hf, hg, C⟩ := id hC
  obtain ⟨c1, c2, c3, c4, c5, c6, c7, ⟨c8, c9, c10⟩, c11⟩ := id C
  obtain ⟨m1, m2, m3, m4, m5, m6, m7, m8⟩ := id hM
  have hs : ∀ q j, spl_S (o + 35) q j → SM (o + 35) q j := fun q j s => by unfold spl_S at s; unfold SM; omega
  by_cases hq : 0 ≤ za ∧ za < nf
  · obtain ⟨i, rfl⟩ := Int.eq_ofNat_of_zero_le hq.1
    have hi : i < nf := by omega
    have hfk := (m4.2.2 i hi).1
    refine (c_X11_textByte_y G c1 c5 (i := i) hi hb).mono (fun r w1 p => ?_)
    obtain ⟨L, R, U, D, M, l, u, d, hx, rfl, rfl, rfl, hr, F⟩ := p
    have hG := mu_Gx.fi F
    have hC1 : CST w1 o n tp nr rs nf fs ng gs sr P sx sy := ⟨ra, fa, ga, hf, hg, C.scr hG (fun q j s => by unfold boS at s; unfold SCR; omega) (C.kS hG (fun q j l1 l2 => by unfold boS; omega))⟩
    have hM1 := hM.out c2 hG (fun q j l1 l2 => by unfold boS; omega)
    refine RB.sc hr hB hC1 hM1 ((c_X12_textByte G hM1.1 hM1.2.2.2.1 ha hb).mono (fun r2 w2 p2 => ?_)) hs
    unfold tb_post at p2
    rw [if_pos hq] at p2
    obtain ⟨F2, L2, R2, U2, D2, M2, hk, hr2⟩ := p2
    refine ⟨?_, F2⟩
    rw [Int.toNat_natCast] at hk hr2
    obtain ⟨e1, e2⟩ := hx.lk hk
    subst e1
    have eT : spT (fs_c (fs i)) L2 U2 D2 M = txR (fs_c (fs i)) l (d + 1 - u) u (-1) := by
      rw [← spT_eq hfk.2.2.2 hx rfl rfl rfl]
      unfold spT
      by_cases h0 : M = 0
      · rw [if_pos h0, if_pos h0]
      · obtain ⟨e3, e4, e5, e6⟩ := e2 h0
        rw [if_neg h0, if_neg h0, ← e3, ← e5, ← e6]
    rw [eT] at hr2
    rw [hr2, ftw_mB]
    by_cases hy : 0 ≤ zb ∧ zb < (txR (fs_c (fs i)) l (d + 1 - u) u (-1)).length
    · rw [if_pos hy, if_pos (by omega), show (zb - ((0 : Nat) : Int)).toNat = zb.toNat by omega]
    · rw [if_neg hy, if_neg (by omega)]
  · refine (c_X11_textByte_n G c1 c5 ha hq).mono (fun r w1 p => ?_)
    obtain ⟨p, rfl⟩ := p
    refine RB.ro p hB hC hM ((c_X12_textByte G m1 m4 ha hb).mono (fun r2 w2 p2 => ?_))
    unfold tb_post at p2
    rw [if_neg hq] at p2
    exact p2

set_option maxHeartbeats 2000000 in
theorem rw_about {G : mu_G} {a b : Int32} : ROW G M_X11_about M_X12_about [.int a, .int b] := by
  intro w o N n tp nr rs nf fs ng gs sr P sx sy hC hM hB hN
  obtain ⟨za, ha, rfl⟩ := mI_ex a
  obtain ⟨zb, hb, rfl⟩ := mI_ex b
  obtain ⟨ra, fa, ga, hf, hg, C⟩ := id hC
  obtain ⟨c1, c2, c3, c4, c5, c6, c7, ⟨c8, c9, c10⟩, c11⟩ := id C
  obtain ⟨m1, m2, m3, m4, m5, m6, m7, m8⟩ := id hM
  have hs : ∀ q j, ab_S (o + 35) q j → SM (o + 35) q j := fun q j s => by unfold ab_S at s; unfold SM; omega
  by_cases hq : 0 ≤ za ∧ za < nf
  · obtain ⟨i, rfl⟩ := Int.eq_ofNat_of_zero_le hq.1
    have hi : i < nf := by omega
    have hfk := (m4.2.2 i hi).1
    refine (c_X11_about_y G c1 c5 (i := i) hi hb).mono (fun r w1 p => ?_)
    obtain ⟨F, L, R, U, D, M, hx, q0, q1, q2, q3, q4, q5, q6, q7, qb⟩ := p
    have hG := mu_Gx.fi F
    have hC1 : CST w1 o n tp nr rs nf fs ng gs sr P sx sy := ⟨ra, fa, ga, hf, hg, C.scr hG (fun q j s => by unfold dqS at s; unfold SCR; omega) (C.kS hG (fun q j l1 l2 => by unfold dqS; omega))⟩
    have hM1 := hM.out c2 hG (fun q j l1 l2 => by unfold dqS; omega)
    have hR := c_X12_about G hM1.1 hM1.2.2.2.1 ha hb
    by_cases hy : 0 ≤ zb ∧ zb ≤ 7
    · have hk : ∃ v, r = some (.int v) ∧ (zb = 0 → v = mI M) ∧ (zb = 1 → v = if M = 0 then mI 0 else mI (L - 128)) ∧ (zb = 2 → v = if M = 0 then mI 0 else mI (U - 128)) ∧ (zb = 3 → v = if M = 0 then mI 0 else mI (R - 128)) ∧ (zb = 4 → v = if M = 0 then mI 0 else mI (D - 128)) ∧ (zb = 5 → v = fs_g (fs i)) ∧ (zb = 6 → v = mI (fs_r (fs i))) ∧ (zb = 7 → ∃ S, DTOT (fs_c (fs i)) 8 S ∧ v = mI (S : Nat)) := by
        have h8 : zb = 0 ∨ zb = 1 ∨ zb = 2 ∨ zb = 3 ∨ zb = 4 ∨ zb = 5 ∨ zb = 6 ∨ zb = 7 := by omega
        rcases h8 with h | h | h | h | h | h | h | h
        · exact ⟨_, q0 h, fun _ => rfl, fun q => by omega, fun q => by omega, fun q => by omega, fun q => by omega, fun q => by omega, fun q => by omega, fun q => by omega⟩
        · exact ⟨_, q1 h, fun q => by omega, fun _ => rfl, fun q => by omega, fun q => by omega, fun q => by omega, fun q => by omega, fun q => by omega, fun q => by omega⟩
        · exact ⟨_, q2 h, fun q => by omega, fun q => by omega, fun _ => rfl, fun q => by omega, fun q => by omega, fun q => by omega, fun q => by omega, fun q => by omega⟩
        · exact ⟨_, q3 h, fun q => by omega, fun q => by omega, fun q => by omega, fun _ => rfl, fun q => by omega, fun q => by omega, fun q => by omega, fun q => by omega⟩
        · exact ⟨_, q4 h, fun q => by omega, fun q => by omega, fun q => by omega, fun q => by omega, fun _ => rfl, fun q => by omega, fun q => by omega, fun q => by omega⟩
        · exact ⟨_, q5 h, fun q => by omega, fun q => by omega, fun q => by omega, fun q => by omega, fun q => by omega, fun _ => rfl, fun q => by omega, fun q => by omega⟩
        · exact ⟨_, q6 h, fun q => by omega, fun q => by omega, fun q => by omega, fun q => by omega, fun q => by omega, fun q => by omega, fun _ => rfl, fun q => by omega⟩
        · obtain ⟨S, hS, hr⟩ := q7 h
          exact ⟨_, hr, fun q => by omega, fun q => by omega, fun q => by omega, fun q => by omega, fun q => by omega, fun q => by omega, fun q => by omega, fun _ => ⟨S, hS, rfl⟩⟩
      obtain ⟨v, hr, v0, v1, v2, v3, v4, v5, v6, v7⟩ := hk
      refine RB.sc hr hB hC1 hM1 (hR.mono (fun r2 w2 p2 => ?_)) hs
      unfold ab_post at p2
      rw [if_pos ⟨hq, hy⟩, Int.toNat_natCast] at p2
      obtain ⟨F2, v9, hr2, L2, R2, U2, D2, M2, hk, g0, g1, g2, g3, g4, g5, g6, g7⟩ := p2
      refine ⟨?_, F2⟩
      obtain ⟨e1, e2⟩ := hx.lk hk
      subst e1
      rw [hr2]
      have h8 : zb = 0 ∨ zb = 1 ∨ zb = 2 ∨ zb = 3 ∨ zb = 4 ∨ zb = 5 ∨ zb = 6 ∨ zb = 7 := by omega
      rcases h8 with h | h | h | h | h | h | h | h
      · rw [v0 h, g0 h]
      · rw [v1 h, g1 h]
        by_cases h0 : M = 0
        · rw [if_pos h0, if_pos h0]
        · obtain ⟨e3, e4, e5, e6⟩ := e2 h0
          rw [if_neg h0, if_neg h0, e3]
      · rw [v2 h, g2 h]
        by_cases h0 : M = 0
        · rw [if_pos h0, if_pos h0]
        · obtain ⟨e3, e4, e5, e6⟩ := e2 h0
          rw [if_neg h0, if_neg h0, e5]
      · rw [v3 h, g3 h]
        by_cases h0 : M = 0
        · rw [if_pos h0, if_pos h0]
        · obtain ⟨e3, e4, e5, e6⟩ := e2 h0
          rw [if_neg h0, if_neg h0, e4]
      · rw [v4 h, g4 h]
        by_cases h0 : M = 0
        · rw [if_pos h0, if_pos h0]
        · obtain ⟨e3, e4, e5, e6⟩ := e2 h0
          rw [if_neg h0, if_neg h0, e6]
      · rw [v5 h, g5 h]
      · rw [v6 h, g6 h]
      · obtain ⟨S, hS, e⟩ := v7 h
        obtain ⟨S2, hS2, e2⟩ := g7 h
        rw [e, e2, hS.uniq hS2]
    · refine RB.ro (qb hy) hB hC1 hM1 (hR.mono (fun r2 w2 p2 => ?_))
      unfold ab_post at p2
      rw [if_neg (fun q => hy q.2)] at p2
      exact p2
  · refine (c_X11_about_n G c1 c5 ha hq).mono (fun r w1 p => ?_)
    obtain ⟨p, rfl⟩ := p
    refine RB.ro p hB hC hM ((c_X12_about G m1 m4 ha hb).mono (fun r2 w2 p2 => ?_))
    unfold ab_post at p2
    rw [if_neg (fun q => hq q.1)] at p2
    exact p2
