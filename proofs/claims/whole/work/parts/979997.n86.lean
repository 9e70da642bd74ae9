/-! ===== rows: fields that change ===== -/
theorem CSx.ru {w : mu_W} {o : Nat} {n : Nat} {tp : Nat → Nat} {nr : Nat} {rs : Nat → mu_RS} {nf : Nat} {fs : Nat → mu_FS} {ng : Nat} {gs : Nat → mu_GS} {sr : Nat} {P : Nat → Prop} {sx sy : Int32} {ra fa ga : Nat → Nat} {hf hg : Nat} (h : CSx w o n tp nr rs nf fs ng gs sr P sx sy ra fa ga hf hg) {i : Nat} (hk : fs_ok nr rs (fs i)) : RUq w (ra (fs_r (fs i))) (rs (fs_r (fs i))) ∧ o + 35 ≤ ra (fs_r (fs i)) := ⟨(h.2.2.2.1.2.2 _ hk.1).2.2.2.uq hk.2.1 hk.2.2.1, (h.2.2.2.1.2.2 _ hk.1).2.1⟩
theorem GB.gi {ng : Nat} {gs : Nat → mu_GS} {N g k : Nat} {c : Nat → Nat → Nat} (h : GB ng gs N) (hk : k ≤ N + 1000) : GB ng (gi_up gs g k c) (N + 1000) := fun i hi => by
  unfold gi_up rs_up
  by_cases e : i = g
  · rw [if_pos e]; exact hk
  · rw [if_neg e]; exact h.up i hi
theorem cntR_lk {c : Nat → Nat → Nat} {L R U D : Int} {M : Nat} (h : LKP c 256 0 L R U D M) : M = cntR c 256 := by
  have := h.1
  rw [cntX, Nat.add_zero] at this
  exact this
theorem CMx.cnt {c : Nat → Nat → Nat} {L R U D : Int} {M : Nat} (h : CMx c L R U D M) : M = cntR c 256 := by
  rcases h with ⟨h1, h2, h3, h4, h5, h6⟩ | ⟨h1, h2⟩
  · rw [h1]; exact cntR_lk h6
  · exact cntR_lk h2
theorem cu_le {c : Nat → Nat → Nat} (h : ∀ i j, c i j ≤ 1) {p q v : Nat} (hv : v ≤ 1) : ∀ i j, cu c p q v i j ≤ 1 := fun i j => by
  unfold cu
  by_cases e : i = p ∧ j = q
  · rw [if_pos e]; exact hv
  · rw [if_neg e]; exact h i j

set_option maxHeartbeats 2000000 in
theorem rw_put {G : mu_G} {a b c d : Int32} : ROW G M_X11_put M_X12_put [.int a, .int b, .int c, .int d] := by
  intro w o N n tp nr rs nf fs ng gs sr P sx sy hC hM hB hN
  obtain ⟨za, ha, rfl⟩ := mI_ex a
  obtain ⟨zb, hb, rfl⟩ := mI_ex b
  obtain ⟨zc, hc, rfl⟩ := mI_ex c
  obtain ⟨zd, hd, rfl⟩ := mI_ex d
  obtain ⟨ra, fa, ga, hf, hg, C⟩ := id hC
  obtain ⟨c1, c2, c3, c4, c5, c6, c7, ⟨c8, c9, c10⟩, c11⟩ := id C
  obtain ⟨m1, m2, m3, m4, m5, m6, m7, m8⟩ := id hM
  have hR := c_X12_put G m1 m4 ha hb hc hd
  by_cases hq : 0 ≤ za ∧ za < nf
  · obtain ⟨i, rfl⟩ := Int.eq_ofNat_of_zero_le hq.1
    have hi : i < nf := by omega
    have hfk := (m4.2.2 i hi).1
    have hif : i < hf := Nat.lt_of_lt_of_le hi c5.1
    by_cases hp : (-128 ≤ zb ∧ zb < 128 ∧ -128 ≤ zc ∧ zc < 128) ∧ 0 ≤ zd ∧ zd ≤ 1
    · obtain ⟨x, hx⟩ : ∃ x : Nat, zb = (x : Int) - 128 := ⟨(zb + 128).toNat, by omega⟩
      obtain ⟨y, hy⟩ : ∃ y : Nat, zc = (y : Int) - 128 := ⟨(zc + 128).toNat, by omega⟩
      obtain ⟨v, hv⟩ := Int.eq_ofNat_of_zero_le hp.2.1
      subst hx hy hv
      refine (c_X11_put_y G c1 c5 (i := i) hi (p := x) (q := y) (v := v) (by omega) (by omega) (by omega)).mono (fun r w1 p => ?_)
      obtain ⟨hr, F1, hb1, L, R, U, D, M, hx1, hm1⟩ := p
      have hG := mu_Gx.fi F1
      have hli := C.lo.2.1 i hif
      have cf := c5.2.2.2.2.2.2 i hi
      have cfo := (c5.2.2.2.1 i hif).2.2.2
      have hC1 : CST w1 o n tp nr rs nf (fi_up fs i (fs_g (fs i)) (cu (fs_c (fs i)) x y v)) ng gs sr P sx sy := ⟨ra, fa, ga, hf, hg, C.fld hG hif (fun q j s => by unfold chS at s; omega) (C.kS hG (fun q j l1 l2 => by unfold chS; omega)) (cfo.sm (F1.2.1 _) (F1.2.1 _) (F1.2.1 _) (F1.2.2.1 _ _) (F1.2.2.1 _ _)) (fun _ => ⟨hb1, ⟨L, R, U, D, M, hx1, hm1⟩, F1.rv cf.2.2.1, F1.iv (by unfold chS; omega) cf.2.2.2.1, F1.iv (by unfold chS; omega) cf.2.2.2.2⟩)⟩
      have hM1 := hM.out c2 hG (fun q j l1 l2 => by unfold chS; omega)
      have hR1 := c_X12_put G hM1.1 hM1.2.2.2.1 ha hb hc hd
      refine RB.mk (S := fun q j => q = o + 35 + 9 ∧ j = 65536 * i + 256 * y + x) hr hB.up hC1 (hR1.mono (fun r2 w2 p2 => ?_)) (fun q j s => by omega)
      rw [if_pos ⟨hq, hp⟩, Int.toNat_natCast, show ((x : Int) - 128 + 128).toNat = x by omega, show ((y : Int) - 128 + 128).toNat = y by omega] at p2
      obtain ⟨hr2, hw2⟩ := p2
      have F : mu_Fi (fun q j => q = o + 35 + 9 ∧ j = 65536 * i + 256 * y + x) w1 w2 := by rw [hw2]; exact mu_Fi.one _ _ _ _ ⟨rfl, rfl⟩
      have hf1 := hM1.2.2.2.1
      refine ⟨hr2, F, hM1.1.fi F, hM1.2.1.ei (F.e (by omega)) (fun j => F.e (by omega)), hM1.2.2.1.ei (F.e (by omega)) (fun q j l1 l2 => F.e (by omega)), ?_, hM1.2.2.2.2.1.ei (F.e (by omega)) (fun q j l1 l2 => F.e (by omega)), hM1.2.2.2.2.2.1.ei (F.e (by omega)) (F.e (by omega)) (fun j => F.e (by omega)), (F.e (by omega)).trans hM1.2.2.2.2.2.2.1, (F.e (by omega)).trans hM1.2.2.2.2.2.2.2⟩
      refine hf1.cell hi (cu_le hfk.2.2.2 (by omega)) (F.e (by omega)) (fun q _ => F.e (by omega)) (fun q _ _ => F.e (by omega)) ((F.e (by omega)).trans (hf1.2.2 i hi).2.2.1) (fun j _ hj => F.e (by omega)) (fun s t hs ht => ?_)
      rw [hw2, mu_iv_si]
      unfold cu
      by_cases e : s = x ∧ t = y
      · rw [if_pos (by omega), if_pos e]
      · rw [if_neg (by omega), if_neg e]
        exact (hf1.2.2 i hi).2.2.2 s t hs ht
    · refine (c_X11_put_b G c1 c5 (i := i) hi hb hc hd hp).mono (fun r w1 p => ?_)
      obtain ⟨p, rfl⟩ := p
      refine RB.ro p hB hC hM (hR.mono (fun r2 w2 p2 => ?_))
      rw [if_neg (fun q => hp q.2)] at p2
      exact p2
  · refine (c_X11_put_n G c1 c5 ha hq).mono (fun r w1 p => ?_)
    obtain ⟨p, rfl⟩ := p
    refine RB.ro p hB hC hM (hR.mono (fun r2 w2 p2 => ?_))
    rw [if_neg (fun q => hq q.1)] at p2
    exact p2

set_option maxHeartbeats 2000000 in
theorem rw_empty {G : mu_G} {a : Int32} : ROW G M_X11_empty M_X12_empty [.int a] := by
  intro w o N n tp nr rs nf fs ng gs sr P sx sy hC hM hB hN
  obtain ⟨za, ha, rfl⟩ := mI_ex a
  obtain ⟨ra, fa, ga, hf, hg, C⟩ := id hC
  obtain ⟨c1, c2, c3, c4, c5, c6, c7, ⟨c8, c9, c10⟩, c11⟩ := id C
  obtain ⟨m1, m2, m3, m4, m5, m6, m7, m8⟩ := id hM
  by_cases hq : 0 ≤ za ∧ za < nf
  · obtain ⟨i, rfl⟩ := Int.eq_ofNat_of_zero_le hq.1
    have hi : i < nf := by omega
    have hfk := (m4.2.2 i hi).1
    have hif : i < hf := Nat.lt_of_lt_of_le hi c5.1
    refine (c_X11_empty_y G c1 c5 (i := i) hi).mono (fun r w1 p => ?_)
    obtain ⟨hr, -, F1, hb1, hx1, hm1, h4⟩ := p
    have hG := mu_Gx.fi F1
    have hli := C.lo.2.1 i hif
    have cf := c5.2.2.2.2.2.2 i hi
    have cfo := (c5.2.2.2.1 i hif).2.2.2
    obtain ⟨L, R, U, D, M, hx0, hm0⟩ := cf.2.1
    rw [hm0.1, hx0.cnt] at hr
    have hC1 : CST w1 o n tp nr rs nf (fi_up fs i (mI 0) (fun _ _ => 0)) ng gs sr P sx sy := ⟨ra, fa, ga, hf, hg, C.fld hG hif (fun q j s => by unfold clS at s; omega) (C.kS hG (fun q j l1 l2 => by unfold clS; omega)) (cfo.sm (F1.2.1 _) (F1.2.1 _) (F1.2.1 _) (F1.2.2.1 _ _) (F1.2.2.1 _ _)) (fun _ => ⟨hb1, ⟨0, 0, 0, 0, 0, hx1, hm1⟩, F1.rv cf.2.2.1, F1.iv (by unfold clS; omega) cf.2.2.2.1, h4⟩)⟩
    have hM1 := hM.out c2 hG (fun q j l1 l2 => by unfold clS; omega)
    refine RB.mk hr hB.up hC1 ((c_X12_empty G hM1.1 hM1.2.2.2.1 ha).mono (fun r2 w2 p2 => ?_)) (S := em_S (o + 35) i) (fun q j s => by unfold em_S at s; omega)
    unfold em_post at p2
    rw [if_neg (fun q => q hq), Int.toNat_natCast] at p2
    obtain ⟨hr2, hf2, F⟩ := p2
    exact ⟨hr2, F, ⟨hM1.1.fi F, hM1.2.1.ei (F.e (by unfold em_S; omega)) (fun j => F.e (by unfold em_S; omega)), hM1.2.2.1.ei (F.e (by unfold em_S; omega)) (fun q j l1 l2 => F.e (by unfold em_S; omega)), hf2, hM1.2.2.2.2.1.ei (F.e (by unfold em_S; omega)) (fun q j l1 l2 => F.e (by unfold em_S; omega)), hM1.2.2.2.2.2.1.ei (F.e (by unfold em_S; omega)) (F.e (by unfold em_S; omega)) (fun j => F.e (by unfold em_S; omega)), (F.e (by unfold em_S; omega)).trans hM1.2.2.2.2.2.2.1, (F.e (by unfold em_S; omega)).trans hM1.2.2.2.2.2.2.2⟩⟩
  · refine (c_X11_empty_n G c1 c5 ha hq).mono (fun r w1 p => ?_)
    obtain ⟨p, rfl⟩ := p
    refine RB.ro p hB hC hM ((c_X12_empty G m1 m4 ha).mono (fun r2 w2 p2 => ?_))
    unfold em_post at p2
    rw [if_pos hq] at p2
    exact p2

set_option maxHeartbeats 2000000 in
theorem rw_steps {G : mu_G} {a b : Int32} : ROW G M_X11_steps M_X12_steps [.int a, .int b] := by
  intro w o N n tp nr rs nf fs ng gs sr P sx sy hC hM hB hN
  obtain ⟨za, ha, rfl⟩ := mI_ex a
  obtain ⟨zb, hb, rfl⟩ := mI_ex b
  obtain ⟨ra, fa, ga, hf, hg, C⟩ := id hC
  obtain ⟨c1, c2, c3, c4, c5, c6, c7, ⟨c8, c9, c10⟩, c11⟩ := id C
  obtain ⟨m1, m2, m3, m4, m5, m6, m7, m8⟩ := id hM
  have hR := c_X12_steps G m1 m3 m4 ha hb
  by_cases hq : 0 ≤ za ∧ za < nf
  · obtain ⟨i, rfl⟩ := Int.eq_ofNat_of_zero_le hq.1
    have hi : i < nf := by omega
    have hfk := (m4.2.2 i hi).1
    have hif : i < hf := Nat.lt_of_lt_of_le hi c5.1
    by_cases hp : 0 ≤ zb ∧ zb ≤ 64
    · obtain ⟨k, rfl⟩ := Int.eq_ofNat_of_zero_le hp.1
      obtain ⟨hru, hro⟩ := C.ru hfk
      refine (c_X11_steps_y G c1 c5 (i := i) hi hru hro (n := k) (by omega)).mono (fun r w1 p => ?_)
      obtain ⟨p1, p3⟩ := p
      have hli := C.lo.2.1 i hif
      have cf := c5.2.2.2.2.2.2 i hi
      by_cases hd : sp_done (fs_c (fs i)) k
      · obtain ⟨hr, F1, hSt, ⟨hFo, hb1, L, R, U, D, M, hx1, hm1⟩, h4⟩ := p3 hd
        have hG := mu_Gx.ofFr F1
        rw [cf.2.2.2.2] at hr h4
        have hC1 : CST w1 o n tp nr rs nf (sp_go rs fs i k) ng gs sr P sx sy := ⟨ra, fa, ga, hf, hg, C.fld hG hif (fun q j s => by unfold avS at s; unfold SCR; omega) hSt hFo (fun _ => ⟨hb1, ⟨L, R, U, D, M, hx1, hm1⟩, (F1.2.2 _ _ (by unfold avS; omega)).2.2.trans cf.2.2.1, (F1.2.2 _ _ (by unfold avS; omega)).1.trans cf.2.2.2.1, h4⟩)⟩
        have hM1 := hM.out c2 hG (fun q j l1 l2 => by unfold avS; omega)
        refine RB.mk hr hB.up hC1 ((c_X12_steps G hM1.1 hM1.2.2.1 hM1.2.2.2.1 ha hb).mono (fun r2 w2 p2 => ?_)) (S := go_S (o + 35) i) (fun q j s => by unfold go_S at s; omega)
        rw [if_pos ⟨hq, hp⟩, Int.toNat_natCast, Int.toNat_natCast] at p2
        obtain ⟨F, p4, -⟩ := p2
        exact ⟨(p4 hd).1, F, ⟨hM1.1.fi F, hM1.2.1.ei (F.e (by unfold go_S; omega)) (fun j => F.e (by unfold go_S; omega)), hM1.2.2.1.ei (F.e (by unfold go_S; omega)) (fun q j l1 l2 => F.e (by unfold go_S; omega)), (p4 hd).2, hM1.2.2.2.2.1.ei (F.e (by unfold go_S; omega)) (fun q j l1 l2 => F.e (by unfold go_S; omega)), hM1.2.2.2.2.2.1.ei (F.e (by unfold go_S; omega)) (F.e (by unfold go_S; omega)) (fun j => F.e (by unfold go_S; omega)), (F.e (by unfold go_S; omega)).trans hM1.2.2.2.2.2.2.1, (F.e (by unfold go_S; omega)).trans hM1.2.2.2.2.2.2.2⟩⟩
      · obtain ⟨hr, rfl⟩ := p1 hd
        refine RB.mk hr hB.up hC (hR.mono (fun r2 w2 p2 => ?_)) (S := go_S (o + 35) i) (fun q j s => by unfold go_S at s; omega)
        rw [if_pos ⟨hq, hp⟩, Int.toNat_natCast, Int.toNat_natCast] at p2
        obtain ⟨F, -, p4⟩ := p2
        exact ⟨(p4 hd).1, F, ⟨hM.1.fi F, hM.2.1.ei (F.e (by unfold go_S; omega)) (fun j => F.e (by unfold go_S; omega)), hM.2.2.1.ei (F.e (by unfold go_S; omega)) (fun q j l1 l2 => F.e (by unfold go_S; omega)), (p4 hd).2, hM.2.2.2.2.1.ei (F.e (by unfold go_S; omega)) (fun q j l1 l2 => F.e (by unfold go_S; omega)), hM.2.2.2.2.2.1.ei (F.e (by unfold go_S; omega)) (F.e (by unfold go_S; omega)) (fun j => F.e (by unfold go_S; omega)), (F.e (by unfold go_S; omega)).trans hM.2.2.2.2.2.2.1, (F.e (by unfold go_S; omega)).trans hM.2.2.2.2.2.2.2⟩⟩
    · refine (c_X11_steps_b G c1 c5 (i := i) hi hb hp).mono (fun r w1 p => ?_)
      obtain ⟨p, rfl⟩ := p
      refine RB.ro p hB hC hM (hR.mono (fun r2 w2 p2 => ?_))
      rw [if_neg (fun q => hp q.2)] at p2
      exact p2
  · refine (c_X11_steps_n G c1 c5 ha hq).mono (fun r w1 p => ?_)
    obtain ⟨p, rfl⟩ := p
    refine RB.ro p hB hC hM (hR.mono (fun r2 w2 p2 => ?_))
    rw [if_neg (fun q => hq q.1)] at p2
    exact p2

set_option maxHeartbeats 2000000 in
theorem rw_jump {G : mu_G} {a b : Int32} : ROW G M_X11_jump M_X12_jump [.int a, .int b] := by
  intro w o N n tp nr rs nf fs ng gs sr P sx sy hC hM hB hN
  obtain ⟨za, ha, rfl⟩ := mI_ex a
  obtain ⟨zb, hb, rfl⟩ := mI_ex b
  obtain ⟨ra, fa, ga, hf, hg, C⟩ := id hC
  obtain ⟨c1, c2, c3, c4, c5, c6, c7, ⟨c8, c9, c10⟩, c11⟩ := id C
  obtain ⟨m1, m2, m3, m4, m5, m6, m7, m8⟩ := id hM
  have hR := c_X12_jump G m1 m3 m4 ha hb
  by_cases hq : 0 ≤ za ∧ za < nf
  · obtain ⟨i, rfl⟩ := Int.eq_ofNat_of_zero_le hq.1
    have hi : i < nf := by omega
    have hfk := (m4.2.2 i hi).1
    have hif : i < hf := Nat.lt_of_lt_of_le hi c5.1
    by_cases hp : 0 ≤ zb ∧ zb ≤ 6
    · obtain ⟨k, rfl⟩ := Int.eq_ofNat_of_zero_le hp.1
      obtain ⟨hru, hro⟩ := C.ru hfk
      refine (c_X11_jump_y G c1 c5 (i := i) hi hru hro (n := k) (by omega)).mono (fun r w1 p => ?_)
      obtain ⟨p1, p3⟩ := p
      have hli := C.lo.2.1 i hif
      have cf := c5.2.2.2.2.2.2 i hi
      by_cases hd : sp_done (fs_c (fs i)) (2 ^ k)
      · obtain ⟨hr, F1, hSt, ⟨hFo, hb1, L, R, U, D, M, hx1, hm1⟩, h4⟩ := p3 hd
        have hG := mu_Gx.ofFr F1
        rw [cf.2.2.2.2] at hr h4
        have hC1 : CST w1 o n tp nr rs nf (sp_go rs fs i (2 ^ k)) ng gs sr P sx sy := ⟨ra, fa, ga, hf, hg, C.fld hG hif (fun q j s => by unfold avS at s; unfold SCR; omega) hSt hFo (fun _ => ⟨hb1, ⟨L, R, U, D, M, hx1, hm1⟩, (F1.2.2 _ _ (by unfold avS; omega)).2.2.trans cf.2.2.1, (F1.2.2 _ _ (by unfold avS; omega)).1.trans cf.2.2.2.1, h4⟩)⟩
        have hM1 := hM.out c2 hG (fun q j l1 l2 => by unfold avS; omega)
        refine RB.mk hr hB.up hC1 ((c_X12_jump G hM1.1 hM1.2.2.1 hM1.2.2.2.1 ha hb).mono (fun r2 w2 p2 => ?_)) (S := go_S (o + 35) i) (fun q j s => by unfold go_S at s; omega)
        rw [if_pos ⟨hq, hp⟩, Int.toNat_natCast, Int.toNat_natCast] at p2
        obtain ⟨F, p4, -⟩ := p2
        exact ⟨(p4 hd).1, F, ⟨hM1.1.fi F, hM1.2.1.ei (F.e (by unfold go_S; omega)) (fun j => F.e (by unfold go_S; omega)), hM1.2.2.1.ei (F.e (by unfold go_S; omega)) (fun q j l1 l2 => F.e (by unfold go_S; omega)), (p4 hd).2, hM1.2.2.2.2.1.ei (F.e (by unfold go_S; omega)) (fun q j l1 l2 => F.e (by unfold go_S; omega)), hM1.2.2.2.2.2.1.ei (F.e (by unfold go_S; omega)) (F.e (by unfold go_S; omega)) (fun j => F.e (by unfold go_S; omega)), (F.e (by unfold go_S; omega)).trans hM1.2.2.2.2.2.2.1, (F.e (by unfold go_S; omega)).trans hM1.2.2.2.2.2.2.2⟩⟩
      · obtain ⟨hr, rfl⟩ := p1 hd
        refine RB.mk hr hB.up hC (hR.mono (fun r2 w2 p2 => ?_)) (S := go_S (o + 35) i) (fun q j s => by unfold go_S at s; omega)
        rw [if_pos ⟨hq, hp⟩, Int.toNat_natCast, Int.toNat_natCast] at p2
        obtain ⟨F, -, p4⟩ := p2
        exact ⟨(p4 hd).1, F, ⟨hM.1.fi F, hM.2.1.ei (F.e (by unfold go_S; omega)) (fun j => F.e (by unfold go_S; omega)), hM.2.2.1.ei (F.e (by unfold go_S; omega)) (fun q j l1 l2 => F.e (by unfold go_S; omega)), (p4 hd).2, hM.2.2.2.2.1.ei (F.e (by unfold go_S; omega)) (fun q j l1 l2 => F.e (by unfold go_S; omega)), hM.2.2.2.2.2.1.ei (F.e (by unfold go_S; omega)) (F.e (by unfold go_S; omega)) (fun j => F.e (by unfold go_S; omega)), (F.e (by unfold go_S; omega)).trans hM.2.2.2.2.2.2.1, (F.e (by unfold go_S; omega)).trans hM.2.2.2.2.2.2.2⟩⟩
    · refine (c_X11_jump_b G c1 c5 (i := i) hi hb hp).mono (fun r w1 p => ?_)
      obtain ⟨p, rfl⟩ := p
      refine RB.ro p hB hC hM (hR.mono (fun r2 w2 p2 => ?_))
      rw [if_neg (fun q => hp q.2)] at p2
      exact p2
  · refine (c_X11_jump_n G c1 c5 ha hq).mono (fun r w1 p => ?_)
    obtain ⟨p, rfl⟩ := p
    refine RB.ro p hB hC hM (hR.mono (fun r2 w2 p2 => ?_))
    rw [if_neg (fun q => hq q.1)] at p2
    exact p2

theorem sp_mv.uniq {c d : Nat → Nat → Nat} {dx dy dx' dy' : Int} (h : sp_mv c d dx dy) (h' : sp_mv c d dx' dy') : dx = dx' ∧ dy = dy' := by
  obtain ⟨L, R, U, D, L1, R1, U1, D1, M, h1, h2, h3⟩ := h
  obtain ⟨L', R', U', D', L1', R1', U1', D1', M', g1, g2, g3⟩ := h'
  have e1 := h1.uniq g1
  have e2 := h2.uniq g2
  rcases h3 with ⟨a1, a2, a3⟩ | ⟨a1, a2, a3, a4, a5, a6⟩ <;> rcases g3 with ⟨b1, b2, b3⟩ | ⟨b1, b2, b3, b4, b5, b6⟩ <;> omega

set_option maxHeartbeats 2000000 in
theorem rw_period {G : mu_G} {a b : Int32} : ROW G M_X11_period M_X12_period [.int a, .int b] := by
  intro w o N n tp nr rs nf fs ng gs sr P sx sy hC hM hB hN
  obtain ⟨za, ha, rfl⟩ := mI_ex a
  obtain ⟨zb, hb, rfl⟩ := mI_ex b
  obtain ⟨ra, fa, ga, hf, hg, C⟩ := id hC
  obtain ⟨c1, c2, c3, c4, c5, c6, c7, ⟨c8, c9, c10⟩, c11⟩ := id C
  obtain ⟨m1, m2, m3, m4, m5, m6, m7, m8⟩ := id hM
  have hR := fun w1 (h : MST w1 (o + 35) n tp nr rs nf fs ng gs sr P sx sy) => c_X12_period G h.1 h.2.2.1 h.2.2.2.1 ha hb
  by_cases hq : 0 ≤ za ∧ za < nf
  · obtain ⟨i, rfl⟩ := Int.eq_ofNat_of_zero_le hq.1
    have hi : i < nf := by omega
    have hfk := (m4.2.2 i hi).1
    by_cases hp : 1 ≤ zb ∧ zb ≤ 60
    · obtain ⟨k, rfl⟩ := Int.eq_ofNat_of_zero_le (show 0 ≤ zb by omega)
      obtain ⟨hru, hro⟩ := C.ru hfk
      refine (c_X11_period_y G c1 c5 (i := i) hi hru hro (n := k) (by omega) (by omega)).mono (fun r w1 p => ?_)
      obtain ⟨p1, p3⟩ := p
      by_cases hd : sp_done (fs_c (fs i)) k
      · obtain ⟨F1, hSt, hFo, p5⟩ := p3 hd
        have hG := mu_Gx.ofFr F1
        have hG2 : ∀ q j, pfS o q j → SCR o q j ∨ (q = o ∧ (j = 16 ∨ j = 17)) := fun q j s => by unfold pfS peS at s; unfold SCR; omega
        have hC2 : CST w1 o n tp nr rs nf fs ng gs sr P (mu_iv w1 o 16) (mu_iv w1 o 17) := ⟨ra, fa, ga, hf, hg, C.shf hG hG2 hSt⟩
        have hM1 := hM.out c2 hG (fun q j l1 l2 => by unfold pfS peS; omega)
        rcases p5 with ⟨t, t1, t2, t3, dx, dy, t4, hr, hx, hy⟩ | ⟨t3, hr, hx, hy⟩
        · rw [hx, hy] at hC2
          refine RB.mk hr hB.up hC2 ((hR w1 hM1).mono (fun r2 w2 p2 => ?_)) (S := pr_S (o + 35)) (fun q j s => by unfold pr_S at s; omega)
          unfold pr_all at p2
          rw [if_pos ⟨hq, hp⟩, Int.toNat_natCast, Int.toNat_natCast] at p2
          obtain ⟨F, -, p4⟩ := p2
          rcases p4 hd with ⟨s, s1, s2, s3, ex, ey, s4, hr2, hx2, hy2⟩ | ⟨s3, -⟩
          · have est : s = t := by
              rcases Nat.lt_trichotomy s t with l | l | l
              · exact absurd ⟨ex, ey, s4⟩ (t3 s s1 l)
              · exact l
              · exact absurd ⟨dx, dy, t4⟩ (s3 t t1 l)
            subst est
            obtain ⟨e1, e2⟩ := sp_mv.uniq t4 s4
            subst e1 e2
            exact ⟨hr2, F, ⟨hM1.1.fi F, hM1.2.1.ei (F.e (by unfold pr_S; omega)) (fun j => F.e (by unfold pr_S; omega)), hM1.2.2.1.ei (F.e (by unfold pr_S; omega)) (fun q j l1 l2 => F.e (by unfold pr_S; omega)), hM1.2.2.2.1.ei (F.e (by unfold pr_S; omega)) (fun q j l1 l2 => F.e (by unfold pr_S; omega)), hM1.2.2.2.2.1.ei (F.e (by unfold pr_S; omega)) (fun q j l1 l2 => F.e (by unfold pr_S; omega)), hM1.2.2.2.2.2.1.ei (F.e (by unfold pr_S; omega)) (F.e (by unfold pr_S; omega)) (fun j => F.e (by unfold pr_S; omega)), hx2, hy2⟩⟩
          · exact absurd ⟨dx, dy, t4⟩ (s3 t t1 t2)
        · rw [hx, hy, c9, c10] at hC2
          refine RB.mk hr hB.up hC2 ((hR w1 hM1).mono (fun r2 w2 p2 => ?_)) (S := pr_S (o + 35)) (fun q j s => by unfold pr_S at s; omega)
          unfold pr_all at p2
          rw [if_pos ⟨hq, hp⟩, Int.toNat_natCast, Int.toNat_natCast] at p2
          obtain ⟨F, -, p4⟩ := p2
          rcases p4 hd with ⟨s, s1, s2, s3, ex, ey, s4, hr2, hx2, hy2⟩ | ⟨s3, hr2, hx2, hy2⟩
          · exact absurd ⟨ex, ey, s4⟩ (t3 s s1 s2)
          · exact ⟨hr2, F, ⟨hM1.1.fi F, hM1.2.1.ei (F.e (by unfold pr_S; omega)) (fun j => F.e (by unfold pr_S; omega)), hM1.2.2.1.ei (F.e (by unfold pr_S; omega)) (fun q j l1 l2 => F.e (by unfold pr_S; omega)), hM1.2.2.2.1.ei (F.e (by unfold pr_S; omega)) (fun q j l1 l2 => F.e (by unfold pr_S; omega)), hM1.2.2.2.2.1.ei (F.e (by unfold pr_S; omega)) (fun q j l1 l2 => F.e (by unfold pr_S; omega)), hM1.2.2.2.2.2.1.ei (F.e (by unfold pr_S; omega)) (F.e (by unfold pr_S; omega)) (fun j => F.e (by unfold pr_S; omega)), hx2.trans hM1.2.2.2.2.2.2.1, hy2.trans hM1.2.2.2.2.2.2.2⟩⟩
      · obtain ⟨hr, rfl⟩ := p1 hd
        refine RB.mk hr hB.up hC ((hR _ hM).mono (fun r2 w2 p2 => ?_)) (S := pr_S (o + 35)) (fun q j s => by unfold pr_S at s; omega)
        unfold pr_all at p2
        rw [if_pos ⟨hq, hp⟩, Int.toNat_natCast, Int.toNat_natCast] at p2
        obtain ⟨F, p4, -⟩ := p2
        obtain ⟨hr2, hx2, hy2⟩ := p4 hd
        exact ⟨hr2, F, ⟨hM.1.fi F, hM.2.1.ei (F.e (by unfold pr_S; omega)) (fun j => F.e (by unfold pr_S; omega)), hM.2.2.1.ei (F.e (by unfold pr_S; omega)) (fun q j l1 l2 => F.e (by unfold pr_S; omega)), hM.2.2.2.1.ei (F.e (by unfold pr_S; omega)) (fun q j l1 l2 => F.e (by unfold pr_S; omega)), hM.2.2.2.2.1.ei (F.e (by unfold pr_S; omega)) (fun q j l1 l2 => F.e (by unfold pr_S; omega)), hM.2.2.2.2.2.1.ei (F.e (by unfold pr_S; omega)) (F.e (by unfold pr_S; omega)) (fun j => F.e (by unfold pr_S; omega)), hx2.trans m7, hy2.trans m8⟩⟩
    · refine (c_X11_period_b G c1 c5 (i := i) hi hb hp).mono (fun r w1 p => ?_)
      obtain ⟨p, rfl⟩ := p
      refine RB.ro p hB hC hM ((hR _ hM).mono (fun r2 w2 p2 => ?_))
      unfold pr_all at p2
      rw [if_neg (fun q => hp q.2)] at p2
      exact p2
  · refine (c_X11_period_n G c1 c5 ha hq).mono (fun r w1 p => ?_)
    obtain ⟨p, rfl⟩ := p
    refine RB.ro p hB hC hM ((hR _ hM).mono (fun r2 w2 p2 => ?_))
    unfold pr_all at p2
    rw [if_neg (fun q => hq q.1)] at p2
    exact p2

theorem tw_tw : ∀ t, t < 8 → tw t < 8 ∧ tw (tw t) = t := by decide
theorem sp_cg_box {c d : Nat → Nat → Nat} {L R U D L2 R2 U2 D2 : Int} {M M2 : Nat} (hx : CMx c L R U D M) (hx2 : CMx d L2 R2 U2 D2 M2) : sp_cg c d ↔ M = M2 ∧ (M = 0 ∨ ∃ t, t < 8 ∧ sp_tm c d L R U D L2 R2 U2 D2 (tw t)) := by
  constructor
  · rintro ⟨l, r, u, e, l2, r2, u2, e2, m, h1, h2, h3⟩
    obtain ⟨a1, a2⟩ := hx.lk h1
    obtain ⟨b1, b2⟩ := hx2.lk h2
    refine ⟨by omega, ?_⟩
    by_cases h0 : M = 0
    · exact Or.inl h0
    · obtain ⟨a3, a4, a5, a6⟩ := a2 h0
      obtain ⟨b3, b4, b5, b6⟩ := b2 (by omega)
      subst a3 a4 a5 a6 b3 b4 b5 b6
      rcases h3 with h3 | ⟨t, t1, t2⟩
      · omega
      · exact Or.inr ⟨tw t, (tw_tw t t1).1, by rw [(tw_tw t t1).2]; exact t2⟩
  · rintro ⟨rfl, h⟩
    rcases hx with ⟨h1, h2, h3, h4, h5, h6⟩ | ⟨h1, h2⟩ <;> rcases hx2 with ⟨g1, g2, g3, g4, g5, g6⟩ | ⟨g1, g2⟩
    · exact ⟨_, _, _, _, _, _, _, _, _, h6, g6, Or.inl rfl⟩
    · exact absurd h1 g1
    · exact absurd g1 h1
    · rcases h with h | ⟨t, t1, t2⟩
      · exact absurd h h1
      · exact ⟨_, _, _, _, _, _, _, _, _, h2, g2, Or.inr ⟨tw t, (tw_tw t t1).1, t2⟩⟩
theorem CMx.none {c : Nat → Nat → Nat} {L R U D : Int} {M : Nat} (h0 : M = 0) (h : CMx c L R U D M) (hc : ∀ i j, c i j ≤ 1) : L = 0 ∧ R = 0 ∧ U = 0 ∧ D = 0 ∧ c 0 0 = 0 := by
  rcases h with ⟨h1, h2, h3, h4, h5, h6⟩ | ⟨h1, h2⟩
  · refine ⟨h2, h3, h4, h5, ?_⟩
    have a := hc 0 0
    have b := h6.2.1 0 0 (by decide) (Or.inl (by decide))
    by_cases e : c 0 0 = 1
    · have := b e; omega
    · omega
  · exact absurd h0 h1
theorem sp_tm_none {c d : Nat → Nat → Nat} {L R U D L2 R2 U2 D2 : Int} {M M2 : Nat} (h0 : M = 0) (hx : CMx c L R U D M) (h2 : M2 = 0) (hx2 : CMx d L2 R2 U2 D2 M2) (hc : ∀ i j, c i j ≤ 1) (hd : ∀ i j, d i j ≤ 1) : sp_tm c d L R U D L2 R2 U2 D2 (tw 0) := by
  obtain ⟨rfl, rfl, rfl, rfl, e⟩ := hx.none h0 hc
  obtain ⟨rfl, rfl, rfl, rfl, e2⟩ := hx2.none h2 hd
  refine ⟨rfl, rfl, fun i j hi hj => ?_⟩
  rw [show i = 0 by omega, show j = 0 by omega]
  exact e.trans e2.symm

set_option maxHeartbeats 2000000 in
theorem rw_congruent {G : mu_G} {a b : Int32} : ROW G M_X11_congruent M_X12_congruent [.int a, .int b] := by
  intro w o N n tp nr rs nf fs ng gs sr P sx sy hC hM hB hN
  obtain ⟨za, ha, rfl⟩ := mI_ex a
  obtain ⟨zb, hb, rfl⟩ := mI_ex b
  obtain ⟨ra, fa, ga, hf, hg, C⟩ := id hC
  obtain ⟨c1, c2, c3, c4, c5, c6, c7, ⟨c8, c9, c10⟩, c11⟩ := id C
  obtain ⟨m1, m2, m3, m4, m5, m6, m7, m8⟩ := id hM
  have hR := c_X12_congruent G m1 m4 ha hb
  have hs : ∀ q j, lk_S (o + 35) q j → SM (o + 35) q j := fun q j s => by unfold lk_S at s; unfold SM; omega
  by_cases hq : 0 ≤ za ∧ za < nf
  · obtain ⟨i, rfl⟩ := Int.eq_ofNat_of_zero_le hq.1
    have hi : i < nf := by omega
    by_cases hp : 0 ≤ zb ∧ zb < nf
    · obtain ⟨k, rfl⟩ := Int.eq_ofNat_of_zero_le hp.1
      have hk : k < nf := by omega
      obtain ⟨L, R, U, D, M, hx, hm⟩ := (c5.2.2.2.2.2.2 i hi).2.1
      obtain ⟨L2, R2, U2, D2, M2, hx2, hm2⟩ := (c5.2.2.2.2.2.2 k hk).2.1
      refine (c_X11_congruent_yy G c1 c5 (i := i) hi (j := k) hk hx hm hx2 hm2).mono (fun r w1 p => ?_)
      obtain ⟨⟨p1, p3⟩, rfl⟩ := p
      have hcg := sp_cg_box hx hx2
      have fin : ∀ {v : Int}, r = some (.int (mI v)) → (sp_cg (fs_c (fs i)) (fs_c (fs k)) → v = 1) → (¬ sp_cg (fs_c (fs i)) (fs_c (fs k)) → v = 0) → ∃ (n' : Nat) (tp' : Nat → Nat) (nr' : Nat) (rs' : Nat → mu_RS) (nf' : Nat) (fs' : Nat → mu_FS) (ng' : Nat) (gs' : Nat → mu_GS) (sr' : Nat) (P' : Nat → Prop) (sx' sy' : Int32), RB G M_X12_congruent [.int (mI (i : Nat)), .int (mI (k : Nat))] o N n' tp' nr' rs' nf' fs' ng' gs' sr' P' sx' sy' r w1 := fun {v} hr e1 e0 => by
        refine RB.sc hr hB hC hM (hR.mono (fun r2 w2 p2 => ?_)) hs
        unfold cg_post at p2
        rw [if_pos ⟨hq, hp⟩, Int.toNat_natCast, Int.toNat_natCast] at p2
        refine ⟨?_, p2.1⟩
        by_cases hc : sp_cg (fs_c (fs i)) (fs_c (fs k))
        · rw [p2.2.1 hc, e1 hc]
        · rw [p2.2.2 hc, e0 hc]
      by_cases hM0 : M = M2
      · rcases p3 hM0 with ⟨t, t1, t2, hr⟩ | ⟨t2, hr⟩
        · exact fin hr (fun _ => rfl) (fun q => absurd (hcg.mpr ⟨hM0, Or.inr ⟨t, t1, t2⟩⟩) q)
        · refine fin hr (fun q => ?_) (fun _ => rfl)
          obtain ⟨-, q⟩ := hcg.mp q
          rcases q with q | ⟨t, t1, q⟩
          · exact absurd (sp_tm_none q hx (by omega) hx2 (m4.2.2 i hi).1.2.2.2 (m4.2.2 k hk).1.2.2.2) (t2 0 (by decide))
          · exact absurd q (t2 t t1)
      · exact fin (p1 hM0) (fun q => absurd (hcg.mp q).1 hM0) (fun _ => rfl)
    · refine (c_X11_congruent_yn G c1 c5 (i := i) hi hb hp).mono (fun r w1 p => ?_)
      obtain ⟨p, rfl⟩ := p
      refine RB.ro p hB hC hM (hR.mono (fun r2 w2 p2 => ?_))
      unfold cg_post at p2
      rw [if_neg (fun q => hp q.2)] at p2
      exact p2
  · have hR2 : mu_Ct G M_X12_congruent (.ref (o + 35) :: [.int (mI za), .int (mI zb)]) w (fun r2 w2 => r2 = some (.int (mI (-1))) ∧ w2 = w) := hR.mono (fun r2 w2 p2 => by unfold cg_post at p2; rw [if_neg (fun q => hq q.1)] at p2; exact p2)
    by_cases hp : 0 ≤ zb ∧ zb < nf
    · obtain ⟨k, rfl⟩ := Int.eq_ofNat_of_zero_le hp.1
      refine (c_X11_congruent_ny G c1 c5 ha hq (j := k) (by omega)).mono (fun r w1 p => ?_)
      obtain ⟨p, rfl⟩ := p
      exact RB.ro p hB hC hM hR2
    · refine (c_X11_congruent_nn G c1 c5 ha hq hb hp).mono (fun r w1 p => ?_)
      obtain ⟨p, rfl⟩ := p
      exact RB.ro p hB hC hM hR2

set_option maxHeartbeats 2000000 in
theorem rw_read {G : mu_G} {a b c : Int32} : ROW G M_X11_read M_X12_read [.int a, .int b, .int c] := by
  intro w o N n tp nr rs nf fs ng gs sr P sx sy hC hM hB hN
  obtain ⟨za, ha, rfl⟩ := mI_ex a
  obtain ⟨zb, hb, rfl⟩ := mI_ex b
  obtain ⟨zc, hc, rfl⟩ := mI_ex c
  obtain ⟨ra, fa, ga, hf, hg, C⟩ := id hC
  obtain ⟨c1, c2, c3, c4, c5, c6, c7, ⟨c8, c9, c10⟩, c11⟩ := id C
  obtain ⟨m1, m2, m3, m4, m5, m6, m7, m8⟩ := id hM
  have hR := fun w1 (h : MST w1 (o + 35) n tp nr rs nf fs ng gs sr P sx sy) => c_X12_read G h.1 h.2.1 h.2.2.2.1 ha hb hc
  have fin1 : ∀ {r : Option Value} {w1 : mu_W}, ¬ ((0 ≤ za ∧ za < nf) ∧ -128 ≤ zb ∧ zb < 128 ∧ -128 ≤ zc ∧ zc < 128) → r = some (.int (mI (-1))) ∧ CT w1 (o + 1) 0 tp ∧ mu_Fi (ap_S (o + 1)) w w1 → ∃ (n' : Nat) (tp' : Nat → Nat) (nr' : Nat) (rs' : Nat → mu_RS) (nf' : Nat) (fs' : Nat → mu_FS) (ng' : Nat) (gs' : Nat → mu_GS) (sr' : Nat) (P' : Nat → Prop) (sx' sy' : Int32), RB G M_X12_read [.int (mI za), .int (mI zb), .int (mI zc)] o N n' tp' nr' rs' nf' fs' ng' gs' sr' P' sx' sy' r w1 := fun {r w1} hno p => by
    have hG := mu_Gx.fi p.2.2
    have hM1 := hM.out c2 hG (fun q j l1 l2 => by unfold ap_S; omega)
    have hC1 : CST w1 o 0 tp nr rs nf fs ng gs sr P sx sy := ⟨ra, fa, ga, hf, hg, C.tap hG (fun q j s => by unfold ap_S at s; unfold SCR; omega) (C.kS hG (fun q j l1 l2 => by unfold ap_S; omega)) p.2.1⟩
    refine RB.mk (S := s12 (o + 35)) p.1 hB.up hC1 ((hR w1 hM1).mono (fun r2 w2 p2 => ?_)) (fun q j s => by unfold s12 at s; omega)
    obtain ⟨ht, p2⟩ := p2
    rw [if_neg hno] at p2
    have F : mu_Fi (s12 (o + 35)) w1 w2 := by rw [p2.2]; exact mu_Fi.one _ _ _ _ (by unfold s12; omega)
    exact ⟨p2.1, F, ⟨hM1.1.fi F, ht, hM1.2.2.1.ei (F.e (by unfold s12; omega)) (fun q j l1 l2 => F.e (by unfold s12; omega)), hM1.2.2.2.1.ei (F.e (by unfold s12; omega)) (fun q j l1 l2 => F.e (by unfold s12; omega)), hM1.2.2.2.2.1.ei (F.e (by unfold s12; omega)) (fun q j l1 l2 => F.e (by unfold s12; omega)), hM1.2.2.2.2.2.1.ei (F.e (by unfold s12; omega)) (F.e (by unfold s12; omega)) (fun j => F.e (by unfold s12; omega)), (F.e (by unfold s12; omega)).trans hM1.2.2.2.2.2.2.1, (F.e (by unfold s12; omega)).trans hM1.2.2.2.2.2.2.2⟩⟩
  by_cases hq : 0 ≤ za ∧ za < nf
  · obtain ⟨i, rfl⟩ := Int.eq_ofNat_of_zero_le hq.1
    have hi : i < nf := by omega
    have hfk := (m4.2.2 i hi).1
    have hif : i < hf := Nat.lt_of_lt_of_le hi c5.1
    by_cases hp : -128 ≤ zb ∧ zb < 128 ∧ -128 ≤ zc ∧ zc < 128
    · refine (c_X11_read_y G c1 c5 (i := i) hi c3 hp).mono (fun r w2 p => ?_)
      obtain ⟨w1, ⟨K, hK, hK2, hK3, p1, p2, p3⟩, hct, F2⟩ := p
      have hli := C.lo.2.1 i hif
      have cf := c5.2.2.2.2.2.2 i hi
      have hG2 := mu_Gx.fi F2
      have fin2 : ∀ {fs' : Nat → mu_FS} {v : Int}, CSx w1 o n tp nr rs nf fs' ng gs sr P sx sy ra fa ga hf hg → MST w1 (o + 35) n tp nr rs nf fs ng gs sr P sx sy → r = some (.int (mI v)) → (∀ w3 r3, re_post w2 (o + 35) n tp nr rs nf fs (i : Nat) zb zc r3 w3 → r3 = some (.int (mI v)) ∧ MFi w3 (o + 35) nr rs nf fs') → ∃ (n' : Nat) (tp' : Nat → Nat) (nr' : Nat) (rs' : Nat → mu_RS) (nf' : Nat) (fs' : Nat → mu_FS) (ng' : Nat) (gs' : Nat → mu_GS) (sr' : Nat) (P' : Nat → Prop) (sx' sy' : Int32), RB G M_X12_read [.int (mI (i : Nat)), .int (mI zb), .int (mI zc)] o N n' tp' nr' rs' nf' fs' ng' gs' sr' P' sx' sy' r w2 := fun {fs' v} hC1 hM1 hr hre => by
        have hM2 := hM1.out hC1.2.1 hG2 (fun q j l1 l2 => by unfold ap_S; omega)
        have hC2 : CST w2 o 0 tp nr rs nf fs' ng gs sr P sx sy := ⟨ra, fa, ga, hf, hg, hC1.tap hG2 (fun q j s => by unfold ap_S at s; unfold SCR; omega) (hC1.kS hG2 (fun q j l1 l2 => by unfold ap_S; omega)) hct⟩
        refine RB.mk (S := rd9_S (o + 35) i) hr hB.up hC2 ((hR w2 hM2).mono (fun r3 w3 p4 => ?_)) (fun q j s => by unfold rd9_S at s; omega)
        obtain ⟨g1, g2⟩ := hre w3 r3 p4
        obtain ⟨ht, p5⟩ := p4
        rw [if_pos ⟨hq, hp⟩, Int.toNat_natCast] at p5
        have F := p5.1
        exact ⟨g1, F, ⟨hM2.1.fi F, ht, hM2.2.2.1.ei (F.e (by unfold rd9_S; omega)) (fun q j l1 l2 => F.e (by unfold rd9_S; omega)), g2, hM2.2.2.2.2.1.ei (F.e (by unfold rd9_S; omega)) (fun q j l1 l2 => F.e (by unfold rd9_S; omega)), hM2.2.2.2.2.2.1.ei (F.e (by unfold rd9_S; omega)) (F.e (by unfold rd9_S; omega)) (fun j => F.e (by unfold rd9_S; omega)), (F.e (by unfold rd9_S; omega)).trans hM2.2.2.2.2.2.2.1, (F.e (by unfold rd9_S; omega)).trans hM2.2.2.2.2.2.2.2⟩⟩
      have hre2 : ∀ w3 r3, re_post w2 (o + 35) n tp nr rs nf fs (i : Nat) zb zc r3 w3 → (0 ≤ rt_f (tb n tp) n K → r3 = some (.int (mI (-10 - rt_f (tb n tp) n K))) ∧ MFi w3 (o + 35) nr rs nf fs) ∧ (rt_f (tb n tp) n K < 0 → ¬ tl_F (tb n tp) zb zc K → r3 = some (.int (mI (-2))) ∧ MFi w3 (o + 35) nr rs nf fs) ∧ (rt_f (tb n tp) n K < 0 → tl_F (tb n tp) zb zc K → r3 = some (.int (mI (tl_n (tb n tp) K))) ∧ MFi w3 (o + 35) nr rs nf (fi_up fs i (fs_g (fs i)) (tl_c (tb n tp) zb zc (fs_c (fs i)) K))) := fun w3 r3 p4 => by
        obtain ⟨-, p5⟩ := p4
        rw [if_pos ⟨hq, hp⟩, Int.toNat_natCast] at p5
        obtain ⟨-, K2, e1, -, -, e2⟩ := p5
        rw [e1.uniq hK] at e2
        exact e2
      by_cases hf0 : 0 ≤ rt_f (tb n tp) n K
      · obtain ⟨hr, F1⟩ := p1 hf0
        have hG := mu_Gx.fi F1
        exact fin2 (C.scr hG (fun q j s => by unfold rt_S at s; unfold SCR; omega) (C.kS hG (fun q j l1 l2 => by unfold rt_S; omega))) (hM.out c2 hG (fun q j l1 l2 => by unfold rt_S; omega)) hr (fun w3 r3 p4 => (hre2 w3 r3 p4).1 hf0)
      · by_cases hf2 : tl_F (tb n tp) zb zc K
        · obtain ⟨hr, F1, hFo, hb1, L, R, U, D, M, hx1, hm1⟩ := p3 (by omega) hf2
          have hG := mu_Gx.fi F1
          exact fin2 (C.fld hG hif (fun q j s => by unfold pnS at s; unfold SCR; omega) (C.kS hG (fun q j l1 l2 => by unfold pnS; omega)) hFo (f' := (fs_r (fs i), fs_g (fs i), tl_c (tb n tp) zb zc (fs_c (fs i)) K)) (fun _ => ⟨hb1, ⟨L, R, U, D, M, hx1, hm1⟩, F1.rv cf.2.2.1, F1.iv (by unfold pnS; omega) cf.2.2.2.1, F1.iv (by unfold pnS; omega) cf.2.2.2.2⟩)) (hM.out c2 hG (fun q j l1 l2 => by unfold pnS; omega)) hr (fun w3 r3 p4 => (hre2 w3 r3 p4).2.2 (by omega) hf2)
        · obtain ⟨hr, F1⟩ := p2 (by omega) hf2
          have hG := mu_Gx.fi F1
          exact fin2 (C.scr hG (fun q j s => by unfold rt_S at s; unfold SCR; omega) (C.kS hG (fun q j l1 l2 => by unfold rt_S; omega))) (hM.out c2 hG (fun q j l1 l2 => by unfold rt_S; omega)) hr (fun w3 r3 p4 => (hre2 w3 r3 p4).2.1 (by omega) hf2)
    · exact (c_X11_read_b G c1 c5 (i := i) hi hb hc hp c3).mono (fun r w1 p => fin1 (fun q => hp q.2) p)
  · exact (c_X11_read_n G c1 c5 ha hq c3).mono (fun r w1 p => fin1 (fun q => hq q.1) p)
