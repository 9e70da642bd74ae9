/-! ===== rows: searches ===== -/
theorem en_full {P : Nat → Prop} : ∀ {n : Nat}, en_c P n = n → ∀ j, j < n → P j
  | 0, _, j, hj => absurd hj (Nat.not_lt_zero j)
  | n + 1, h, j, hj => by
    have hle := en_le P n
    by_cases hp : P n
    · rw [en_pos hp] at h
      by_cases e : j = n
      · rw [e]; exact hp
      · exact en_full (n := n) (by omega) j (by omega)
    · rw [en_neg hp] at h
      omega

set_option maxHeartbeats 2000000 in
theorem rw_still {G : mu_G} {a b c : Int32} : ROW G M_X11_still M_X12_still [.int a, .int b, .int c] := by
  intro w o N n tp nr rs nf fs ng gs sr P sx sy hC hM hB hN
  obtain ⟨za, ha, rfl⟩ := mI_ex a
  obtain ⟨zb, hb, rfl⟩ := mI_ex b
  obtain ⟨zc, hc, rfl⟩ := mI_ex c
  obtain ⟨ra, fa, ga, hf, hg, C⟩ := id hC
  obtain ⟨c1, c2, c3, c4, c5, c6, c7, ⟨c8, c9, c10⟩, c11⟩ := id C
  obtain ⟨m1, m2, m3, m4, m5, m6, m7, m8⟩ := id hM
  have hR := fun w1 (h : MST w1 (o + 35) n tp nr rs nf fs ng gs sr P sx sy) => c_X12_still G h.1 h.2.2.1 h.2.2.2.2.2.1 ha hb hc
  have neg : ∀ {r : Option Value} {v : Int}, rf_v nr rs sr za zb zc 0 16 = v → v < 0 → r = some (.int (mI v)) → ∃ (n' : Nat) (tp' : Nat → Nat) (nr' : Nat) (rs' : Nat → mu_RS) (nf' : Nat) (fs' : Nat → mu_FS) (ng' : Nat) (gs' : Nat → mu_GS) (sr' : Nat) (P' : Nat → Prop) (sx' sy' : Int32), RB G M_X12_still [.int (mI za), .int (mI zb), .int (mI zc)] o N n' tp' nr' rs' nf' fs' ng' gs' sr' P' sx' sy' r w := fun {r v} e l hr => RB.ro hr hB hC hM ((hR _ hM).mono (fun r2 w2 p2 => by rw [e] at p2; exact p2.1 l))
  by_cases hq : 0 ≤ za ∧ za < nr
  · obtain ⟨i, rfl⟩ := Int.eq_ofNat_of_zero_le hq.1
    have hi : i < nr := by omega
    by_cases hp : (1 ≤ zb ∧ zb ≤ 16 ∧ 1 ≤ zc ∧ zc ≤ 16 ∧ (zb + 0) * (zc + 0) ≤ 16)
    · have hbx : (1 ≤ zb ∧ zb ≤ 16 ∧ 1 ≤ zc ∧ zc ≤ 16 ∧ (zb + 0) * (zc + 0) ≤ 16) := hp
      have hfit : rf_fit zb zc 0 16 := rf_fit_iff.mpr hbx
      obtain ⟨R, rfl⟩ := Int.eq_ofNat_of_zero_le (show 0 ≤ zb by omega)
      obtain ⟨K, rfl⟩ := Int.eq_ofNat_of_zero_le (show 0 ≤ zc by omega)
      have hRC : R * K ≤ 16 := by have := hfit.2.2; simpa using this
      have hin : (0 ≤ (i : Int) ∧ (i : Int) < nr) ∧ rf_fit (R : Int) (K : Int) 0 16 := ⟨hq, hfit⟩
      by_cases hqt : rs_nb (rs i) ≠ 0 ∧ rs_bo (rs i) % 2 = 0
      · have hqz : sp_quiet (rs (i : Int).toNat) := by rw [Int.toNat_natCast]; exact hqt
        by_cases hs : sr = 30
        · refine (c_X11_still_w G c1 c4 hi c8 m6.1 (R := R) (C := K) (by omega) (by omega) hRC (fun q => by omega)).mono (fun r w1 p => ?_)
          obtain ⟨p, rfl⟩ := p
          rw [if_pos hqt] at p
          exact neg (rf_f hin hqz hs) (by decide) p
        · refine (c_X11_still_y G c1 c4 hi c8 m6.1 (R := R) (C := K) (by omega) (by omega) hRC hqt.1 hqt.2 (by have := m6.1; omega)).mono (fun r w1 p => ?_)
          obtain ⟨hr, F1, hP⟩ := p
          obtain ⟨hC1, hG⟩ := C.srch F1 hP
          have hM1 := hM.out c2 hG (fun q j l1 l2 => by omega)
          refine RB.mk (S := sr_S (o + 35)) hr hB.up ⟨ra, fa, ga, hf, hg, hC1⟩ ((hR w1 hM1).mono (fun r2 w2 p2 => ?_)) (fun q j s => by unfold sr_S at s; omega)
          simp only [Int.toNat_natCast] at p2
          obtain ⟨hr2, F, hs2⟩ := p2.2 (rf_o hin hqz hs)
          exact ⟨hr2, F, ⟨hM1.1.fi F, hM1.2.1.ei (F.e (by unfold sr_S; omega)) (fun j => F.e (by unfold sr_S; omega)), hM1.2.2.1.ei (F.e (by unfold sr_S; omega)) (fun q j l1 l2 => F.e (by unfold sr_S; omega)), hM1.2.2.2.1.ei (F.e (by unfold sr_S; omega)) (fun q j l1 l2 => F.e (by unfold sr_S; omega)), hM1.2.2.2.2.1.ei (F.e (by unfold sr_S; omega)) (fun q j l1 l2 => F.e (by unfold sr_S; omega)), hs2, (F.e (by unfold sr_S; omega)).trans hM1.2.2.2.2.2.2.1, (F.e (by unfold sr_S; omega)).trans hM1.2.2.2.2.2.2.2⟩⟩
      · refine (c_X11_still_w G c1 c4 hi c8 m6.1 (R := R) (C := K) (by omega) (by omega) hRC (fun q => hqt q.1)).mono (fun r w1 p => ?_)
        obtain ⟨p, rfl⟩ := p
        rw [if_neg hqt] at p
        exact neg (rf_q hin (by rw [Int.toNat_natCast]; exact hqt)) (by decide) p
    · refine (c_X11_still_b G c1 c4 hi hb hc hp).mono (fun r w1 p => ?_)
      obtain ⟨p, rfl⟩ := p
      exact neg (rf_n (fun q => hp (rf_fit_iff.mp q.2))) (by decide) p
  · refine (c_X11_still_n G c1 c4 ha hq).mono (fun r w1 p => ?_)
    obtain ⟨p, rfl⟩ := p
    exact neg (rf_n (fun q => hq q.1)) (by decide) p

set_option maxHeartbeats 2000000 in
theorem rw_garden {G : mu_G} {a b c : Int32} : ROW G M_X11_garden M_X12_garden [.int a, .int b, .int c] := by
  intro w o N n tp nr rs nf fs ng gs sr P sx sy hC hM hB hN
  obtain ⟨za, ha, rfl⟩ := mI_ex a
  obtain ⟨zb, hb, rfl⟩ := mI_ex b
  obtain ⟨zc, hc, rfl⟩ := mI_ex c
  obtain ⟨ra, fa, ga, hf, hg, C⟩ := id hC
  obtain ⟨c1, c2, c3, c4, c5, c6, c7, ⟨c8, c9, c10⟩, c11⟩ := id C
  obtain ⟨m1, m2, m3, m4, m5, m6, m7, m8⟩ := id hM
  have hR := fun w1 (h : MST w1 (o + 35) n tp nr rs nf fs ng gs sr P sx sy) => c_X12_garden G h.1 h.2.2.1 h.2.2.2.2.2.1 ha hb hc
  have neg : ∀ {r : Option Value} {v : Int}, rf_v nr rs sr za zb zc 2 16 = v → v < 0 → r = some (.int (mI v)) → ∃ (n' : Nat) (tp' : Nat → Nat) (nr' : Nat) (rs' : Nat → mu_RS) (nf' : Nat) (fs' : Nat → mu_FS) (ng' : Nat) (gs' : Nat → mu_GS) (sr' : Nat) (P' : Nat → Prop) (sx' sy' : Int32), RB G M_X12_garden [.int (mI za), .int (mI zb), .int (mI zc)] o N n' tp' nr' rs' nf' fs' ng' gs' sr' P' sx' sy' r w := fun {r v} e l hr => RB.ro hr hB hC hM ((hR _ hM).mono (fun r2 w2 p2 => by rw [e] at p2; exact p2.1 l))
  by_cases hq : 0 ≤ za ∧ za < nr
  · obtain ⟨i, rfl⟩ := Int.eq_ofNat_of_zero_le hq.1
    have hi : i < nr := by omega
    by_cases hp : (1 ≤ zb ∧ zb ≤ 16 ∧ 1 ≤ zc ∧ zc ≤ 16 ∧ (zb + 2) * (zc + 2) ≤ 16)
    · have hbx : (1 ≤ zb ∧ zb ≤ 16 ∧ 1 ≤ zc ∧ zc ≤ 16 ∧ (zb + 2) * (zc + 2) ≤ 16) := hp
      have hfit : rf_fit zb zc 2 16 := rf_fit_iff.mpr hbx
      obtain ⟨R, rfl⟩ := Int.eq_ofNat_of_zero_le (show 0 ≤ zb by omega)
      obtain ⟨K, rfl⟩ := Int.eq_ofNat_of_zero_le (show 0 ≤ zc by omega)
      have hRC : (R + 2) * (K + 2) ≤ 16 := by have := hfit.2.2; simpa using this
      have hin : (0 ≤ (i : Int) ∧ (i : Int) < nr) ∧ rf_fit (R : Int) (K : Int) 2 16 := ⟨hq, hfit⟩
      by_cases hqt : rs_nb (rs i) ≠ 0 ∧ rs_bo (rs i) % 2 = 0
      · have hqz : sp_quiet (rs (i : Int).toNat) := by rw [Int.toNat_natCast]; exact hqt
        by_cases hs : sr = 30
        · refine (c_X11_garden_w G c1 c4 hi c8 m6.1 (R := R) (C := K) (by omega) (by omega) hRC (fun q => by omega)).mono (fun r w1 p => ?_)
          obtain ⟨p, rfl⟩ := p
          rw [if_pos hqt] at p
          exact neg (rf_f hin hqz hs) (by decide) p
        · refine (c_X11_garden_y G c1 c4 hi c8 m6.1 (R := R) (C := K) (by omega) (by omega) hRC hqt.1 hqt.2 (by have := m6.1; omega)).mono (fun r w1 p => ?_)
          obtain ⟨hr, F1, hP⟩ := p
          obtain ⟨hC1, hG⟩ := C.srch F1 hP
          have hM1 := hM.out c2 hG (fun q j l1 l2 => by omega)
          refine RB.mk (S := sr_S (o + 35)) hr hB.up ⟨ra, fa, ga, hf, hg, hC1⟩ ((hR w1 hM1).mono (fun r2 w2 p2 => ?_)) (fun q j s => by unfold sr_S at s; omega)
          simp only [Int.toNat_natCast] at p2
          obtain ⟨hr2, F, hs2⟩ := p2.2 (rf_o hin hqz hs)
          exact ⟨hr2, F, ⟨hM1.1.fi F, hM1.2.1.ei (F.e (by unfold sr_S; omega)) (fun j => F.e (by unfold sr_S; omega)), hM1.2.2.1.ei (F.e (by unfold sr_S; omega)) (fun q j l1 l2 => F.e (by unfold sr_S; omega)), hM1.2.2.2.1.ei (F.e (by unfold sr_S; omega)) (fun q j l1 l2 => F.e (by unfold sr_S; omega)), hM1.2.2.2.2.1.ei (F.e (by unfold sr_S; omega)) (fun q j l1 l2 => F.e (by unfold sr_S; omega)), hs2, (F.e (by unfold sr_S; omega)).trans hM1.2.2.2.2.2.2.1, (F.e (by unfold sr_S; omega)).trans hM1.2.2.2.2.2.2.2⟩⟩
      · refine (c_X11_garden_w G c1 c4 hi c8 m6.1 (R := R) (C := K) (by omega) (by omega) hRC (fun q => hqt q.1)).mono (fun r w1 p => ?_)
        obtain ⟨p, rfl⟩ := p
        rw [if_neg hqt] at p
        exact neg (rf_q hin (by rw [Int.toNat_natCast]; exact hqt)) (by decide) p
    · refine (c_X11_garden_b G c1 c4 hi hb hc hp).mono (fun r w1 p => ?_)
      obtain ⟨p, rfl⟩ := p
      exact neg (rf_n (fun q => hp (rf_fit_iff.mp q.2))) (by decide) p
  · refine (c_X11_garden_n G c1 c4 ha hq).mono (fun r w1 p => ?_)
    obtain ⟨p, rfl⟩ := p
    exact neg (rf_n (fun q => hq q.1)) (by decide) p

set_option maxHeartbeats 2000000 in
theorem rw_oscillators {G : mu_G} {a b c d : Int32} : ROW G M_X11_oscillators M_X12_oscillators [.int a, .int b, .int c, .int d] := by
  intro w o N n tp nr rs nf fs ng gs sr P sx sy hC hM hB hN
  obtain ⟨za, ha, rfl⟩ := mI_ex a
  obtain ⟨zb, hb, rfl⟩ := mI_ex b
  obtain ⟨zc, hc, rfl⟩ := mI_ex c
  obtain ⟨zd, hd, rfl⟩ := mI_ex d
  obtain ⟨ra, fa, ga, hf, hg, C⟩ := id hC
  obtain ⟨c1, c2, c3, c4, c5, c6, c7, ⟨c8, c9, c10⟩, c11⟩ := id C
  obtain ⟨m1, m2, m3, m4, m5, m6, m7, m8⟩ := id hM
  have hR := fun w1 (h : MST w1 (o + 35) n tp nr rs nf fs ng gs sr P sx sy) => c_X12_oscillators G h.1 h.2.2.1 h.2.2.2.2.2.1 ha hb hc hd
  have neg : ∀ {r : Option Value} {v : Int}, os_v nr rs sr za zb zc zd = v → v < 0 → r = some (.int (mI v)) → ∃ (n' : Nat) (tp' : Nat → Nat) (nr' : Nat) (rs' : Nat → mu_RS) (nf' : Nat) (fs' : Nat → mu_FS) (ng' : Nat) (gs' : Nat → mu_GS) (sr' : Nat) (P' : Nat → Prop) (sx' sy' : Int32), RB G M_X12_oscillators [.int (mI za), .int (mI zb), .int (mI zc), .int (mI zd)] o N n' tp' nr' rs' nf' fs' ng' gs' sr' P' sx' sy' r w := fun {r v} e l hr => RB.ro hr hB hC hM ((hR _ hM).mono (fun r2 w2 p2 => by rw [e] at p2; exact p2.1 l))
  by_cases hq : 0 ≤ za ∧ za < nr
  · obtain ⟨i, rfl⟩ := Int.eq_ofNat_of_zero_le hq.1
    have hi : i < nr := by omega
    by_cases hp : (1 ≤ zb ∧ zb ≤ 16 ∧ 1 ≤ zc ∧ zc ≤ 16 ∧ (zb + 0) * (zc + 0) ≤ 12) ∧ 2 ≤ zd ∧ zd ≤ 6
    · have hbx : (1 ≤ zb ∧ zb ≤ 16 ∧ 1 ≤ zc ∧ zc ≤ 16 ∧ (zb + 0) * (zc + 0) ≤ 12) := hp.1
      have hfit : rf_fit zb zc 0 12 := rf_fit_iff.mpr hbx
      obtain ⟨R, rfl⟩ := Int.eq_ofNat_of_zero_le (show 0 ≤ zb by omega)
      obtain ⟨K, rfl⟩ := Int.eq_ofNat_of_zero_le (show 0 ≤ zc by omega)
      obtain ⟨p0, rfl⟩ := Int.eq_ofNat_of_zero_le (show 0 ≤ zd by omega)
      have hRC : R * K ≤ 12 := by have := hfit.2.2; simpa using this
      have hin : (0 ≤ (i : Int) ∧ (i : Int) < nr) ∧ rf_fit (R : Int) (K : Int) 0 12 := ⟨hq, hfit⟩
      by_cases hqt : rs_nb (rs i) ≠ 0 ∧ rs_bo (rs i) % 2 = 0
      · have hqz : sp_quiet (rs (i : Int).toNat) := by rw [Int.toNat_natCast]; exact hqt
        by_cases hs : sr = 30
        · refine (c_X11_oscillators_w G c1 c4 hi c8 m6.1 (R := R) (C := K) (p := p0) (by omega) (by omega) hRC (by omega) (fun q => by omega)).mono (fun r w1 p => ?_)
          obtain ⟨p, rfl⟩ := p
          rw [if_pos hqt] at p
          exact neg (by unfold os_v; rw [if_neg (by rw [(rf_f hin hqz hs)]; exact fun q => q.elim (by decide) (fun q => q (by omega : 2 ≤ (p0 : Int) ∧ (p0 : Int) ≤ 6))), (rf_f hin hqz hs)]) (by decide) p
        · refine (c_X11_oscillators_y G c1 c4 hi c8 m6.1 (R := R) (C := K) (p := p0) (by omega) (by omega) hRC (by omega) hqt.1 hqt.2 (by have := m6.1; omega)).mono (fun r w1 p => ?_)
          obtain ⟨hr, F1, hP⟩ := p
          obtain ⟨hC1, hG⟩ := C.srch F1 hP
          have hM1 := hM.out c2 hG (fun q j l1 l2 => by omega)
          refine RB.mk (S := sr_S (o + 35)) hr hB.up ⟨ra, fa, ga, hf, hg, hC1⟩ ((hR w1 hM1).mono (fun r2 w2 p2 => ?_)) (fun q j s => by unfold sr_S at s; omega)
          simp only [Int.toNat_natCast] at p2
          obtain ⟨hr2, F, hs2⟩ := p2.2 (by unfold os_v; rw [if_neg (by rw [(rf_o hin hqz hs)]; exact fun q => q.elim (by decide) (fun q => q (by omega : 2 ≤ (p0 : Int) ∧ (p0 : Int) ≤ 6))), (rf_o hin hqz hs)])
          exact ⟨hr2, F, ⟨hM1.1.fi F, hM1.2.1.ei (F.e (by unfold sr_S; omega)) (fun j => F.e (by unfold sr_S; omega)), hM1.2.2.1.ei (F.e (by unfold sr_S; omega)) (fun q j l1 l2 => F.e (by unfold sr_S; omega)), hM1.2.2.2.1.ei (F.e (by unfold sr_S; omega)) (fun q j l1 l2 => F.e (by unfold sr_S; omega)), hM1.2.2.2.2.1.ei (F.e (by unfold sr_S; omega)) (fun q j l1 l2 => F.e (by unfold sr_S; omega)), hs2, (F.e (by unfold sr_S; omega)).trans hM1.2.2.2.2.2.2.1, (F.e (by unfold sr_S; omega)).trans hM1.2.2.2.2.2.2.2⟩⟩
      · refine (c_X11_oscillators_w G c1 c4 hi c8 m6.1 (R := R) (C := K) (p := p0) (by omega) (by omega) hRC (by omega) (fun q => hqt q.1)).mono (fun r w1 p => ?_)
        obtain ⟨p, rfl⟩ := p
        rw [if_neg hqt] at p
        exact neg (by unfold os_v; rw [if_neg (by rw [(rf_q hin (by rw [Int.toNat_natCast]; exact hqt))]; exact fun q => q.elim (by decide) (fun q => q (by omega : 2 ≤ (p0 : Int) ∧ (p0 : Int) ≤ 6))), (rf_q hin (by rw [Int.toNat_natCast]; exact hqt))]) (by decide) p
    · refine (c_X11_oscillators_b G c1 c4 hi hb hc hd hp).mono (fun r w1 p => ?_)
      obtain ⟨p, rfl⟩ := p
      have hneg : rf_v nr rs sr (i : Int) zb zc 0 12 = -1 ∨ ¬ (2 ≤ zd ∧ zd ≤ 6) := by
        by_cases q : (0 ≤ (i : Int) ∧ (i : Int) < nr) ∧ rf_fit zb zc 0 12
        · exact Or.inr (fun q2 => hp ⟨rf_fit_iff.mp q.2, q2⟩)
        · exact Or.inl (rf_n q)
      exact neg (by unfold os_v; rw [if_pos hneg]) (by decide) p
  · refine (c_X11_oscillators_n G c1 c4 ha hq).mono (fun r w1 p => ?_)
    obtain ⟨p, rfl⟩ := p
    exact neg (by unfold os_v; rw [if_pos (Or.inl (rf_n (fun q => hq q.1)))]) (by decide) p

set_option maxHeartbeats 2000000 in
theorem rw_ancestors {G : mu_G} {a b c d : Int32} : ROW G M_X11_ancestors M_X12_ancestors [.int a, .int b, .int c, .int d] := by
  intro w o N n tp nr rs nf fs ng gs sr P sx sy hC hM hB hN
  obtain ⟨za, ha, rfl⟩ := mI_ex a
  obtain ⟨zb, hb, rfl⟩ := mI_ex b
  obtain ⟨zc, hc, rfl⟩ := mI_ex c
  obtain ⟨zd, hd, rfl⟩ := mI_ex d
  obtain ⟨ra, fa, ga, hf, hg, C⟩ := id hC
  obtain ⟨c1, c2, c3, c4, c5, c6, c7, ⟨c8, c9, c10⟩, c11⟩ := id C
  obtain ⟨m1, m2, m3, m4, m5, m6, m7, m8⟩ := id hM
  have hR := fun w1 (h : MST w1 (o + 35) n tp nr rs nf fs ng gs sr P sx sy) => c_X12_ancestors G h.1 h.2.2.1 h.2.2.2.2.2.1 ha hb hc hd
  have neg : ∀ {r : Option Value} {v : Int}, an_v nr rs sr za zb zc zd = v → v < 0 → r = some (.int (mI v)) → ∃ (n' : Nat) (tp' : Nat → Nat) (nr' : Nat) (rs' : Nat → mu_RS) (nf' : Nat) (fs' : Nat → mu_FS) (ng' : Nat) (gs' : Nat → mu_GS) (sr' : Nat) (P' : Nat → Prop) (sx' sy' : Int32), RB G M_X12_ancestors [.int (mI za), .int (mI zb), .int (mI zc), .int (mI zd)] o N n' tp' nr' rs' nf' fs' ng' gs' sr' P' sx' sy' r w := fun {r v} e l hr => RB.ro hr hB hC hM ((hR _ hM).mono (fun r2 w2 p2 => by rw [e] at p2; exact p2.1 l))
  by_cases hq : 0 ≤ za ∧ za < nr
  · obtain ⟨i, rfl⟩ := Int.eq_ofNat_of_zero_le hq.1
    have hi : i < nr := by omega
    by_cases hp : (1 ≤ zb ∧ zb ≤ 16 ∧ 1 ≤ zc ∧ zc ≤ 16 ∧ (zb + 2) * (zc + 2) ≤ 16) ∧ 0 ≤ zd ∧ zd < ((2 ^ (zb.toNat * zc.toNat) : Nat) : Int)
    · have hbx : (1 ≤ zb ∧ zb ≤ 16 ∧ 1 ≤ zc ∧ zc ≤ 16 ∧ (zb + 2) * (zc + 2) ≤ 16) := hp.1
      have hfit : rf_fit zb zc 2 16 := rf_fit_iff.mpr hbx
      obtain ⟨R, rfl⟩ := Int.eq_ofNat_of_zero_le (show 0 ≤ zb by omega)
      obtain ⟨K, rfl⟩ := Int.eq_ofNat_of_zero_le (show 0 ≤ zc by omega)
      obtain ⟨p0, rfl⟩ := Int.eq_ofNat_of_zero_le (show 0 ≤ zd by omega)
      have hRC : (R + 2) * (K + 2) ≤ 16 := by have := hfit.2.2; simpa using this
      have hpp : p0 < 2 ^ (R * K) := by have := hp.2.2; rw [Int.toNat_natCast, Int.toNat_natCast] at this; omega
      have hpx : 0 ≤ (p0 : Int) ∧ (p0 : Int) < 2 ^ ((R : Int).toNat * (K : Int).toNat) := by have := hp.2; rw [Int.natCast_pow] at this; exact this
      have hin : (0 ≤ (i : Int) ∧ (i : Int) < nr) ∧ rf_fit (R : Int) (K : Int) 2 16 := ⟨hq, hfit⟩
      by_cases hqt : rs_nb (rs i) ≠ 0 ∧ rs_bo (rs i) % 2 = 0
      · have hqz : sp_quiet (rs (i : Int).toNat) := by rw [Int.toNat_natCast]; exact hqt
        by_cases hs : sr = 30
        · refine (c_X11_ancestors_w G c1 c4 hi c8 m6.1 (R := R) (C := K) (p := p0) (by omega) (by omega) hRC hpp (fun q => by omega)).mono (fun r w1 p => ?_)
          obtain ⟨p, rfl⟩ := p
          rw [if_pos hqt] at p
          exact neg (by unfold an_v; rw [if_neg (by rw [(rf_f hin hqz hs)]; exact fun q => q.elim (by decide) (fun q => q hpx)), (rf_f hin hqz hs)]) (by decide) p
        · refine (c_X11_ancestors_y G c1 c4 hi c8 m6.1 (R := R) (C := K) (p := p0) (by omega) (by omega) hRC hpp hqt.1 hqt.2 (by have := m6.1; omega)).mono (fun r w1 p => ?_)
          obtain ⟨F1, t, t1, hP0, t2, hr0⟩ := p
          have h16 : 2 ^ ((R + 2) * (K + 2)) ≤ 65536 := pw16 hRC
          have hiff : ∀ x, x < 65536 → ((x < t ∧ an_P (rs i) R K p0 x) ↔ an_P (rs i) R K p0 x) := fun x hx => ⟨fun q => q.2, fun q => ⟨by
            rcases t2 with e | e
            · rw [e]; exact q.1
            · exact (en_full (P := fun x => x < t ∧ an_P (rs i) R K p0 x) (n := 65536) (by have := en_le (fun x => x < t ∧ an_P (rs i) R K p0 x) 65536; omega) x hx).1, q⟩⟩
          have hP : CHt w1 (o + 27) (an_P (rs i) R K p0) := hP0.ext hiff
          have hr : r = some (.int (mI (en_c (an_P (rs i) R K p0) 65536))) := by rw [hr0, en_eq hiff]
          obtain ⟨hC1, hG⟩ := C.srch F1 hP
          have hM1 := hM.out c2 hG (fun q j l1 l2 => by omega)
          refine RB.mk (S := sr_S (o + 35)) hr hB.up ⟨ra, fa, ga, hf, hg, hC1⟩ ((hR w1 hM1).mono (fun r2 w2 p2 => ?_)) (fun q j s => by unfold sr_S at s; omega)
          simp only [Int.toNat_natCast] at p2
          obtain ⟨hr2, F, hs2⟩ := p2.2 (by unfold an_v; rw [if_neg (by rw [(rf_o hin hqz hs)]; exact fun q => q.elim (by decide) (fun q => q hpx)), (rf_o hin hqz hs)])
          exact ⟨hr2, F, ⟨hM1.1.fi F, hM1.2.1.ei (F.e (by unfold sr_S; omega)) (fun j => F.e (by unfold sr_S; omega)), hM1.2.2.1.ei (F.e (by unfold sr_S; omega)) (fun q j l1 l2 => F.e (by unfold sr_S; omega)), hM1.2.2.2.1.ei (F.e (by unfold sr_S; omega)) (fun q j l1 l2 => F.e (by unfold sr_S; omega)), hM1.2.2.2.2.1.ei (F.e (by unfold sr_S; omega)) (fun q j l1 l2 => F.e (by unfold sr_S; omega)), hs2, (F.e (by unfold sr_S; omega)).trans hM1.2.2.2.2.2.2.1, (F.e (by unfold sr_S; omega)).trans hM1.2.2.2.2.2.2.2⟩⟩
      · refine (c_X11_ancestors_w G c1 c4 hi c8 m6.1 (R := R) (C := K) (p := p0) (by omega) (by omega) hRC hpp (fun q => hqt q.1)).mono (fun r w1 p => ?_)
        obtain ⟨p, rfl⟩ := p
        rw [if_neg hqt] at p
        exact neg (by unfold an_v; rw [if_neg (by rw [(rf_q hin (by rw [Int.toNat_natCast]; exact hqt))]; exact fun q => q.elim (by decide) (fun q => q hpx)), (rf_q hin (by rw [Int.toNat_natCast]; exact hqt))]) (by decide) p
    · refine (c_X11_ancestors_b G c1 c4 hi hb hc hd hp).mono (fun r w1 p => ?_)
      obtain ⟨p, rfl⟩ := p
      have hneg : rf_v nr rs sr (i : Int) zb zc 2 16 = -1 ∨ ¬ (0 ≤ zd ∧ zd < 2 ^ (zb.toNat * zc.toNat)) := by
        by_cases q : (0 ≤ (i : Int) ∧ (i : Int) < nr) ∧ rf_fit zb zc 2 16
        · exact Or.inr (fun q2 => hp ⟨rf_fit_iff.mp q.2, by rw [Int.natCast_pow]; exact q2⟩)
        · exact Or.inl (rf_n q)
      exact neg (by unfold an_v; rw [if_pos hneg]) (by decide) p
  · refine (c_X11_ancestors_n G c1 c4 ha hq).mono (fun r w1 p => ?_)
    obtain ⟨p, rfl⟩ := p
    exact neg (by unfold an_v; rw [if_pos (Or.inl (rf_n (fun q => hq q.1)))]) (by decide) p
