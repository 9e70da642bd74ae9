/-! ===== rows: grids that change, searches ===== -/
theorem cu_lS {c : Nat → Nat → Nat} {S : Nat} (h : ∀ i j, c i j < S) {p q v : Nat} (hv : v < S) : ∀ i j, cu c p q v i j < S := fun i j => by
  unfold cu
  by_cases e : i = p ∧ j = q
  · rw [if_pos e]; exact hv
  · rw [if_neg e]; exact h i j
theorem gs_i6 {R C i j : Nat} (hR : gs_sd R) (hC : gs_sd C) (hi : i < R) (hj : j < C) : C * i + j < 256 := by
  have h1 : C * i + C ≤ C * R := by rw [← Nat.mul_succ]; exact Nat.mul_le_mul_left _ hi
  have h2 : C * R ≤ 16 * 16 := Nat.mul_le_mul hC.2.1 hR.2.1
  omega

set_option maxHeartbeats 2000000 in
theorem rw_set {G : mu_G} {a b c d : Int32} : ROW G M_X11_set M_X12_set [.int a, .int b, .int c, .int d] := by
  intro w o N n tp nr rs nf fs ng gs sr P sx sy hC hM hB hN
  obtain ⟨za, ha, rfl⟩ := mI_ex a
  obtain ⟨zb, hb, rfl⟩ := mI_ex b
  obtain ⟨zc, hc, rfl⟩ := mI_ex c
  obtain ⟨zd, hd, rfl⟩ := mI_ex d
  obtain ⟨ra, fa, ga, hf, hg, C⟩ := id hC
  obtain ⟨c1, c2, c3, c4, c5, c6, c7, ⟨c8, c9, c10⟩, c11⟩ := id C
  obtain ⟨m1, m2, m3, m4, m5, m6, m7, m8⟩ := id hM
  have hR := c_X12_set G m1 m3 m5 ha hb hc hd
  by_cases hq : 0 ≤ za ∧ za < ng
  · obtain ⟨i, rfl⟩ := Int.eq_ofNat_of_zero_le hq.1
    have hi : i < ng := by omega
    have hgk := (m5.2.2 i hi).1
    have hS := rs_S2 (m3.2.2 _ hgk.1).1 hgk.2.1
    have hig : i < hg := Nat.lt_of_lt_of_le hi c6.1
    have hli := C.lo.2.2 i hig
    have cg := c6.2.2.2.2.2.2 i hi
    have cgo := (c6.2.2.2.1 i hig).2.2.2
    by_cases hp : (0 ≤ zb ∧ zb < (gs_R (gs i) : Int) ∧ 0 ≤ zc ∧ zc < (gs_C (gs i) : Int)) ∧ 0 ≤ zd ∧ zd < (rs_S (rs (gs_r (gs i))) : Int)
    · obtain ⟨x, rfl⟩ := Int.eq_ofNat_of_zero_le hp.1.1
      obtain ⟨y, rfl⟩ := Int.eq_ofNat_of_zero_le hp.1.2.2.1
      obtain ⟨v, rfl⟩ := Int.eq_ofNat_of_zero_le hp.2.1
      refine (c_X11_set_y G c1 c6 hi hgk hS (p := x) (q := y) (v := v) (by omega) (by omega) (by omega)).mono (fun r w1 p => ?_)
      obtain ⟨hr, F1, hcc⟩ := p
      have hG := mu_Gx.fi F1
      have hC1 : CST w1 o n tp nr rs nf fs ng (gi_up gs i (gs_n (gs i)) (cu (gs_c (gs i)) x y v)) sr P sx sy := ⟨ra, fa, ga, hf, hg, C.grd hG hig (fun q j s => by omega) (C.kS hG (fun q j l1 l2 => by omega)) (cgo.sm (F1.2.1 _) (F1.2.1 _) (F1.2.2.1 _ _)) (fun _ => ⟨⟨F1.iv (by omega) cg.1.1, F1.iv (by omega) cg.1.2.1, F1.iv (by omega) cg.1.2.2.1, F1.iv (by omega) cg.1.2.2.2⟩, hcc, F1.rv cg.2.2⟩)⟩
      have hM1 := hM.out c2 hG (fun q j l1 l2 => by omega)
      refine RB.mk (S := fl_S (o + 35) i) hr (hB.gi (by have := hB i hi; omega)) hC1 ((c_X12_set G hM1.1 hM1.2.2.1 hM1.2.2.2.2.1 ha hb hc hd).mono (fun r2 w2 p2 => ?_)) (fun q j s => by unfold fl_S at s; omega)
      rw [if_pos (by rw [Int.toNat_natCast]; omega), Int.toNat_natCast, Int.toNat_natCast, Int.toNat_natCast] at p2
      obtain ⟨hr2, hw2⟩ := p2
      have hix := gs_i6 hgk.2.2.1 hgk.2.2.2.1 (show x < gs_R (gs i) by omega) (show y < gs_C (gs i) by omega)
      have F : mu_Fi (fl_S (o + 35) i) w1 w2 := by rw [hw2]; exact mu_Fi.one _ _ _ _ (by unfold fl_S; omega)
      have hg1 := hM1.2.2.2.2.1
      refine ⟨hr2, F, ⟨hM1.1.fi F, hM1.2.1.ei (F.e (by unfold fl_S; omega)) (fun j => F.e (by unfold fl_S; omega)), hM1.2.2.1.ei (F.e (by unfold fl_S; omega)) (fun q j l1 l2 => F.e (by unfold fl_S; omega)), hM1.2.2.2.1.ei (F.e (by unfold fl_S; omega)) (fun q j l1 l2 => F.e (by unfold fl_S; omega)), ?_, hM1.2.2.2.2.2.1.ei (F.e (by unfold fl_S; omega)) (F.e (by unfold fl_S; omega)) (fun j => F.e (by unfold fl_S; omega)), (F.e (by unfold fl_S; omega)).trans hM1.2.2.2.2.2.2.1, (F.e (by unfold fl_S; omega)).trans hM1.2.2.2.2.2.2.2⟩⟩
      refine hg1.cells hi hgk.2.2.2.2.1 (cu_lS hgk.2.2.2.2.2 (by omega)) (F.e (by unfold fl_S; omega)) (fun q j l1 l2 => F.e (by unfold fl_S; omega)) (fun j _ => F.e (by unfold fl_S; omega)) ((F.e (by unfold fl_S; omega)).trans (hg1.2.2 i hi).2.2.2.2.1) (fun j hj => F.e (by unfold fl_S; omega)) (fun s t hs ht => ?_)
      rw [hw2, mu_iv_si]
      unfold cu
      by_cases e : s = x ∧ t = y
      · rw [if_pos ⟨rfl, by rw [e.1, e.2]⟩, if_pos e]
      · rw [if_neg (fun h => e (gs_inj ht (show y < gs_C (gs i) by omega) (by omega))), if_neg e]
        exact (hg1.2.2 i hi).2.2.2.2.2 s t hs ht
    · refine (c_X11_set_b G c1 c6 hi hgk hS hb hc hd hp).mono (fun r w1 p => ?_)
      obtain ⟨p, rfl⟩ := p
      refine RB.ro p hB hC hM (hR.mono (fun r2 w2 p2 => ?_))
      rw [if_neg (by rw [Int.toNat_natCast]; omega)] at p2
      exact p2
  · refine (c_X11_set_n G c1 c6 ha hq).mono (fun r w1 p => ?_)
    obtain ⟨p, rfl⟩ := p
    refine RB.ro p hB hC hM (hR.mono (fun r2 w2 p2 => ?_))
    rw [if_neg (fun q => hq q.1.1)] at p2
    exact p2

set_option maxHeartbeats 2000000 in
theorem rw_fill {G : mu_G} {a b c : Int32} : ROW G M_X11_fill M_X12_fill [.int a, .int b, .int c] := by
  intro w o N n tp nr rs nf fs ng gs sr P sx sy hC hM hB hN
  obtain ⟨za, ha, rfl⟩ := mI_ex a
  obtain ⟨zc, hc, rfl⟩ := mI_ex c
  obtain ⟨ra, fa, ga, hf, hg, C⟩ := id hC
  obtain ⟨c1, c2, c3, c4, c5, c6, c7, ⟨c8, c9, c10⟩, c11⟩ := id C
  obtain ⟨m1, m2, m3, m4, m5, m6, m7, m8⟩ := id hM
  have hR := fun w1 (h : MST w1 (o + 35) n tp nr rs nf fs ng gs sr P sx sy) => c_X12_fill G h.1 h.2.2.1 h.2.2.2.2.1 (seed := b) ha hc
  by_cases hq : 0 ≤ za ∧ za < ng
  · obtain ⟨i, rfl⟩ := Int.eq_ofNat_of_zero_le hq.1
    have hi : i < ng := by omega
    have hgk := (m5.2.2 i hi).1
    have hS := rs_S2 (m3.2.2 _ hgk.1).1 hgk.2.1
    have hig : i < hg := Nat.lt_of_lt_of_le hi c6.1
    have hli := C.lo.2.2 i hig
    have cg := c6.2.2.2.2.2.2 i hi
    have cgo := (c6.2.2.2.1 i hig).2.2.2
    by_cases hp : 0 ≤ zc ∧ zc ≤ 100
    · obtain ⟨k, rfl⟩ := Int.eq_ofNat_of_zero_le hp.1
      refine (c_X11_fill_y G c1 c6 hi hgk hS (seed := b) (n := k) (by omega)).mono (fun r w1 p => ?_)
      obtain ⟨hr, F1, hcc⟩ := p
      have hG := mu_Gx.fi F1
      have hC1 : CST w1 o n tp nr rs nf fs ng (gi_up gs i (gs_n (gs i)) (sp_fl b k (rs_S (rs (gs_r (gs i)))) (gs_C (gs i)) (gs_R (gs i) * gs_C (gs i)) (gs_c (gs i)))) sr P sx sy := ⟨ra, fa, ga, hf, hg, C.grd hG hig (fun q j s => by omega) (C.kS hG (fun q j l1 l2 => by omega)) (cgo.sm (F1.2.1 _) (F1.2.1 _) (F1.2.2.1 _ _)) (fun _ => ⟨⟨F1.iv (by omega) cg.1.1, F1.iv (by omega) cg.1.2.1, F1.iv (by omega) cg.1.2.2.1, F1.iv (by omega) cg.1.2.2.2⟩, hcc, F1.rv cg.2.2⟩)⟩
      have hM1 := hM.out c2 hG (fun q j l1 l2 => by omega)
      refine RB.mk (S := fl_S (o + 35) i) hr (hB.gi (by have := hB i hi; omega)) hC1 ((hR w1 hM1).mono (fun r2 w2 p2 => ?_)) (fun q j s => by unfold fl_S at s; omega)
      unfold fl_post at p2
      rw [if_pos ⟨hq, hp⟩, Int.toNat_natCast, Int.toNat_natCast] at p2
      obtain ⟨hr2, F, hg2⟩ := p2
      exact ⟨hr2, F, ⟨hM1.1.fi F, hM1.2.1.ei (F.e (by unfold fl_S; omega)) (fun j => F.e (by unfold fl_S; omega)), hM1.2.2.1.ei (F.e (by unfold fl_S; omega)) (fun q j l1 l2 => F.e (by unfold fl_S; omega)), hM1.2.2.2.1.ei (F.e (by unfold fl_S; omega)) (fun q j l1 l2 => F.e (by unfold fl_S; omega)), hg2, hM1.2.2.2.2.2.1.ei (F.e (by unfold fl_S; omega)) (F.e (by unfold fl_S; omega)) (fun j => F.e (by unfold fl_S; omega)), (F.e (by unfold fl_S; omega)).trans hM1.2.2.2.2.2.2.1, (F.e (by unfold fl_S; omega)).trans hM1.2.2.2.2.2.2.2⟩⟩
    · refine (c_X11_fill_b G c1 c6 hi hc hp).mono (fun r w1 p => ?_)
      obtain ⟨p, rfl⟩ := p
      refine RB.ro p hB hC hM ((hR _ hM).mono (fun r2 w2 p2 => ?_))
      unfold fl_post at p2
      rw [if_neg (fun q => hp q.2)] at p2
      exact p2
  · refine (c_X11_fill_n G c1 c6 ha hq).mono (fun r w1 p => ?_)
    obtain ⟨p, rfl⟩ := p
    refine RB.ro p hB hC hM ((hR _ hM).mono (fun r2 w2 p2 => ?_))
    unfold fl_post at p2
    rw [if_neg (fun q => hq q.1)] at p2
    exact p2

set_option maxHeartbeats 2000000 in
theorem rw_go {G : mu_G} {a b : Int32} : ROW G M_X11_go M_X12_go [.int a, .int b] := by
  intro w o N n tp nr rs nf fs ng gs sr P sx sy hC hM hB hN
  obtain ⟨za, ha, rfl⟩ := mI_ex a
  obtain ⟨zb, hb, rfl⟩ := mI_ex b
  obtain ⟨ra, fa, ga, hf, hg, C⟩ := id hC
  obtain ⟨c1, c2, c3, c4, c5, c6, c7, ⟨c8, c9, c10⟩, c11⟩ := id C
  obtain ⟨m1, m2, m3, m4, m5, m6, m7, m8⟩ := id hM
  have hR := fun w1 (h : MST w1 (o + 35) n tp nr rs nf fs ng gs sr P sx sy) => c_X12_go G h.1 h.2.2.1 h.2.2.2.2.1 ha hb (fun g hg => Nat.le_trans (hB g hg) hN)
  by_cases hq : 0 ≤ za ∧ za < ng
  · obtain ⟨i, rfl⟩ := Int.eq_ofNat_of_zero_le hq.1
    have hi : i < ng := by omega
    have hgk := (m5.2.2 i hi).1
    have hS := rs_S2 (m3.2.2 _ hgk.1).1 hgk.2.1
    have hig : i < hg := Nat.lt_of_lt_of_le hi c6.1
    have hli := C.lo.2.2 i hig
    have cg := c6.2.2.2.2.2.2 i hi
    have cgo := (c6.2.2.2.1 i hig).2.2.2
    have hcr := (c4.2.2 _ hgk.1).2.2.2
    have hBi := hB i hi
    have hin : ∀ q j, gg_S (o + 35) i q j → o + 35 ≤ q ∧ q < o + 72 := fun q j s => by unfold gg_S at s; omega
    by_cases hp : zb ≠ 0 ∧ -1000 ≤ zb ∧ zb ≤ 1000
    · by_cases h0 : 0 < zb
      · obtain ⟨k, rfl⟩ := Int.eq_ofNat_of_zero_le (show 0 ≤ zb by omega)
        refine (c_X11_go_f G c1 c6 hi hgk hS hcr (m := k) (by omega) (by omega)).mono (fun r w1 p => ?_)
        obtain ⟨hr, F1, h5, hcc⟩ := p
        have hG := mu_Gx.fi F1
        have hC1 : CST w1 o n tp nr rs nf fs ng (gi_up gs i (gs_n (gs i) + k) (sp_gfw rs (gs i) k)) sr P sx sy := ⟨ra, fa, ga, hf, hg, C.grd hG hig (fun q j s => by unfold gS at s; omega) (C.kS hG (fun q j l1 l2 => by unfold gS; omega)) (cgo.sm (F1.2.1 _) (F1.2.1 _) (F1.2.2.1 _ _)) (fun _ => ⟨h5, hcc, F1.rv cg.2.2⟩)⟩
        have hM1 := hM.out c2 hG (fun q j l1 l2 => by unfold gS; omega)
        refine RB.mk hr (hB.gi (by omega)) hC1 ((hR w1 hM1).mono (fun r2 w2 p2 => ?_)) hin
        unfold gg_post at p2
        rw [if_pos ⟨hq, hp⟩, Int.toNat_natCast, Int.toNat_natCast] at p2
        obtain ⟨F, -, p3, -⟩ := p2
        obtain ⟨hr2, hg2⟩ := p3 h0
        exact ⟨by rw [hr2]; rfl, F, ⟨hM1.1.fi F, hM1.2.1.ei (F.e (by unfold gg_S; omega)) (fun j => F.e (by unfold gg_S; omega)), hM1.2.2.1.ei (F.e (by unfold gg_S; omega)) (fun q j l1 l2 => F.e (by unfold gg_S; omega)), hM1.2.2.2.1.ei (F.e (by unfold gg_S; omega)) (fun q j l1 l2 => F.e (by unfold gg_S; omega)), hg2, hM1.2.2.2.2.2.1.ei (F.e (by unfold gg_S; omega)) (F.e (by unfold gg_S; omega)) (fun j => F.e (by unfold gg_S; omega)), (F.e (by unfold gg_S; omega)).trans hM1.2.2.2.2.2.2.1, (F.e (by unfold gg_S; omega)).trans hM1.2.2.2.2.2.2.2⟩⟩
      · obtain ⟨k, hk⟩ : ∃ k : Nat, zb = -(k : Int) := ⟨(-zb).toNat, by omega⟩
        subst hk
        refine (c_X11_go_k G c1 c6 hi hgk hS hcr (m := k) (by omega) (by omega)).mono (fun r w1 p => ?_)
        obtain ⟨p1, p3⟩ := p
        by_cases hv : sp_rev (rs_N (rs (gs_r (gs i)))) (rs_be (rs (gs_r (gs i)))) ∧ k ≤ gs_n (gs i)
        · obtain ⟨hr, F1, h5, hcc⟩ := p3 hv
          have hG := mu_Gx.fi F1
          have hC1 : CST w1 o n tp nr rs nf fs ng (gi_up gs i (gs_n (gs i) - k) (sp_gbw rs (gs i) k)) sr P sx sy := ⟨ra, fa, ga, hf, hg, C.grd hG hig (fun q j s => by unfold gS at s; omega) (C.kS hG (fun q j l1 l2 => by unfold gS; omega)) (cgo.sm (F1.2.1 _) (F1.2.1 _) (F1.2.2.1 _ _)) (fun _ => ⟨h5, hcc, F1.rv cg.2.2⟩)⟩
          have hM1 := hM.out c2 hG (fun q j l1 l2 => by unfold gS; omega)
          refine RB.mk hr (hB.gi (by omega)) hC1 ((hR w1 hM1).mono (fun r2 w2 p2 => ?_)) hin
          unfold gg_post at p2
          rw [if_pos ⟨hq, hp⟩, Int.toNat_natCast, show (- -(k : Int)).toNat = k by omega] at p2
          obtain ⟨F, -, -, p4⟩ := p2
          obtain ⟨hr2, hg2⟩ := p4 (by omega) hv.1 (by omega)
          exact ⟨by rw [hr2, show ((gs_n (gs i) : Int) + -(k : Int)) = ((gs_n (gs i) - k : Nat) : Int) by omega], F, ⟨hM1.1.fi F, hM1.2.1.ei (F.e (by unfold gg_S; omega)) (fun j => F.e (by unfold gg_S; omega)), hM1.2.2.1.ei (F.e (by unfold gg_S; omega)) (fun q j l1 l2 => F.e (by unfold gg_S; omega)), hM1.2.2.2.1.ei (F.e (by unfold gg_S; omega)) (fun q j l1 l2 => F.e (by unfold gg_S; omega)), hg2, hM1.2.2.2.2.2.1.ei (F.e (by unfold gg_S; omega)) (F.e (by unfold gg_S; omega)) (fun j => F.e (by unfold gg_S; omega)), (F.e (by unfold gg_S; omega)).trans hM1.2.2.2.2.2.2.1, (F.e (by unfold gg_S; omega)).trans hM1.2.2.2.2.2.2.2⟩⟩
        · obtain ⟨hr, rfl⟩ := p1 hv
          refine RB.mk hr hB.up hC ((hR _ hM).mono (fun r2 w2 p2 => ?_)) hin
          unfold gg_post at p2
          rw [if_pos ⟨hq, hp⟩, Int.toNat_natCast] at p2
          obtain ⟨F, p4, -⟩ := p2
          obtain ⟨hr2, hg2⟩ := p4 (by omega) (by
            by_cases e : sp_rev (rs_N (rs (gs_r (gs i)))) (rs_be (rs (gs_r (gs i))))
            · exact Or.inr (by have : ¬ k ≤ gs_n (gs i) := fun l => hv ⟨e, l⟩; omega)
            · exact Or.inl e)
          exact ⟨hr2, F, ⟨hM.1.fi F, hM.2.1.ei (F.e (by unfold gg_S; omega)) (fun j => F.e (by unfold gg_S; omega)), hM.2.2.1.ei (F.e (by unfold gg_S; omega)) (fun q j l1 l2 => F.e (by unfold gg_S; omega)), hM.2.2.2.1.ei (F.e (by unfold gg_S; omega)) (fun q j l1 l2 => F.e (by unfold gg_S; omega)), hg2, hM.2.2.2.2.2.1.ei (F.e (by unfold gg_S; omega)) (F.e (by unfold gg_S; omega)) (fun j => F.e (by unfold gg_S; omega)), (F.e (by unfold gg_S; omega)).trans hM.2.2.2.2.2.2.1, (F.e (by unfold gg_S; omega)).trans hM.2.2.2.2.2.2.2⟩⟩
    · refine (c_X11_go_b G c1 c6 hi hb hp).mono (fun r w1 p => ?_)
      obtain ⟨p, rfl⟩ := p
      refine RB.ro p hB hC hM ((hR _ hM).mono (fun r2 w2 p2 => ?_))
      unfold gg_post at p2
      rw [if_neg (fun q => hp q.2)] at p2
      exact p2
  · refine (c_X11_go_n G c1 c6 ha hq).mono (fun r w1 p => ?_)
    obtain ⟨p, rfl⟩ := p
    refine RB.ro p hB hC hM ((hR _ hM).mono (fun r2 w2 p2 => ?_))
    unfold gg_post at p2
    rw [if_neg (fun q => hq q.1)] at p2
    exact p2

theorem rf_fit_iff {x y : Int} {mo mx : Nat} : rf_fit x y mo mx ↔ 1 ≤ x ∧ x ≤ 16 ∧ 1 ≤ y ∧ y ≤ 16 ∧ (x + mo) * (y + mo) ≤ mx := by
  unfold rf_fit
  have key : ∀ a b : Nat, ((a + mo) * (b + mo) ≤ mx) ↔ (((a : Int) + mo) * ((b : Int) + mo) ≤ (mx : Int)) := fun a b => by
    rw [show ((a : Int) + mo) * ((b : Int) + mo) = (((a + mo) * (b + mo) : Nat) : Int) by rw [Int.natCast_mul]; rfl]
    omega
  constructor
  · rintro ⟨⟨h1, h2⟩, ⟨h3, h4⟩, h5⟩
    have := (key x.toNat y.toNat).mp h5
    rw [Int.toNat_of_nonneg (by omega), Int.toNat_of_nonneg (by omega)] at this
    exact ⟨by omega, h2, by omega, h4, this⟩
  · rintro ⟨h1, h2, h3, h4, h5⟩
    refine ⟨⟨by omega, h2⟩, ⟨by omega, h4⟩, (key x.toNat y.toNat).mpr ?_⟩
    rw [Int.toNat_of_nonneg (by omega), Int.toNat_of_nonneg (by omega)]
    exact h5
section SRV
variable {nr : Nat} {rs : Nat → mu_RS} {sr : Nat} {z x y : Int} {mo mx : Nat}
theorem rf_n (h : ¬ ((0 ≤ z ∧ z < nr) ∧ rf_fit x y mo mx)) : rf_v nr rs sr z x y mo mx = -1 := by unfold rf_v; rw [if_pos h]
theorem rf_q (h : (0 ≤ z ∧ z < nr) ∧ rf_fit x y mo mx) (hq : ¬ sp_quiet (rs z.toNat)) : rf_v nr rs sr z x y mo mx = -2 := by unfold rf_v; rw [if_neg (fun q => q h), if_pos hq]
theorem rf_f (h : (0 ≤ z ∧ z < nr) ∧ rf_fit x y mo mx) (hq : sp_quiet (rs z.toNat)) (hs : sr = 30) : rf_v nr rs sr z x y mo mx = -3 := by unfold rf_v; rw [if_neg (fun q => q h), if_neg (fun q => q hq), if_pos hs]
theorem rf_o (h : (0 ≤ z ∧ z < nr) ∧ rf_fit x y mo mx) (hq : sp_quiet (rs z.toNat)) (hs : ¬ sr = 30) : rf_v nr rs sr z x y mo mx = 0 := by unfold rf_v; rw [if_neg (fun q => q h), if_neg (fun q => q hq), if_neg hs]
end SRV
/-- a search done, on both sides -/
theorem CSx.srch {w w' : mu_W} {o : Nat} {n : Nat} {tp : Nat → Nat} {nr : Nat} {rs : Nat → mu_RS} {nf : Nat} {fs : Nat → mu_FS} {ng : Nat} {gs : Nat → mu_GS} {sr : Nat} {P : Nat → Prop} {sx sy : Int32} {ra fa ga : Nat → Nat} {hf hg : Nat} (h : CSx w o n tp nr rs nf fs ng gs sr P sx sy ra fa ga hf hg) {P' : Nat → Prop} (hF : mu_Fi (seS (o + 27)) (mu_si w o 15 (mI ((sr : Int) + 1))) w') (hP : CHt w' (o + 27) P') : CSx w' o n tp nr rs nf fs ng gs (sr + 1) P' sx sy ra fa ga hf hg ∧ mu_Gx (fun q j => (o + 27 ≤ q ∧ q ≤ o + 34) ∨ (q = o ∧ j = 15)) w w' := by
  have F : mu_Fi (fun q j => (o + 27 ≤ q ∧ q ≤ o + 34) ∨ (q = o ∧ j = 15)) w w' := (mu_Fi.one w o 15 _ (Or.inr ⟨rfl, rfl⟩)).trans (hF.mono (fun q j s => by unfold seS at s; omega))
  exact ⟨h.sea F (fun q j s => s) (hF.iv (by unfold seS; omega) (mu_iv_same _ _ _ _)) hP, mu_Gx.fi F⟩
