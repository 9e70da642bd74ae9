/-! ===== the class reads runs: its cells ===== -/
def pnS (e a : Nat) : Nat → Nat → Prop := fun q j => (q = e ∧ j < 5) ∨ (q = a ∧ 5 ≤ j ∧ j ≤ 9) ∨ q = a + 1 ∨ q = a + 2
def pnt_post (w : mu_W) (e a : Nat) (b : Nat → Int) (x y : Int) (c : Nat → Nat → Nat) (K : Nat) (r : Option Value) (w' : mu_W) : Prop := r = some (.int (mI (tl_n b K))) ∧ mu_Fi (pnS e a) w w' ∧ CFb w' a (tl_c b x y c K) ∧ ∃ L R U D M, CMx (tl_c b x y c K) L R U D M ∧ CFm w' a L R U D M
theorem rt_pn {e a : Nat} {w w' : mu_W} (h : mu_Fi (rt_S e) w w') : mu_Fi (pnS e a) w w' := h.mono (fun q j hh => Or.inl hh)
theorem CLr.fi {S : Nat → Nat → Prop} {w w' : mu_W} {e : Nat} {b : Nat → Int} {x y : Int} {k : Nat} (h : CLr w e b x y k) (hF : mu_Fi S w w') (h3 : ¬ S e 3) (h4 : ¬ S e 4) : CLr w' e b x y k := ⟨hF.iv h3 h.1, hF.iv h4 h.2⟩

set_option maxHeartbeats 4000000 in
set_option maxRecDepth 100000 in
theorem c_X6_paint (G : mu_G) {w : mu_W} {t n : Nat} {tp : Nat → Nat} (ht : CT w t n tp) {a : Nat} (ho : CFo w a) {c : Nat → Nat → Nat} (hb : CFb w a c) {e : Nat} (hke : mu_kd w e = some (6, 0)) {x y : Int} (hx : -128 ≤ x ∧ x < 128) (hy : -128 ≤ y ∧ y < 128) {K : Nat} (hK : RT (tb n tp) K) (hcn : ∀ k, k < K → (tq (tb n tp) k).2.2.2 < 1000) (hF : tl_F (tb n tp) x y K) : mu_Ct G M_X6_paint [.ref e, .ref t, .ref a, .int (mI (x + 128)), .int (mI (y + 128))] w (pnt_post w e a (tb n tp) x y c K) := by
  have nea : a + 1 ≠ e := fun q => by have h9 := hke; rw [← q] at h9; have := h9.symm.trans ho.2.2.1; simp at this
  have nta : ∀ v : Nat × Nat, mu_kd w (a + 1) = some (101, 1024) → a + 1 ≠ t := fun v h8 q => by rw [q] at h8; have := h8.symm.trans ht.1; simp at this
  have nta1 : ∀ v : Nat × Nat, mu_kd w (a + 1) = some (101, 1024) → a + 1 ≠ t + 1 := fun v h8 q => by rw [q] at h8; have := h8.symm.trans ht.2.2.1; simp at this
  refine mu_ofWA G M_X6_paint [.ref e, .ref t, .ref a, .int (mI (x + 128)), .int (mI (y + 128)), mu_no, mu_no, mu_no] (by decide) rfl (Nat.le_of_ble_eq_true rfl) ?_
  intro X E
  have B : mu_B X G cX6_paint RX6 8 (mu_rm M_X6_paint) := E.1
  have K93 : ∀ (k : Nat) (s : mu_W), NLs s e t n tp k s → mu_Fi (pnS e a) w s → CFb s a (tl_c (tb n tp) x y c k) → ¬ isL (tq (tb n tp) k).2.2.1 → mu_WA X G 8 (mu_Q X G M_X6_paint (pnt_post w e a (tb n tp) x y c K)) s 0 0 93 [.ref e, .ref t, .ref a, .int (mI (x + 128)), .int (mI (y + 128)), .int (mI (tl_n (tb n tp) k : Nat)), .int (mI (tq (tb n tp) k).2.2.1), .int (mI k)] [] := by
    intro k s hN hFs hbs hnl
    have hKk := hN.eq hK hnl
    subst hKk
    have hos := ho.fi hFs
    refine mu_al_2 B dX6_paint_93 ?_
    refine mu_iconst (v := mI 0) B dX6_paint_94 rfl ?_
    refine mu_sipush (v := mI 255) B dX6_paint_95 (by decide) ?_
    refine mu_cV2 B dX6_paint_98 mX6_66 ⟨⟨by decide, by decide⟩, by decide, by decide⟩ (Nat.le_of_ble_eq_true rfl) hos.1 (c_X1_measure G hos hbs (p := 0) (q := 255) (by decide) (by decide) (fun i j h1 h2 h3 => by omega)) (fun r98 w98 q98 => ?_)
    obtain ⟨rfl, hF3, L2, R2, U2, D2, M2, hx2, hm2⟩ := q98
    refine mu_il_5 B dX6_paint_101 ?_
    refine mu_iret E rfl (by decide) (by decide) dX6_paint_103 ?_
    exact ⟨rfl, hFs.trans (hF3.mono (fun q j hh => hh.elim (fun h9 => Or.inr (Or.inl h9)) (fun h9 => Or.inr (Or.inr (Or.inr h9))))), hbs.fi hF3 (fun j hh => by rcases hh with hh | hh <;> omega), L2, R2, U2, D2, M2, hx2, hm2⟩
  have LP : ∀ k (s : mu_W), k ≤ (2000 : Nat) → (NLs s e t n tp k s ∧ mu_Fi (pnS e a) w s ∧ CLr s e (tb n tp) x y k ∧ CFb s a (tl_c (tb n tp) x y c k)) → mu_WA X G 8 (mu_Q X G M_X6_paint (pnt_post w e a (tb n tp) x y c K)) s 0 0 28 [.ref e, .ref t, .ref a, .int (mI (x + 128)), .int (mI (y + 128)), .int (mI (tl_n (tb n tp) k : Nat)), .int (mI (tq (tb n tp) k).2.2.1), .int (mI k)] [] := by
    refine mu_ind ((2000 : Nat)) (fun k (s : mu_W) => mu_WA X G 8 (mu_Q X G M_X6_paint (pnt_post w e a (tb n tp) x y c K)) s 0 0 28 [.ref e, .ref t, .ref a, .int (mI (x + 128)), .int (mI (y + 128)), .int (mI (tl_n (tb n tp) k : Nat)), .int (mI (tq (tb n tp) k).2.2.1), .int (mI k)] []) (fun k (s : mu_W) => NLs s e t n tp k s ∧ mu_Fi (pnS e a) w s ∧ CLr s e (tb n tp) x y k ∧ CFb s a (tl_c (tb n tp) x y c k)) ?_
    intro k s hk ⟨hN, hFs, hC, hbs⟩ ih
    have hos := ho.fi hFs
    obtain ⟨p9, g1, g2, g3, g4⟩ := id hN
    have kes := g1.1
    have hbq := tq_bd (tb n tp) k
    refine mu_il_7 B dX6_paint_28 ?_
    refine mu_sipush (v := mI 2000) B dX6_paint_30 (by decide) ?_
    refine mu_icmp_ge (tgt := 93) B dX6_paint_33 (by decide) (fun c33 => ?_) (fun c33 => ?_)
    · try rw [mI_le ⟨by omega, by omega⟩ ⟨by omega, by omega⟩] at c33
      try rw [mI_le ⟨by omega, by omega⟩ ⟨by omega, by omega⟩] at c33
      exact K93 k s hN hFs hbs (hN.end (by omega))
    · try rw [mI_le ⟨by omega, by omega⟩ ⟨by omega, by omega⟩] at c33
      refine mu_il_6 B dX6_paint_36 ?_
      refine mu_eS1 B dX6_paint_38 mX6_18 ⟨⟨by decide, by decide⟩, by decide, by decide⟩ (Nat.le_of_ble_eq_true rfl) (c_X6_goesOn G (z := (tq (tb n tp) k).2.2.1) ⟨by omega, by omega⟩) ?_
      refine mu_if_eq (tgt := 93) B dX6_paint_41 (by decide) (fun c41 => ?_) (fun c41 => ?_)
      · have z41 := mu_bf c41
        exact K93 k s hN hFs hbs (fun q => z41 (tq_go.mpr q))
      · have z41 := mu_bt c41
        have hL := tq_go.mp z41
        obtain ⟨e1, e2, e3, e4, e5, e6⟩ := g2 (isL_ne hL).1
        have hkK := hN.lt hK hL
        have hbt := tl_bd hx hy (fun k hk => hcn k hk) k (Nat.le_of_lt hkK) (fun j hj => hF j (by omega))
        have K73 : ∀ (s1 : mu_W) (pn : Nat), pn = tl_n (tb n tp) (k + 1) → NLs s1 e t n tp k s1 → mu_Fi (pnS e a) w s1 → CLr s1 e (tb n tp) x y k → CFb s1 a (tl_c (tb n tp) x y c (k + 1)) → mu_WA X G 8 (mu_Q X G M_X6_paint (pnt_post w e a (tb n tp) x y c K)) s1 0 0 73 [.ref e, .ref t, .ref a, .int (mI (x + 128)), .int (mI (y + 128)), .int (mI (pn : Nat)), .int (mI (tq (tb n tp) k).2.2.1), .int (mI k)] [] := by
          intro s1 pn hpn hN1 hF1 hC1 hb1
          obtain ⟨p8, j1, j2, j3, j4⟩ := id hN1
          have kes1 := j1.1
          obtain ⟨d1, d2, d3, d4⟩ := j2 (isL_ne hL).1
          refine mu_al_0 B dX6_paint_73 ?_
          refine mu_il_6 B dX6_paint_74 ?_
          refine mu_il_3 B dX6_paint_76 ?_
          refine mu_cV2 B dX6_paint_77 mX6_56 ⟨⟨by decide, by decide⟩, by decide, by decide⟩ (Nat.le_of_ble_eq_true rfl) kes1 (c_X6_moveBehind G kes1 (X := x + 128) (z := (tq (tb n tp) k).2.2.1) ⟨by omega, by omega⟩ d2 hC1.1 hC1.2) (fun r77 w77 q77 => ?_)
          obtain ⟨rfl, rfl⟩ := q77
          have hC2 := hC1.step
          have hN2 := (hN1.step (p := (tq (tb n tp) k).2.2.1 = 36) (x1 := mI ((tl_p (tb n tp) x y k).2 + 128 + ((tq (tb n tp) k).2.2.2 : Nat))) (x2 := mI (x + 128)) (x3 := mI ((tl_p (tb n tp) x y k).1 + 128 + ((tq (tb n tp) k).2.2.2 : Nat))))
          have hFm : mu_Fi (rt_S e) s1 (if (tq (tb n tp) k).2.2.1 = 36 then mu_si (mu_si s1 e 4 (mI ((tl_p (tb n tp) x y k).2 + 128 + ((tq (tb n tp) k).2.2.2 : Nat)))) e 3 (mI (x + 128)) else mu_si s1 e 3 (mI ((tl_p (tb n tp) x y k).1 + 128 + ((tq (tb n tp) k).2.2.2 : Nat)))) := by
            obtain ⟨_, a1, _⟩ := hN2
            exact a1.2.2.2.2
          generalize hS2 : (if (tq (tb n tp) k).2.2.1 = 36 then mu_si (mu_si s1 e 4 (mI ((tl_p (tb n tp) x y k).2 + 128 + ((tq (tb n tp) k).2.2.2 : Nat)))) e 3 (mI (x + 128)) else mu_si s1 e 3 (mI ((tl_p (tb n tp) x y k).1 + 128 + ((tq (tb n tp) k).2.2.2 : Nat)))) = s2 at hC2 hN2 hFm ⊢
          have hN3 := hN2.re
          have kes2 : mu_kd s2 e = some (6, 0) := by obtain ⟨_, a1, _⟩ := hN2; exact a1.1
          show mu_WA X G 8 _ s2 0 0 80 _ []
          refine mu_al_0 B dX6_paint_80 ?_
          refine mu_al_1 B dX6_paint_81 ?_
          refine mu_cV1 B dX6_paint_82 mX6_12 ⟨⟨by decide, by decide⟩, by decide, by decide⟩ (Nat.le_of_ble_eq_true rfl) kes2 (c_X6_next G hN3 hL) (fun r82 w82 q82 => ?_)
          obtain ⟨rfl, hiv9, hN9⟩ := q82
          refine mu_is_6 B dX6_paint_85 (by decide) rfl ?_
          refine mu_inc_7 (c := mI 1) B dX6_paint_87 rfl (by decide) rfl ?_
          try rw [mI_add]
          refine mu_goto (tgt := 28) B dX6_paint_90 (by decide) ?_
          refine mu_to (ih _ (by omega) ⟨hN9.re, ?_, ⟨(hiv9 3 (by decide)).trans hC2.1, (hiv9 4 (by decide)).trans hC2.2⟩, ?_⟩) rfl (by rw [hpn, show ((k + 1 : Nat) : Int) = (k : Int) + 1 by omega])
          · obtain ⟨_, a1, _⟩ := hN9
            exact hF1.trans ((rt_pn hFm).trans (rt_pn a1.2.2.2.2))
          · obtain ⟨_, a1, _⟩ := hN9
            exact (hb1.fi hFm (fun j hh => nea hh.1)).fi a1.2.2.2.2 (fun j hh => nea hh.1)
        have K67 : ∀ v : Nat, (tq (tb n tp) k).2.2.1 ≠ 36 → v = tl_v (tb n tp) k → mu_WA X G 8 (mu_Q X G M_X6_paint (pnt_post w e a (tb n tp) x y c K)) s 0 0 67 [.ref e, .ref t, .ref a, .int (mI (x + 128)), .int (mI (y + 128)), .int (mI (tl_n (tb n tp) k : Nat)), .int (mI (tq (tb n tp) k).2.2.1), .int (mI k)] [.int (mI (v : Int)), .ref a, .ref e, .int (mI ((tl_n (tb n tp) k : Nat) : Int))] := by
          intro v h36 hv
          have hfit := hF k hkK h36
          have hvl := tl_v_le (tb n tp) k
          refine mu_cV2 B dX6_paint_67 mX6_62 ⟨⟨by decide, by decide⟩, by decide, by decide⟩ (Nat.le_of_ble_eq_true rfl) kes (c_X6_paintRun G hos hbs kes (v := v) (T := (tq (tb n tp) k).2.2.2) (C := ((tl_p (tb n tp) x y k).1 + 128).toNat) (Y := ((tl_p (tb n tp) x y k).2 + 128).toNat) e2 (hC.1.trans (by congr 1; omega)) (hC.2.trans (by congr 1; omega)) (by omega) (by omega) (by omega)) (fun r67 w67 q67 => ?_)
          obtain ⟨rfl, hF1, hb1⟩ := q67
          show mu_WA X G 8 _ w67 0 0 70 _ [.int (mI ((v * (tq (tb n tp) k).2.2.2 : Nat) : Int)), .int (mI ((tl_n (tb n tp) k : Nat) : Int))]
          refine mu_iadd B dX6_paint_70 ?_
          try rw [mI_add]
          refine mu_is_5 B dX6_paint_71 (by decide) rfl ?_
          have hbn : sp_pn (tl_c (tb n tp) x y c k) v ((tl_p (tb n tp) x y k).1 + 128).toNat ((tl_p (tb n tp) x y k).2 + 128).toNat (tq (tb n tp) k).2.2.2 = (tl_c (tb n tp) x y c (k + 1)) := by rw [tl_c, if_neg h36, hv]
          rw [hbn] at hb1
          have hnn : tl_n (tb n tp) (k + 1) = tl_n (tb n tp) k + v * (tq (tb n tp) k).2.2.2 := by
            rw [tl_n, hv]
            unfold tl_v
            by_cases q : (tq (tb n tp) k).2.2.1 = 111
            · rw [if_pos q, if_pos q, Nat.one_mul]
            · rw [if_neg q, if_neg q, Nat.zero_mul]
          exact mu_to (K73 _ _ hnn.symm (hN.fi hF1 nea (nta (0, 0) ho.2.2.1) (nta1 (0, 0) ho.2.2.1)) (hFs.trans (hF1.mono (fun q j hh => Or.inr (Or.inr (Or.inl hh))))) (hC.fi hF1 (fun q => nea q.symm) (fun q => nea q.symm)) hb1) rfl (by rw [Int.natCast_add])
        refine mu_il_6 B dX6_paint_44 ?_
        refine mu_bipush (v := mI 36) B dX6_paint_46 (by decide) ?_
        refine mu_icmp_eq (tgt := 73) B dX6_paint_48 (by decide) (fun c48 => ?_) (fun c48 => ?_)
        · try rw [mI_eq ⟨by omega, by omega⟩ ⟨by omega, by omega⟩] at c48
          try rw [mI_eq ⟨by omega, by omega⟩ ⟨by omega, by omega⟩] at c48
          refine K73 s _ ?_ hN hFs hC ?_
          · rw [tl_n, if_neg (by omega)]; rfl
          · rw [tl_c, if_pos c48]; exact hbs
        · try rw [mI_eq ⟨by omega, by omega⟩ ⟨by omega, by omega⟩] at c48
          refine mu_il_5 B dX6_paint_51 ?_
          refine mu_al_0 B dX6_paint_53 ?_
          refine mu_al_2 B dX6_paint_54 ?_
          refine mu_il_6 B dX6_paint_55 ?_
          refine mu_bipush (v := mI 111) B dX6_paint_57 (by decide) ?_
          refine mu_icmp_ne (tgt := 66) B dX6_paint_59 (by decide) (fun c59 => ?_) (fun c59 => ?_)
          · try rw [mI_eq ⟨by omega, by omega⟩ ⟨by omega, by omega⟩] at c59
            refine mu_iconst (v := mI 0) B dX6_paint_66 rfl ?_
            first
              | exact K67 1 (by omega) (by unfold tl_v; rw [if_pos (by omega)])
              | exact K67 0 (by omega) (by unfold tl_v; rw [if_neg (by omega)])
          · try rw [mI_eq ⟨by omega, by omega⟩ ⟨by omega, by omega⟩] at c59
            refine mu_iconst (v := mI 1) B dX6_paint_62 rfl ?_
            refine mu_goto (tgt := 67) B dX6_paint_63 (by decide) ?_
            first
              | exact K67 1 (by omega) (by unfold tl_v; rw [if_pos (by omega)])
              | exact K67 0 (by omega) (by unfold tl_v; rw [if_neg (by omega)])
  show mu_WA X G 8 _ _ 0 0 0 _ []
  refine mu_al_0 B dX6_paint_0 ?_
  refine mu_cV0 B dX6_paint_1 mX6_7 ⟨⟨by decide, by decide⟩, by decide, by decide⟩ (Nat.le_of_ble_eq_true rfl) (by assumption) (c_X6_restart G hke) (fun r1 w1 q1 => ?_)
  obtain ⟨rfl, rfl⟩ := q1
  have h0 := CRr.start hke ht
  have ke0 := h0.1
  refine mu_al_0 B dX6_paint_4 ?_
  refine mu_il_3 B dX6_paint_5 ?_
  refine mu_putI B dX6_paint_6 fX6_50 fwX6_3 rfl (by assumption) ?_
  refine mu_al_0 B dX6_paint_9 ?_
  refine mu_il_4 B dX6_paint_10 ?_
  refine mu_putI B dX6_paint_12 fX6_53 fwX6_4 rfl (by assumption) ?_
  refine mu_iconst (v := mI 0) B dX6_paint_15 rfl ?_
  refine mu_is_5 B dX6_paint_16 (by decide) rfl ?_
  refine mu_al_0 B dX6_paint_18 ?_
  refine mu_al_1 B dX6_paint_19 ?_
  refine mu_cV1 B dX6_paint_20 mX6_12 ⟨⟨by decide, by decide⟩, by decide, by decide⟩ (Nat.le_of_ble_eq_true rfl) (by assumption) (c_X6_first G ((h0.si (k := 3) (x := mI (x + 128)) ⟨by decide, by decide⟩).si (k := 4) (x := mI (y + 128)) ⟨by decide, by decide⟩) (by rw [mu_iv_oth _ _ (by omega), mu_iv_oth _ _ (by omega), mu_iv_same])) (fun r20 w20 q20 => ?_)
  obtain ⟨rfl, hiv9, hN9⟩ := q20
  refine mu_is_6 B dX6_paint_23 (by decide) rfl ?_
  refine mu_iconst (v := mI 0) B dX6_paint_25 rfl ?_
  refine mu_is_7 B dX6_paint_26 (by decide) rfl ?_
  obtain ⟨_, a1, _⟩ := id hN9
  refine LP 0 w20 (Nat.zero_le _) ⟨hN9.re, rt_pn a1.2.2.2.2, ⟨(hiv9 3 (by decide)).trans ?_, (hiv9 4 (by decide)).trans ?_⟩, hb.fi a1.2.2.2.2 (fun j hh => nea hh.1)⟩
  · rw [mu_iv_oth _ _ (by omega), mu_iv_same]; rfl
  · rw [mu_iv_same]; rfl
