/-! ===== the class reads runs: does it fit; its cells ===== -/
theorem cu_pn (c : Nat → Nat → Nat) (v X Y k : Nat) : cu (sp_pn c v X Y k) (X + k) Y v = sp_pn c v X Y (k + 1) := by
  funext i j
  unfold cu sp_pn
  by_cases e : i = X + k ∧ j = Y
  · rw [if_pos e, if_pos (by omega)]
  · rw [if_neg e]
    by_cases e2 : j = Y ∧ X ≤ i ∧ i < X + k
    · rw [if_pos e2, if_pos (by omega)]
    · rw [if_neg e2, if_neg (by omega)]
def fit_post (w : mu_W) (e : Nat) (b : Nat → Int) (x y : Int) (K : Nat) (r : Option Value) (w' : mu_W) : Prop := mu_Fi (rt_S e) w w' ∧ (tl_F b x y K → r = some (.int (mI 1))) ∧ (¬ tl_F b x y K → r = some (.int (mI 0)))
/-- column and row behind k letters -/
def CLr (s : mu_W) (e : Nat) (b : Nat → Int) (x y : Int) (k : Nat) : Prop := mu_iv s e 3 = mI ((tl_p b x y k).1 + 128) ∧ mu_iv s e 4 = mI ((tl_p b x y k).2 + 128)
theorem NLs.lt {w0 : mu_W} {e t n : Nat} {tp : Nat → Nat} {k K : Nat} {s : mu_W} (h : NLs w0 e t n tp k s) (hK : RT (tb n tp) K) (hL : isL (tq (tb n tp) k).2.2.1) : k < K := by
  obtain ⟨p', h1, h2, h3, h4⟩ := h
  by_cases q : k < K
  · exact q
  · exfalso
    by_cases q2 : K = k
    · rw [q2] at hK; exact hK.2 hL
    · exact hK.2 (h4 K (by omega)).1
theorem NLs.eq {w0 : mu_W} {e t n : Nat} {tp : Nat → Nat} {k K : Nat} {s : mu_W} (h : NLs w0 e t n tp k s) (hK : RT (tb n tp) K) (hL : ¬ isL (tq (tb n tp) k).2.2.1) : K = k := by
  obtain ⟨p', h1, h2, h3, h4⟩ := h
  exact hK.uniq ⟨fun j hj => (h4 j hj).1, hL⟩
theorem NLs.re {w0 : mu_W} {e t n : Nat} {tp : Nat → Nat} {k : Nat} {s : mu_W} (h : NLs w0 e t n tp k s) : NLs s e t n tp k s := by
  obtain ⟨p', h1, h2⟩ := h
  exact ⟨p', h1.re, h2⟩
theorem NLs.fi {w0 : mu_W} {e t n : Nat} {tp : Nat → Nat} {k : Nat} {s s' : mu_W} (h : NLs w0 e t n tp k s) {a : Nat} (hF : mu_Fi (fun q _ => q = a) s s') (h1 : a ≠ e) (h2 : a ≠ t) (h3 : a ≠ t + 1) : NLs s' e t n tp k s' := by
  obtain ⟨p', g1, g2, g3, g4⟩ := h
  refine ⟨p', ⟨hF.kd g1.1, g1.2.1.fi hF (fun q => h2 q.symm) (fun j q => h3 q.symm), hF.iv (fun q => h1 q.symm) g1.2.2.1, g1.2.2.2.1, mu_Fi.refl _⟩, fun q => ?_, fun q => hF.iv (fun q => h1 q.symm) (g3 q), g4⟩
  obtain ⟨a1, a2, a3, a4⟩ := g2 q
  exact ⟨a1, hF.iv (fun q => h1 q.symm) a2, hF.iv (fun q => h1 q.symm) a3, a4⟩
theorem tl_F_succ {b : Nat → Int} {x y : Int} {k : Nat} (h : tl_F b x y k) (h1 : (tq b k).2.2.1 ≠ 36 → (tl_p b x y k).1 + ((tq b k).2.2.2 : Int) ≤ 128 ∧ (tl_p b x y k).2 ≤ 127) : tl_F b x y (k + 1) := fun j hj => by
  by_cases q : j = k
  · rw [q]; exact h1
  · exact h j (by omega)

set_option maxHeartbeats 4000000 in
set_option maxRecDepth 100000 in
theorem c_X6_moveBehind (G : mu_G) {w : mu_W} {e : Nat} {kk : Nat} (hke : mu_kd w e = some (6, kk)) {z X C Rr : Int} {T : Nat} (hz : mi_ok z) (h1 : mu_iv w e 1 = mI T) (h3 : mu_iv w e 3 = mI C) (h4 : mu_iv w e 4 = mI Rr) : mu_Ct G M_X6_moveBehind [.ref e, .int (mI z), .int (mI X)] w (fun r w' => r = none ∧ w' = if z = 36 then mu_si (mu_si w e 4 (mI (Rr + T))) e 3 (mI X) else mu_si w e 3 (mI (C + T))) := by
  obtain ⟨hz1, hz2⟩ := hz
  refine mu_ofWA G M_X6_moveBehind [.ref e, .int (mI z), .int (mI X)] (by decide) rfl (Nat.le_of_ble_eq_true rfl) ?_
  intro X E
  have B : mu_B X G cX6_moveBehind RX6 3 (mu_rm M_X6_moveBehind) := E.1
  show mu_WA X G 3 _ _ 0 0 0 _ []
  refine mu_il_1 B dX6_moveBehind_0 ?_
  refine mu_bipush (v := mI 36) B dX6_moveBehind_1 (by decide) ?_
  refine mu_icmp_ne (tgt := 27) B dX6_moveBehind_3 (by decide) (fun c3 => ?_) (fun c3 => ?_)
  · try rw [mI_eq ⟨by omega, by omega⟩ ⟨by omega, by omega⟩] at c3
    refine mu_al_0 B dX6_moveBehind_27 ?_
    refine mu_dup B dX6_moveBehind_28 rfl ?_
    refine mu_getI B dX6_moveBehind_29 fX6_50 rfl (by assumption) ?_
    rw [h3]
    refine mu_al_0 B dX6_moveBehind_32 ?_
    refine mu_getI B dX6_moveBehind_33 fX6_47 rfl (by assumption) ?_
    rw [h1]
    refine mu_iadd B dX6_moveBehind_36 ?_
    try rw [mI_add]
    refine mu_putI B dX6_moveBehind_37 fX6_50 fwX6_3 rfl (by assumption) ?_
    refine mu_vret E rfl (by decide) (by decide) dX6_moveBehind_40 ?_
    first
      | exact ⟨rfl, by rw [if_pos (by omega)]⟩
      | exact ⟨rfl, by rw [if_neg (by omega)]⟩
  · try rw [mI_eq ⟨by omega, by omega⟩ ⟨by omega, by omega⟩] at c3
    refine mu_al_0 B dX6_moveBehind_6 ?_
    refine mu_dup B dX6_moveBehind_7 rfl ?_
    refine mu_getI B dX6_moveBehind_8 fX6_53 rfl (by assumption) ?_
    rw [h4]
    refine mu_al_0 B dX6_moveBehind_11 ?_
    refine mu_getI B dX6_moveBehind_12 fX6_47 rfl (by assumption) ?_
    rw [h1]
    refine mu_iadd B dX6_moveBehind_15 ?_
    try rw [mI_add]
    refine mu_putI B dX6_moveBehind_16 fX6_53 fwX6_4 rfl (by assumption) ?_
    refine mu_al_0 B dX6_moveBehind_19 ?_
    refine mu_il_2 B dX6_moveBehind_20 ?_
    refine mu_putI B dX6_moveBehind_21 fX6_50 fwX6_3 rfl (by assumption) ?_
    refine mu_goto (tgt := 40) B dX6_moveBehind_24 (by decide) ?_
    refine mu_vret E rfl (by decide) (by decide) dX6_moveBehind_40 ?_
    first
      | exact ⟨rfl, by rw [if_pos (by omega)]⟩
      | exact ⟨rfl, by rw [if_neg (by omega)]⟩

theorem CLr.step {s : mu_W} {e : Nat} {b : Nat → Int} {x y : Int} {k : Nat} (h : CLr s e b x y k) : CLr (if (tq b k).2.2.1 = 36 then mu_si (mu_si s e 4 (mI ((tl_p b x y k).2 + 128 + ((tq b k).2.2.2 : Nat)))) e 3 (mI (x + 128)) else mu_si s e 3 (mI ((tl_p b x y k).1 + 128 + ((tq b k).2.2.2 : Nat)))) e b x y (k + 1) := by
  unfold CLr
  rw [tl_p]
  by_cases q : (tq b k).2.2.1 = 36
  · rw [if_pos q, if_pos q]
    refine ⟨mu_iv_same _ _ _ _, ?_⟩
    rw [mu_iv_oth _ _ (by omega), mu_iv_same, Int.add_right_comm]
  · rw [if_neg q, if_neg q]
    refine ⟨?_, ?_⟩
    · rw [mu_iv_same, Int.add_right_comm]
    · rw [mu_iv_oth _ _ (by omega)]; exact h.2
theorem NLs.step {w0 : mu_W} {e t n : Nat} {tp : Nat → Nat} {k : Nat} {s : mu_W} (h : NLs w0 e t n tp k s) {p : Prop} [Decidable p] {x1 x2 x3 : Int32} : NLs w0 e t n tp k (if p then mu_si (mu_si s e 4 x1) e 3 x2 else mu_si s e 3 x3) := by
  by_cases q : p
  · rw [if_pos q]; exact (h.si ⟨by decide, by decide⟩).si ⟨by decide, by decide⟩
  · rw [if_neg q]; exact h.si ⟨by decide, by decide⟩

set_option maxHeartbeats 4000000 in
set_option maxRecDepth 100000 in
theorem c_X6_fits (G : mu_G) {w : mu_W} {t n : Nat} {tp : Nat → Nat} (ht : CT w t n tp) {e : Nat} (hke : mu_kd w e = some (6, 0)) {x y : Int} (hx : -128 ≤ x ∧ x < 128) (hy : -128 ≤ y ∧ y < 128) {K : Nat} (hK : RT (tb n tp) K) (hcn : ∀ k, k < K → (tq (tb n tp) k).2.2.2 < 1000) : mu_Ct G M_X6_fits [.ref e, .ref t, .int (mI (x + 128)), .int (mI (y + 128))] w (fit_post w e (tb n tp) x y K) := by
  refine mu_ofWA G M_X6_fits [.ref e, .ref t, .int (mI (x + 128)), .int (mI (y + 128)), mu_no, mu_no] (by decide) rfl (Nat.le_of_ble_eq_true rfl) ?_
  intro X E
  have B : mu_B X G cX6_fits RX6 6 (mu_rm M_X6_fits) := E.1
  have K89 : ∀ (k : Nat) (s : mu_W), NLs w e t n tp k s → tl_F (tb n tp) x y k → ¬ isL (tq (tb n tp) k).2.2.1 → mu_WA X G 6 (mu_Q X G M_X6_fits (fit_post w e (tb n tp) x y K)) s 0 0 89 [.ref e, .ref t, .int (mI (x + 128)), .int (mI (y + 128)), .int (mI (tq (tb n tp) k).2.2.1), .int (mI k)] [] := by
    intro k s hN hF hnl
    have hKk := hN.eq hK hnl
    obtain ⟨p9, g1, g2, g3, g4⟩ := id hN
    refine mu_iconst (v := mI 1) B dX6_fits_89 rfl ?_
    refine mu_zret E rfl (by decide) (by decide) dX6_fits_90 (by decide) ?_
    exact ⟨g1.2.2.2.2, fun _ => rfl, fun q => absurd (hKk ▸ hF) q⟩
  have LF : ∀ k (s : mu_W), k ≤ (2000 : Nat) → (NLs w e t n tp k s ∧ CLr s e (tb n tp) x y k ∧ tl_F (tb n tp) x y k) → mu_WA X G 6 (mu_Q X G M_X6_fits (fit_post w e (tb n tp) x y K)) s 0 0 24 [.ref e, .ref t, .int (mI (x + 128)), .int (mI (y + 128)), .int (mI (tq (tb n tp) k).2.2.1), .int (mI k)] [] := by
    refine mu_ind ((2000 : Nat)) (fun k (s : mu_W) => mu_WA X G 6 (mu_Q X G M_X6_fits (fit_post w e (tb n tp) x y K)) s 0 0 24 [.ref e, .ref t, .int (mI (x + 128)), .int (mI (y + 128)), .int (mI (tq (tb n tp) k).2.2.1), .int (mI k)] []) (fun k (s : mu_W) => NLs w e t n tp k s ∧ CLr s e (tb n tp) x y k ∧ tl_F (tb n tp) x y k) ?_
    intro k s hk ⟨hN, hC, hF⟩ ih
    obtain ⟨p9, g1, g2, g3, g4⟩ := id hN
    have kes := g1.1
    have hbq := tq_bd (tb n tp) k
    refine mu_il_5 B dX6_fits_24 ?_
    refine mu_sipush (v := mI 2000) B dX6_fits_26 (by decide) ?_
    refine mu_icmp_ge (tgt := 89) B dX6_fits_29 (by decide) (fun c29 => ?_) (fun c29 => ?_)
    · try rw [mI_le ⟨by omega, by omega⟩ ⟨by omega, by omega⟩] at c29
      try rw [mI_le ⟨by omega, by omega⟩ ⟨by omega, by omega⟩] at c29
      exact K89 k s hN hF (hN.end (by omega))
    · try rw [mI_le ⟨by omega, by omega⟩ ⟨by omega, by omega⟩] at c29
      refine mu_il_4 B dX6_fits_32 ?_
      refine mu_eS1 B dX6_fits_34 mX6_18 ⟨⟨by decide, by decide⟩, by decide, by decide⟩ (Nat.le_of_ble_eq_true rfl) (c_X6_goesOn G (z := (tq (tb n tp) k).2.2.1) ⟨by omega, by omega⟩) ?_
      refine mu_if_eq (tgt := 89) B dX6_fits_37 (by decide) (fun c37 => ?_) (fun c37 => ?_)
      · have z37 := mu_bf c37
        exact K89 k s hN hF (fun q => z37 (tq_go.mpr q))
      · have z37 := mu_bt c37
        have hL := tq_go.mp z37
        obtain ⟨e1, e2, e3, e4, e5, e6⟩ := g2 (isL_ne hL).1
        have hbt := tl_bd hx hy (fun k hk => hcn k hk) k (Nat.le_of_lt (hN.lt hK hL)) hF
        refine mu_al_0 B dX6_fits_40 ?_
        refine mu_il_4 B dX6_fits_41 ?_
        refine mu_il_2 B dX6_fits_43 ?_
        refine mu_cV2 B dX6_fits_44 mX6_56 ⟨⟨by decide, by decide⟩, by decide, by decide⟩ (Nat.le_of_ble_eq_true rfl) kes (c_X6_moveBehind G kes (X := x + 128) (z := (tq (tb n tp) k).2.2.1) ⟨by omega, by omega⟩ e2 hC.1 hC.2) (fun r44 w44 q44 => ?_)
        obtain ⟨rfl, rfl⟩ := q44
        have hC2 := hC.step
        have hN2 := hN.step (p := (tq (tb n tp) k).2.2.1 = 36) (x1 := mI ((tl_p (tb n tp) x y k).2 + 128 + ((tq (tb n tp) k).2.2.2 : Nat))) (x2 := mI (x + 128)) (x3 := mI ((tl_p (tb n tp) x y k).1 + 128 + ((tq (tb n tp) k).2.2.2 : Nat)))
        generalize hS2 : (if (tq (tb n tp) k).2.2.1 = 36 then mu_si (mu_si s e 4 (mI ((tl_p (tb n tp) x y k).2 + 128 + ((tq (tb n tp) k).2.2.2 : Nat)))) e 3 (mI (x + 128)) else mu_si s e 3 (mI ((tl_p (tb n tp) x y k).1 + 128 + ((tq (tb n tp) k).2.2.2 : Nat)))) = s2 at hC2 hN2 ⊢
        have kes2 : mu_kd s2 e = some (6, 0) := by obtain ⟨_, a1, _⟩ := hN2; exact a1.1
        show mu_WA X G 6 _ s2 0 0 47 _ []
        refine mu_il_4 B dX6_fits_47 ?_
        refine mu_bipush (v := mI 36) B dX6_fits_49 (by decide) ?_
        refine mu_icmp_eq (tgt := 76) B dX6_fits_51 (by decide) (fun c51 => ?_) (fun c51 => ?_)
        · try rw [mI_eq ⟨by omega, by omega⟩ ⟨by omega, by omega⟩] at c51
          refine mu_al_0 B dX6_fits_76 ?_
          refine mu_al_1 B dX6_fits_77 ?_
          refine mu_cV1 B dX6_fits_78 mX6_12 ⟨⟨by decide, by decide⟩, by decide, by decide⟩ (Nat.le_of_ble_eq_true rfl) kes2 (c_X6_next G hN2 hL) (fun r78 w78 q78 => ?_)
          obtain ⟨rfl, hiv9, hN9⟩ := q78
          refine mu_is_4 B dX6_fits_81 (by decide) rfl ?_
          refine mu_inc_5 (c := mI 1) B dX6_fits_83 rfl (by decide) rfl ?_
          try rw [mI_add]
          refine mu_goto (tgt := 24) B dX6_fits_86 (by decide) ?_
          refine mu_to (ih _ (by omega) ⟨hN9, ⟨(hiv9 3 (by decide)).trans hC2.1, (hiv9 4 (by decide)).trans hC2.2⟩, tl_F_succ hF (fun q => ?_)⟩) rfl (by rw [show ((k + 1 : Nat) : Int) = (k : Int) + 1 by omega])
          first
            | exact absurd (by omega) q
            | omega
        · try rw [mI_eq ⟨by omega, by omega⟩ ⟨by omega, by omega⟩] at c51
          have hp1 : (tl_p (tb n tp) x y (k + 1)).1 = (tl_p (tb n tp) x y k).1 + ((tq (tb n tp) k).2.2.2 : Int) ∧ (tl_p (tb n tp) x y (k + 1)).2 = (tl_p (tb n tp) x y k).2 := by rw [tl_p, if_neg (by omega)]; exact ⟨rfl, rfl⟩
          refine mu_al_0 B dX6_fits_54 ?_
          refine mu_getI B dX6_fits_55 fX6_53 rfl (by assumption) ?_
          rw [hC2.2, hp1.2]
          refine mu_sipush (v := mI 256) B dX6_fits_58 (by decide) ?_
          refine mu_icmp_ge (tgt := 74) B dX6_fits_61 (by decide) (fun c61 => ?_) (fun c61 => ?_)
          · try rw [mI_le ⟨by omega, by omega⟩ ⟨by omega, by omega⟩] at c61
            refine mu_iconst (v := mI 0) B dX6_fits_74 rfl ?_
            refine mu_zret E rfl (by decide) (by decide) dX6_fits_75 (by decide) ?_
            obtain ⟨_, a1, _⟩ := hN2
            refine ⟨a1.2.2.2.2, fun q => ?_, fun _ => rfl⟩
            exfalso
            have := q k (hN.lt hK hL) (by omega)
            omega
          · try rw [mI_le ⟨by omega, by omega⟩ ⟨by omega, by omega⟩] at c61
            refine mu_al_0 B dX6_fits_64 ?_
            refine mu_getI B dX6_fits_65 fX6_50 rfl (by assumption) ?_
            rw [hC2.1, hp1.1]
            refine mu_sipush (v := mI 256) B dX6_fits_68 (by decide) ?_
            refine mu_icmp_le (tgt := 76) B dX6_fits_71 (by decide) (fun c71 => ?_) (fun c71 => ?_)
            · try rw [mI_le ⟨by omega, by omega⟩ ⟨by omega, by omega⟩] at c71
              refine mu_al_0 B dX6_fits_76 ?_
              refine mu_al_1 B dX6_fits_77 ?_
              refine mu_cV1 B dX6_fits_78 mX6_12 ⟨⟨by decide, by decide⟩, by decide, by decide⟩ (Nat.le_of_ble_eq_true rfl) kes2 (c_X6_next G hN2 hL) (fun r78 w78 q78 => ?_)
              obtain ⟨rfl, hiv9, hN9⟩ := q78
              refine mu_is_4 B dX6_fits_81 (by decide) rfl ?_
              refine mu_inc_5 (c := mI 1) B dX6_fits_83 rfl (by decide) rfl ?_
              try rw [mI_add]
              refine mu_goto (tgt := 24) B dX6_fits_86 (by decide) ?_
              refine mu_to (ih _ (by omega) ⟨hN9, ⟨(hiv9 3 (by decide)).trans hC2.1, (hiv9 4 (by decide)).trans hC2.2⟩, tl_F_succ hF (fun q => ?_)⟩) rfl (by rw [show ((k + 1 : Nat) : Int) = (k : Int) + 1 by omega])
              first
                | exact absurd (by omega) q
                | omega
            · try rw [mI_le ⟨by omega, by omega⟩ ⟨by omega, by omega⟩] at c71
              refine mu_iconst (v := mI 0) B dX6_fits_74 rfl ?_
              refine mu_zret E rfl (by decide) (by decide) dX6_fits_75 (by decide) ?_
              obtain ⟨_, a1, _⟩ := hN2
              refine ⟨a1.2.2.2.2, fun q => ?_, fun _ => rfl⟩
              exfalso
              have := q k (hN.lt hK hL) (by omega)
              omega
  show mu_WA X G 6 _ _ 0 0 0 _ []
  refine mu_al_0 B dX6_fits_0 ?_
  refine mu_cV0 B dX6_fits_1 mX6_7 ⟨⟨by decide, by decide⟩, by decide, by decide⟩ (Nat.le_of_ble_eq_true rfl) (by assumption) (c_X6_restart G hke) (fun r1 w1 q1 => ?_)
  obtain ⟨rfl, rfl⟩ := q1
  have h0 := CRr.start hke ht
  have ke0 := h0.1
  refine mu_al_0 B dX6_fits_4 ?_
  refine mu_il_2 B dX6_fits_5 ?_
  refine mu_putI B dX6_fits_6 fX6_50 fwX6_3 rfl (by assumption) ?_
  refine mu_al_0 B dX6_fits_9 ?_
  refine mu_il_3 B dX6_fits_10 ?_
  refine mu_putI B dX6_fits_11 fX6_53 fwX6_4 rfl (by assumption) ?_
  refine mu_al_0 B dX6_fits_14 ?_
  refine mu_al_1 B dX6_fits_15 ?_
  refine mu_cV1 B dX6_fits_16 mX6_12 ⟨⟨by decide, by decide⟩, by decide, by decide⟩ (Nat.le_of_ble_eq_true rfl) (by assumption) (c_X6_first G ((h0.si (k := 3) (x := mI (x + 128)) ⟨by decide, by decide⟩).si (k := 4) (x := mI (y + 128)) ⟨by decide, by decide⟩) (by rw [mu_iv_oth _ _ (by omega), mu_iv_oth _ _ (by omega), mu_iv_same])) (fun r16 w16 q16 => ?_)
  obtain ⟨rfl, hiv9, hN9⟩ := q16
  refine mu_is_4 B dX6_fits_19 (by decide) rfl ?_
  refine mu_iconst (v := mI 0) B dX6_fits_21 rfl ?_
  refine mu_is_5 B dX6_fits_22 (by decide) rfl ?_
  refine LF 0 w16 (Nat.zero_le _) ⟨hN9, ⟨(hiv9 3 (by decide)).trans ?_, (hiv9 4 (by decide)).trans ?_⟩, fun j hj => absurd hj (Nat.not_lt_zero j)⟩
  · rw [mu_iv_oth _ _ (by omega), mu_iv_same]; rfl
  · rw [mu_iv_same]; rfl

set_option maxHeartbeats 4000000 in
set_option maxRecDepth 100000 in
theorem c_X6_paintRun (G : mu_G) {w : mu_W} {a : Nat} (ho : CFo w a) {c : Nat → Nat → Nat} (hb : CFb w a c) {e : Nat} (hke : mu_kd w e = some (6, 0)) {v T C Y : Nat} (h1 : mu_iv w e 1 = mI T) (h3 : mu_iv w e 3 = mI C) (h4 : mu_iv w e 4 = mI Y) (hv : v ≤ 1) (hC : C + T ≤ 256) (hY : Y < 256) : mu_Ct G M_X6_paintRun [.ref e, .ref a, .int (mI v)] w (fun r w' => r = some (.int (mI ((v * T : Nat) : Int))) ∧ mu_Fi (fun q _ => q = a + 1) w w' ∧ CFb w' a (sp_pn c v C Y T)) := by
  have hne : a + 1 ≠ e := fun q => by rw [← q] at hke; have := hke.symm.trans ho.2.2.1; simp at this
  refine mu_ofWA G M_X6_paintRun [.ref e, .ref a, .int (mI v), mu_no] (by decide) rfl (Nat.le_of_ble_eq_true rfl) ?_
  intro X E
  have B : mu_B X G cX6_paintRun RX6 4 (mu_rm M_X6_paintRun) := E.1
  have LR : ∀ k (s : mu_W), k ≤ T → (mu_Fi (fun q _ => q = a + 1) w s ∧ CFb s a (sp_pn c v C Y k)) → mu_WA X G 4 (mu_Q X G M_X6_paintRun (fun r w' => r = some (.int (mI ((v * T : Nat) : Int))) ∧ mu_Fi (fun q _ => q = a + 1) w w' ∧ CFb w' a (sp_pn c v C Y T))) s 0 0 2 [.ref e, .ref a, .int (mI v), .int (mI k)] [] := by
    refine mu_ind (T) (fun k (s : mu_W) => mu_WA X G 4 (mu_Q X G M_X6_paintRun (fun r w' => r = some (.int (mI ((v * T : Nat) : Int))) ∧ mu_Fi (fun q _ => q = a + 1) w w' ∧ CFb w' a (sp_pn c v C Y T))) s 0 0 2 [.ref e, .ref a, .int (mI v), .int (mI k)] []) (fun k (s : mu_W) => mu_Fi (fun q _ => q = a + 1) w s ∧ CFb s a (sp_pn c v C Y k)) ?_
    intro k s hk ⟨hFs, hbs⟩ ih
    have kes := hFs.kd hke
    refine mu_il_3 B dX6_paintRun_2 ?_
    refine mu_al_0 B dX6_paintRun_3 ?_
    refine mu_getI B dX6_paintRun_4 fX6_47 rfl (by assumption) ?_
    rw [hFs.iv (fun q => hne q.symm) h1]
    refine mu_icmp_ge (tgt := 31) B dX6_paintRun_7 (by decide) (fun c7 => ?_) (fun c7 => ?_)
    · try rw [mI_le ⟨by omega, by omega⟩ ⟨by omega, by omega⟩] at c7
      try rw [mI_le ⟨by omega, by omega⟩ ⟨by omega, by omega⟩] at c7
      obtain rfl : T = k := by omega
      refine mu_il_2 B dX6_paintRun_31 ?_
      refine mu_al_0 B dX6_paintRun_32 ?_
      refine mu_getI B dX6_paintRun_33 fX6_47 rfl (by assumption) ?_
      rw [hFs.iv (fun q => hne q.symm) h1]
      refine mu_imul B dX6_paintRun_36 ?_
      try rw [mI_mul]
      try rw [mI_mul]
      rw [show (v : Int) * (T : Int) = ((v * T : Nat) : Int) from (Int.natCast_mul v T).symm]
      refine mu_iret E rfl (by decide) (by decide) dX6_paintRun_37 ?_
      exact ⟨rfl, hFs, hbs⟩
    · try rw [mI_le ⟨by omega, by omega⟩ ⟨by omega, by omega⟩] at c7
      refine mu_al_1 B dX6_paintRun_10 ?_
      refine mu_al_0 B dX6_paintRun_11 ?_
      refine mu_getI B dX6_paintRun_12 fX6_50 rfl (by assumption) ?_
      rw [hFs.iv (fun q => hne q.symm) h3]
      refine mu_il_3 B dX6_paintRun_15 ?_
      refine mu_iadd B dX6_paintRun_16 ?_
      try rw [mI_add]
      try rw [mI_add]
      rw [show (C : Int) + (k : Int) = ((C + k : Nat) : Int) by omega]
      refine mu_al_0 B dX6_paintRun_17 ?_
      refine mu_getI B dX6_paintRun_18 fX6_53 rfl (by assumption) ?_
      rw [hFs.iv (fun q => hne q.symm) h4]
      refine mu_il_2 B dX6_paintRun_21 ?_
      refine mu_cV3 B dX6_paintRun_22 mX6_69 ⟨⟨by decide, by decide⟩, by decide, by decide⟩ (Nat.le_of_ble_eq_true rfl) (hFs.kd ho.1) (c_X1_write G (ho.fi hFs) hbs (p := C + k) (q := Y) (v := v) (by omega) hY hv) (fun r22 w22 q22 => ?_)
      obtain ⟨rfl, hF2, hb2⟩ := q22
      rw [cu_pn] at hb2
      refine mu_inc_3 (c := mI 1) B dX6_paintRun_25 rfl (by decide) rfl ?_
      try rw [mI_add]
      refine mu_goto (tgt := 2) B dX6_paintRun_28 (by decide) ?_
      exact mu_to (ih _ (by omega) ⟨hFs.trans hF2, hb2⟩) rfl (by rw [show ((k + 1 : Nat) : Int) = (k : Int) + 1 by omega])
  show mu_WA X G 4 _ _ 0 0 0 _ []
  refine mu_iconst (v := mI 0) B dX6_paintRun_0 rfl ?_
  refine mu_is_3 B dX6_paintRun_1 (by decide) rfl ?_
  exact LR 0 w (Nat.zero_le _) ⟨mu_Fi.refl _, by rw [sp_pn_0]; exact hb⟩
