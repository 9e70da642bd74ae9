/-! ===== the text of a field: the whole ===== -/
theorem ftw_all (i : Int) (l : List Nat) : ftw i 0 (mI 0) (mB l) = mI (if 0 ≤ i ∧ i < l.length then ((l.getD i.toNat 0 : Nat) : Int) else 0) := by
  by_cases h : 0 ≤ i ∧ i < l.length
  · rw [if_pos h]
    obtain ⟨k, hk⟩ : ∃ k : Nat, i = k := ⟨i.toNat, by omega⟩
    subst hk
    have h1 := ftw_in (mB l) 0 k (mI 0) (by rw [mB_len]; omega)
    rw [Nat.zero_add] at h1
    rw [h1, mB_get l k (by omega), Int.toNat_natCast]
  · rw [if_neg h, ftw_out _ _ _ _ (by rw [mB_len]; omega)]
theorem ed_pos {c : Nat → Nat → Nat} {y x : Nat} (h : c x y = 1) : ∀ n, x < n → (x : Int) ≤ ed c y n
  | 0, hn => absurd hn (Nat.not_lt_zero _)
  | n + 1, hn => by
    rw [ed]
    by_cases e : c n y = 1
    · rw [if_pos e]; omega
    · rw [if_neg e]
      exact ed_pos h n (by have : x ≠ n := fun q => e (q ▸ h); omega)
theorem CMx.top {c : Nat → Nat → Nat} {L R U D : Int} {M : Nat} (h : CMx c L R U D M) (hM : M ≠ 0) : ∃ i, i < 256 ∧ c i U.toNat = 1 := by
  rcases h with ⟨h1, _⟩ | ⟨_, h1⟩
  · exact absurd h1 hM
  · obtain ⟨_, _, _, ⟨i, h2, h3⟩, _⟩ := h1.2.2.2 hM
    exact ⟨i, h2, h3⟩
theorem spT_eq {c : Nat → Nat → Nat} (hc : ∀ i j, c i j ≤ 1) {L R U D : Int} {M : Nat} (h : CMx c L R U D M) {l u d : Nat} (hl : L = (l : Int)) (hu : U = (u : Int)) (hd : D = (d : Int)) : spT c L U D M = txR c l (d + 1 - u) u (-1) := by
  unfold spT
  by_cases hM : M = 0
  · rw [if_pos hM]
    subst hM
    have hz := fun i j (hi : i < 256) (hj : j < 256) => h.M0 hc hi hj
    obtain ⟨_, e1, _, e2, e3⟩ := h.mt hz
    rw [show l = 0 by omega, show u = 0 by omega, show d = 0 by omega, txR_no (by rw [ed_none (fun j hj => hz j 0 hj (by decide))]; decide)]; rfl
  · rw [if_neg hM, hl, hu, hd, Int.toNat_natCast, Int.toNat_natCast, Int.toNat_natCast]
def boS (b : Nat) : Nat → Nat → Prop := fun e j => e = b ∧ j ≤ 2
theorem ftS_bo {b : Nat} {w w' : mu_W} (h : mu_Fi (ftS b) w w') : mu_Fi (boS b) w w' := h.mono (fun e j hh => ⟨hh.1, hh.2.2⟩)
def byt_post (w : mu_W) (b : Nat) (T : Int32) (r : Option Value) (w' : mu_W) : Prop := r = some (.int T) ∧ mu_Fi (boS b) w w'
def BOr (M u y : Nat) (la ab : Int) : Prop := (0 ≤ ab ∧ ab ≤ 255) ∧ ((0 ≤ la ∧ ab = la ∧ la < y) ∨ (la = -1 ∧ y = u ∧ ab = u) ∨ (M = 0 ∧ la = -1))
def BOp (w : mu_W) (b : Nat) (i : Int) (T : Int32) (rem : List Nat) (s : mu_W) (p1 : Nat) (v1 : Int32) : Prop := mu_Fi (boS b) w s ∧ FTx s b i p1 v1 ∧ p1 + rem.length ≤ 66561 ∧ ftw i p1 v1 (mB rem) = T

set_option maxHeartbeats 4000000 in
set_option maxRecDepth 100000 in
theorem c_X2_byteOf (G : mu_G) {w : mu_W} {a : Nat} (ho : CFo w a) {c : Nat → Nat → Nat} (hb : CFb w a c) {L R U D : Int} {M : Nat} (hm : CFm w a L R U D M) (hx : CMx c L R U D M) {b : Nat} (kb0 : mu_kd w b = some (2, 0)) {i : Int} (hi : mi_ok i) {l u d : Nat} (hl : L = (l : Int)) (hu : U = (u : Int)) (hd : D = (d : Int)) : mu_Ct G M_X2_byteOf [.ref b, .ref a, .int (mI i)] w (byt_post w b (ftw i 0 (mI 0) (mB (txR c l (d + 1 - u) u (-1))))) := by
  obtain ⟨ka, r0, k1, r1, k2⟩ := id ho
  obtain ⟨hi1, hi2⟩ := id hi
  obtain ⟨b1, b2, b3, b4, b5, b6, b7, b8, b9⟩ := hx.bd hb.1
  have nfb : ∀ j, ¬ boS b (a + 1) j := fun j hh => by have h9 := kb0; rw [← hh.1, k1] at h9; cases h9
  have hF3 : mu_Fi (boS b) w (mu_si (mu_si (mu_si w b 0 (mI i)) b 1 (mI 0)) b 2 (mI 0)) := (((mu_Fi.refl _).si ⟨rfl, by decide⟩).si ⟨rfl, by decide⟩).si ⟨rfl, by decide⟩
  have hm3 := hm.fi hF3 (fun j _ _ hh => by have := hh.2; omega)
  have hud : u ≤ d := by
    by_cases hM : M = 0
    · subst hM
      have hz := fun i j (hi : i < 256) (hj : j < 256) => hx.M0 hb.1 hi hj
      obtain ⟨_, e1, _, e2, e3⟩ := hx.mt hz
      omega
    · have := hx.box hM
      omega
  refine mu_ofWA G M_X2_byteOf [.ref b, .ref a, .int (mI i), mu_no, mu_no, mu_no] (by decide) rfl (Nat.le_of_ble_eq_true rfl) ?_
  intro X E
  have B : mu_B X G cX2_byteOf RX2 6 (mu_rm M_X2_byteOf) := E.1
  have K96 : ∀ (s : mu_W) (p1 : Nat) (v1 : Int32) (y ab : Int), mu_Fi (boS b) w s → FTx s b i p1 v1 → p1 ≤ 66561 → (if (p1 : Int) = i then mI 33 else v1) = (ftw i 0 (mI 0) (mB (txR c l (d + 1 - u) u (-1)))) → mu_WA X G 6 (mu_Q X G M_X2_byteOf (byt_post w b (ftw i 0 (mI 0) (mB (txR c l (d + 1 - u) u (-1)))))) s 0 0 96 [.ref b, .ref a, .int (mI i), .int (mI ab), .int (mI y), mu_no] [] := by
    intro s p1 v1 y ab hFs hf hp hT
    refine mu_al_0 B dX2_byteOf_96 ?_
    refine mu_bipush (v := mI 33) B dX2_byteOf_97 (by decide) ?_
    refine mu_cV1 B dX2_byteOf_99 mX2_39 ⟨⟨by decide, by decide⟩, by decide, by decide⟩ (Nat.le_of_ble_eq_true rfl) hf.1 (c_X2_writeByte G hi (by omega) hf) (fun r99 w99 q99 => ?_)
    obtain ⟨rfl, hF1, hf1⟩ := q99
    have kb1 := hf1.1
    refine mu_al_0 B dX2_byteOf_102 ?_
    refine mu_getI B dX2_byteOf_103 fX2_16 rfl (by assumption) ?_
    rw [hf1.2.2.2, hT]
    refine mu_iret E rfl (by decide) (by decide) dX2_byteOf_106 ?_
    exact ⟨rfl, hFs.trans (ftS_bo hF1)⟩
  have LB : ∀ y (q : mu_W × Int), y ≤ d + 1 → (u ≤ y ∧ ∃ la p1 v1, BOr M u y la q.2 ∧ BOp w b i (ftw i 0 (mI 0) (mB (txR c l (d + 1 - u) u (-1)))) (txR c l (d + 1 - y) y la) q.1 p1 v1) → mu_WA X G 6 (mu_Q X G M_X2_byteOf (byt_post w b (ftw i 0 (mI 0) (mB (txR c l (d + 1 - u) u (-1)))))) q.1 0 0 26 [.ref b, .ref a, .int (mI i), .int (mI q.2), .int (mI y), mu_no] [] := by
    refine mu_ind (d + 1) (fun y (q : mu_W × Int) => mu_WA X G 6 (mu_Q X G M_X2_byteOf (byt_post w b (ftw i 0 (mI 0) (mB (txR c l (d + 1 - u) u (-1)))))) q.1 0 0 26 [.ref b, .ref a, .int (mI i), .int (mI q.2), .int (mI y), mu_no] []) (fun y (q : mu_W × Int) => u ≤ y ∧ ∃ la p1 v1, BOr M u y la q.2 ∧ BOp w b i (ftw i 0 (mI 0) (mB (txR c l (d + 1 - u) u (-1)))) (txR c l (d + 1 - y) y la) q.1 p1 v1) ?_
    intro y ⟨s, ab⟩ hy ⟨huy, la, p1, v1, hrel, hFs, hf, hN, hT⟩ ih
    dsimp only at hrel hFs hf hN hT ih ⊢
    have hos := ho.fi hFs
    have hbs := hb.fi hFs nfb
    have hms := hm.fi hFs (fun j _ _ hh => by have := hh.2; omega)
    have kb := hf.1
    unfold BOr at hrel
    refine mu_il_4 B dX2_byteOf_26 ?_
    refine mu_al_1 B dX2_byteOf_28 ?_
    refine mu_getIN B dX2_byteOf_29 fX2_24 rfl hos.1 ?_
    rw [hms.2.2.2.2, hd]
    refine mu_icmp_gt (tgt := 96) B dX2_byteOf_32 (by decide) (fun c32 => ?_) (fun c32 => ?_)
    · try rw [mI_lt ⟨by omega, by omega⟩ ⟨by omega, by omega⟩] at c32
      try rw [mI_lt ⟨by omega, by omega⟩ ⟨by omega, by omega⟩] at c32
      obtain rfl : d + 1 = y := by omega
      rw [Nat.sub_self] at hN hT
      refine K96 s p1 v1 _ ab hFs hf (by omega) ?_
      exact hT
    · try rw [mI_lt ⟨by omega, by omega⟩ ⟨by omega, by omega⟩] at c32
      refine mu_al_0 B dX2_byteOf_35 ?_
      refine mu_getI B dX2_byteOf_36 fX2_13 rfl (by assumption) ?_
      rw [hf.2.2.1]
      refine mu_al_0 B dX2_byteOf_39 ?_
      refine mu_getI B dX2_byteOf_40 fX2_7 rfl (by assumption) ?_
      rw [hf.2.1]
      refine mu_icmp_gt (tgt := 96) B dX2_byteOf_43 (by decide) (fun c43 => ?_) (fun c43 => ?_)
      · try rw [mI_lt ⟨by omega, by omega⟩ ⟨by omega, by omega⟩] at c43
        try rw [mI_lt ⟨by omega, by omega⟩ ⟨by omega, by omega⟩] at c43
        refine K96 s p1 v1 _ ab hFs hf (by omega) ?_
        rw [if_neg (by omega), ← hT, ftw_out i _ p1 v1 (Or.inl (by omega))]
      · try rw [mI_lt ⟨by omega, by omega⟩ ⟨by omega, by omega⟩] at c43
        refine mu_al_1 B dX2_byteOf_46 ?_
        refine mu_il_4 B dX2_byteOf_47 ?_
        refine mu_cV1 B dX2_byteOf_49 mX2_27 ⟨⟨by decide, by decide⟩, by decide, by decide⟩ (Nat.le_of_ble_eq_true rfl) hos.1 (c_X1_lastAliveOf G hos hbs (y := y) (by omega)) (fun r49 w49 q49 => ?_)
        obtain ⟨hq9, rfl⟩ := q49
        obtain rfl : r49 = some (.int (mI (ed c y 256))) := by
          rcases hq9 with ⟨z, h1, h2, h3, h4⟩ | ⟨h1, h2⟩
          · rw [h4, ed_last h1 h2 h3]
          · rw [h2, ed_none h1]
        clear hq9
        have hed := ed_bd c y 256
        show mu_WA X G 6 _ _ 0 0 52 _ [.int (mI (ed c y 256))]
        refine mu_is_5 B dX2_byteOf_52 (by decide) rfl ?_
        refine mu_il_5 B dX2_byteOf_54 ?_
        refine mu_if_ge (tgt := 62) B dX2_byteOf_56 (by decide) (fun c56 => ?_) (fun c56 => ?_)
        · try rw [mI_ge0 ⟨by omega, by omega⟩] at c56
          try rw [mI_ge0 ⟨by omega, by omega⟩] at c56
          obtain ⟨z, hz⟩ : ∃ z : Nat, ed c y 256 = z := ⟨(ed c y 256).toNat, by omega⟩
          have hz1 := hed.2.2 (by omega)
          rw [hz, Int.toNat_natCast] at hz1
          have hal := hx.al (by omega) (by omega) hz1
          have hlz : l ≤ z := by omega
          have htx : txR c l (d + 1 - y) y la = (if 0 ≤ la then runB ((y : Int) - la).toNat 36 else []) ++ ((rowC c y (z + 1 - l) l l) ++ (txR c l (d + 1 - (y + 1)) (y + 1) (y : Int))) := by
            rw [show d + 1 - y = (d + 1 - (y + 1)) + 1 by omega, txR_row (by omega), hz, Int.toNat_natCast]
          rw [htx] at hN hT
          rw [hz]
          have K78 : ∀ (s1 : mu_W) (p2 : Nat) (v2 : Int32) (ab : Int), BOp w b i (ftw i 0 (mI 0) (mB (txR c l (d + 1 - u) u (-1)))) ((rowC c y (z + 1 - l) l l) ++ (txR c l (d + 1 - (y + 1)) (y + 1) (y : Int))) s1 p2 v2 → mu_WA X G 6 (mu_Q X G M_X2_byteOf (byt_post w b (ftw i 0 (mI 0) (mB (txR c l (d + 1 - u) u (-1)))))) s1 0 0 78 [.ref b, .ref a, .int (mI i), .int (mI ab), .int (mI y), .int (mI z)] [] := by
            intro s1 p2 v2 ab ⟨h1, h2, h3, h4⟩
            have kb1 := h2.1
            refine mu_il_4 B dX2_byteOf_78 ?_
            refine mu_is_3 B dX2_byteOf_80 (by decide) rfl ?_
            refine mu_al_0 B dX2_byteOf_81 ?_
            refine mu_al_1 B dX2_byteOf_82 ?_
            refine mu_il_4 B dX2_byteOf_83 ?_
            refine mu_il_5 B dX2_byteOf_85 ?_
            refine mu_cV3 B dX2_byteOf_87 mX2_35 ⟨⟨by decide, by decide⟩, by decide, by decide⟩ (Nat.le_of_ble_eq_true rfl) kb1 (c_X2_writeRow G (ho.fi h1) (hb.fi h1 nfb) (hm.fi h1 (fun j _ _ hh => by have := hh.2; omega)) hl hi (by omega) h2 (y := y) (z := z) (by omega) (by omega) hlz) (fun r87 w87 q87 => ?_)
            obtain ⟨rfl, hF1, p3, v3, hf3, hp3, hT3⟩ := q87
            refine mu_inc_4 (c := mI 1) B dX2_byteOf_90 rfl (by decide) rfl ?_
            try rw [mI_add]
            refine mu_goto (tgt := 26) B dX2_byteOf_93 (by decide) ?_
            have hR9 : d + 1 - (y + 1) = d + 1 - (y + 1) := rfl
            refine mu_fg (ih (w87, (y : Int)) (by omega) ⟨by omega, (y : Int), p3, v3, ⟨by omega, Or.inl ⟨by omega, rfl, by omega⟩⟩, h1.trans (ftS_bo hF1), hf3, by rw [List.length_append] at h3; omega, ?_⟩) rfl (by dsimp only; rw [show ((y + 1 : Nat) : Int) = (y : Int) + 1 by omega]; exact ⟨Or.inl rfl, Or.inl rfl, Or.inl rfl, Or.inl rfl, Or.inl rfl, Or.inr rfl, trivial⟩)
            rw [← h4, mB_app]
            have h9 := hT3 (mB (txR c l (d + 1 - (y + 1)) (y + 1) (y : Int)))
            exact h9
          refine mu_il_4 B dX2_byteOf_62 ?_
          refine mu_il_3 B dX2_byteOf_64 ?_
          refine mu_icmp_le (tgt := 78) B dX2_byteOf_65 (by decide) (fun c65 => ?_) (fun c65 => ?_)
          · try rw [mI_le ⟨by omega, by omega⟩ ⟨by omega, by omega⟩] at c65
            have hla : la = -1 := by omega
            first
              | (exfalso; omega)
              | refine K78 _ _ _ _ ⟨hFs.trans (ftS_bo hF1), hf1, by omega, ?_⟩
                rw [← hT, mB_app (runB _ _), ftw_append, mB_len, ← hrl, show (36 : Int) = ((36 : Nat) : Int) from rfl, rnI_map (by omega)]; rfl
              | refine K78 _ p1 v1 ab ⟨hFs, hf, ?_, ?_⟩
                · rw [if_neg (by omega)] at hN; exact hN
                · rw [if_neg (by omega)] at hT; exact hT
          · try rw [mI_le ⟨by omega, by omega⟩ ⟨by omega, by omega⟩] at c65
            have hla : 0 ≤ la ∧ ab = la := by omega
            refine mu_al_0 B dX2_byteOf_68 ?_
            refine mu_il_4 B dX2_byteOf_69 ?_
            refine mu_il_3 B dX2_byteOf_71 ?_
            refine mu_isub B dX2_byteOf_72 ?_
            try rw [mI_sub]
            try rw [mI_sub]
            rw [hla.2, show (y : Int) - la = ((((y : Int) - la).toNat : Nat) : Int) by omega]
            refine mu_bipush (v := mI 36) B dX2_byteOf_73 (by decide) ?_
            refine mu_cV2 B dX2_byteOf_75 mX2_31 ⟨⟨by decide, by decide⟩, by decide, by decide⟩ (Nat.le_of_ble_eq_true rfl) hf.1 (c_X2_writeRun G hi (by omega) hf (t := ((y : Int) - la).toNat) (by omega)) (fun r75 w75 q75 => ?_)
            obtain ⟨rfl, hF1, hf1⟩ := q75
            rw [if_pos hla.1] at hN hT
            have hrl : (rnI ((y : Int) - la).toNat (mI 36)).length = (runB ((y : Int) - la).toNat 36).length := by
              rw [show (36 : Int) = ((36 : Nat) : Int) from rfl, rnI_map (by omega)]; exact mB_len _
            rw [List.length_append] at hN
            first
              | (exfalso; omega)
              | refine K78 _ _ _ _ ⟨hFs.trans (ftS_bo hF1), hf1, by omega, ?_⟩
                rw [← hT, mB_app (runB _ _), ftw_append, mB_len, ← hrl, show (36 : Int) = ((36 : Nat) : Int) from rfl, rnI_map (by omega)]; rfl
              | refine K78 _ p1 v1 ab ⟨hFs, hf, ?_, ?_⟩
                · rw [if_neg (by omega)] at hN; exact hN
                · rw [if_neg (by omega)] at hT; exact hT
        · try rw [mI_ge0 ⟨by omega, by omega⟩] at c56
          refine mu_goto (tgt := 90) B dX2_byteOf_59 (by decide) ?_
          refine mu_inc_4 (c := mI 1) B dX2_byteOf_90 rfl (by decide) rfl ?_
          try rw [mI_add]
          refine mu_goto (tgt := 26) B dX2_byteOf_93 (by decide) ?_
          have hrel2 : BOr M u (y + 1) la ab := by
            refine ⟨hrel.1, ?_⟩
            rcases hrel.2 with h1 | h1 | h1
            · exact Or.inl ⟨h1.1, h1.2.1, by omega⟩
            · refine Or.inr (Or.inr ⟨?_, h1.1⟩)
              by_cases hM : M = 0
              · exact hM
              · exfalso
                obtain ⟨x9, hx9, hx8⟩ := hx.top hM
                rw [hu, Int.toNat_natCast, ← h1.2.1] at hx8
                have := ed_pos hx8 256 hx9
                omega
            · exact Or.inr (Or.inr h1)
          rw [show d + 1 - y = (d + 1 - (y + 1)) + 1 by omega, txR_no (by omega)] at hN hT
          exact mu_fg (ih (_, ab) (by omega) ⟨by omega, la, p1, v1, hrel2, hFs, hf, hN, hT⟩) rfl (by dsimp only; rw [show ((y + 1 : Nat) : Int) = (y : Int) + 1 by omega]; exact ⟨Or.inl rfl, Or.inl rfl, Or.inl rfl, Or.inl rfl, Or.inl rfl, Or.inr rfl, trivial⟩)
  show mu_WA X G 6 _ _ 0 0 0 _ []
  refine mu_al_0 B dX2_byteOf_0 ?_
  refine mu_il_2 B dX2_byteOf_1 ?_
  refine mu_putI B dX2_byteOf_2 fX2_7 fwX2_0 rfl (by assumption) ?_
  refine mu_al_0 B dX2_byteOf_5 ?_
  refine mu_iconst (v := mI 0) B dX2_byteOf_6 rfl ?_
  refine mu_putI B dX2_byteOf_7 fX2_13 fwX2_1 rfl (by assumption) ?_
  refine mu_al_0 B dX2_byteOf_10 ?_
  refine mu_iconst (v := mI 0) B dX2_byteOf_11 rfl ?_
  refine mu_putI B dX2_byteOf_12 fX2_16 fwX2_2 rfl (by assumption) ?_
  refine mu_al_1 B dX2_byteOf_15 ?_
  refine mu_getIN B dX2_byteOf_16 fX2_19 rfl (by assumption) ?_
  rw [hm3.2.2.1, hu]
  refine mu_is_3 B dX2_byteOf_19 (by decide) rfl ?_
  refine mu_al_1 B dX2_byteOf_20 ?_
  refine mu_getIN B dX2_byteOf_21 fX2_19 rfl (by assumption) ?_
  rw [hm3.2.2.1, hu]
  refine mu_is_4 B dX2_byteOf_24 (by decide) rfl ?_
  have htl := txR_le c l (d + 1 - u) u (-1)
  refine LB u ((mu_si (mu_si (mu_si w b 0 (mI i)) b 1 (mI 0)) b 2 (mI 0)), (u : Int)) (by omega) ⟨Nat.le_refl _, -1, 0, mI 0, ⟨by omega, Or.inr (Or.inl ⟨rfl, rfl, rfl⟩)⟩, hF3, ⟨kb0, ?_, ?_, ?_⟩, by omega, rfl⟩
  · simp [mu_iv_si]
  · simp [mu_iv_si]
  · simp [mu_iv_si]
