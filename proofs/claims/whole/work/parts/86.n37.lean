/-! ===== the class's searches: sorting, the bit of a cell ===== -/
theorem SRT.le {Kc : Nat} {c : mu_CL} {b n : Nat} {sb od : Nat → Nat} (h : SRT Kc c b n sb od) : n ≤ Kc := pg_le (fun j hj => (h.2.2.1 j hj).1) (fun x y hx hy e => h.2.2.2.1 x y hx hy e)
theorem SRI.le {Kc : Nat} {c : mu_CL} {b n0 k n : Nat} {sb od0 od : Nat → Nat} (hT : SRT Kc c b n0 sb od0) (h : SRI Kc c b n0 k n od0 od) (hk : k ≤ Kc) : n ≤ Kc := pg_le (f := od) (fun s hs => by
  by_cases q : s < n0
  · rw [h.2.1 s q]; exact (hT.2.2.1 s q).1
  · have := (h.2.2.1 s (by omega) hs).1; omega) (fun x y hx hy e => h.2.2.2.2 x y hx hy e)
theorem SRT.start (Kc : Nat) (c : mu_CL) : SRT Kc c 0 0 (fun _ => 0) (fun _ => 0) := ⟨fun _ _ => Nat.le_refl _, rfl, fun s hs => absurd hs (Nat.not_lt_zero s), fun s1 _ h => absurd h (Nat.not_lt_zero s1), fun b' _ h => absurd h (Nat.not_lt_zero b'), fun b' _ h => absurd h (Nat.not_lt_zero b')⟩
theorem SRI.start {Kc : Nat} {c : mu_CL} {b n0 : Nat} {sb od0 : Nat → Nat} (h : SRT Kc c b n0 sb od0) : SRI Kc c b n0 0 n0 od0 od0 := ⟨Nat.le_refl _, fun _ _ => rfl, fun s h1 h2 => by omega, fun k' h1 => absurd h1 (Nat.not_lt_zero k'), h.2.2.2.1⟩

set_option maxHeartbeats 4000000 in
set_option maxRecDepth 100000 in
theorem c_X7_sortCells (G : mu_G) {w : mu_W} {a : Nat} (ho : CSo w a) {Kc bits bo st : Nat} {c : mu_CL} (hd : CSd w a Kc bits bo st c) (hcb : CLb Kc bits c) (hbo : bo ≤ 1000000) (hst : st ≤ 1000000) : mu_Ct G M_X7_sortCells [.ref a] w (fun r w' => r = none ∧ mu_Fi (soS a) w w' ∧ ∃ sb od, CSs w' a Kc bits c sb od) := by
  obtain ⟨ka, ⟨r0, k1⟩, ⟨r1, k2⟩, ⟨r2, k3⟩, ⟨r4, k4⟩, ⟨r5, k5⟩, ⟨r9, k6⟩, ⟨r10, k7⟩⟩ := id ho
  have hcb1 := hcb.1
  have hcb2 := hcb.2.1
  refine mu_ofWA G M_X7_sortCells [.ref a, mu_no, mu_no, mu_no, mu_no] (by decide) rfl (Nat.le_of_ble_eq_true rfl) ?_
  intro X E
  have B : mu_B X G cX7_sortCells RX7 5 (mu_rm M_X7_sortCells) := E.1
  have LB : ∀ b (q : mu_W × Nat), b ≤ bits → (mu_Fi (soS a) w q.1 ∧ ∃ sb od, SRT Kc c b q.2 sb od ∧ SRm q.1 a b q.2 sb od) → mu_WA X G 5 (mu_Q X G M_X7_sortCells (fun r w' => r = none ∧ mu_Fi (soS a) w w' ∧ ∃ sb od, CSs w' a Kc bits c sb od)) q.1 0 0 4 [.ref a, .int (mI (q.2 : Nat)), .int (mI b), mu_no, mu_no] [] := by
    refine mu_ind (bits) (fun b (q : mu_W × Nat) => mu_WA X G 5 (mu_Q X G M_X7_sortCells (fun r w' => r = none ∧ mu_Fi (soS a) w w' ∧ ∃ sb od, CSs w' a Kc bits c sb od)) q.1 0 0 4 [.ref a, .int (mI (q.2 : Nat)), .int (mI b), mu_no, mu_no] []) (fun b (q : mu_W × Nat) => mu_Fi (soS a) w q.1 ∧ ∃ sb od, SRT Kc c b q.2 sb od ∧ SRm q.1 a b q.2 sb od) ?_
    intro b ⟨s, n0⟩ hb ⟨hFs, sb, od, hT, hM⟩ ih
    dsimp only at hFs hT hM ih ⊢
    have hds := hd.fi hFs (fun j _ hh => by rcases hh with hh | hh <;> omega) (fun e j _ _ hh => by rcases hh with hh | hh <;> omega)
    have hnK0 := hT.le
    refine mu_il_2 B dX7_sortCells_4 ?_
    refine mu_al_0 B dX7_sortCells_5 ?_
    refine mu_getI B dX7_sortCells_6 fX7_69 rfl (hFs.kd ka) ?_
    rw [hds.2.1]
    refine mu_icmp_ge (tgt := 94) B dX7_sortCells_9 (by decide) (fun c9 => ?_) (fun c9 => ?_)
    · try rw [mI_le ⟨by omega, by omega⟩ ⟨by omega, by omega⟩] at c9
      try rw [mI_le ⟨by omega, by omega⟩ ⟨by omega, by omega⟩] at c9
      obtain rfl : bits = b := by omega
      refine mu_al_0 B dX7_sortCells_94 ?_
      refine mu_getR B dX7_sortCells_95 fX7_24 rfl (hFs.kd ka) (hFs.rv r5) ?_
      refine mu_al_0 B dX7_sortCells_98 ?_
      refine mu_getI B dX7_sortCells_99 fX7_69 rfl (hFs.kd ka) ?_
      rw [hds.2.1]
      refine mu_il_1 B dX7_sortCells_102 ?_
      refine mu_iast B dX7_sortCells_103 (hFs.kd k5) (mI_inN (by omega) (by decide)) ?_
      rw [mI_clampN (by omega)]
      refine mu_vret E rfl (by decide) (by decide) dX7_sortCells_104 ?_
      refine ⟨rfl, hFs.si (Or.inr rfl), sb, od, fun b2 h2 => ?_, fun s2 h2 => ?_, fun b2 h2 => ?_, hT.2.2.2.2.1, hT.2.2.2.2.2⟩
      · by_cases e9 : b2 = bits
        · rw [e9, mu_iv_same, hT.2.1]
        · rw [mu_iv_oth _ _ (by omega)]; exact hM.1 b2 (by omega)
      · rw [hT.2.1] at h2; rw [mu_iv_oth _ _ (by omega)]; exact hM.2 s2 h2
      · have := hT.1 b2 h2; rw [hT.2.1]; exact ⟨this, by omega⟩
    · try rw [mI_le ⟨by omega, by omega⟩ ⟨by omega, by omega⟩] at c9
      refine mu_al_0 B dX7_sortCells_12 ?_
      refine mu_getR B dX7_sortCells_13 fX7_24 rfl (hFs.kd ka) (hFs.rv r5) ?_
      refine mu_il_2 B dX7_sortCells_16 ?_
      refine mu_il_1 B dX7_sortCells_17 ?_
      refine mu_iast B dX7_sortCells_18 (hFs.kd k5) (mI_inN (by omega) (by decide)) ?_
      rw [mI_clampN (by omega)]
      refine mu_iconst (v := mI 0) B dX7_sortCells_19 rfl ?_
      refine mu_is_3 B dX7_sortCells_20 (by decide) rfl ?_
      have LK : ∀ k (q : mu_W × Nat), k ≤ Kc → (mu_Fi (soS a) w q.1 ∧ ∃ od2, SRI Kc c b n0 k q.2 od od2 ∧ SRm q.1 a (b + 1) q.2 sb od2) → mu_WA X G 5 (mu_Q X G M_X7_sortCells (fun r w' => r = none ∧ mu_Fi (soS a) w w' ∧ ∃ sb od, CSs w' a Kc bits c sb od)) q.1 0 0 21 [.ref a, .int (mI (q.2 : Nat)), .int (mI b), .int (mI k), mu_no] [] := by
        refine mu_ind (Kc) (fun k (q : mu_W × Nat) => mu_WA X G 5 (mu_Q X G M_X7_sortCells (fun r w' => r = none ∧ mu_Fi (soS a) w w' ∧ ∃ sb od, CSs w' a Kc bits c sb od)) q.1 0 0 21 [.ref a, .int (mI (q.2 : Nat)), .int (mI b), .int (mI k), mu_no] []) (fun k (q : mu_W × Nat) => mu_Fi (soS a) w q.1 ∧ ∃ od2, SRI Kc c b n0 k q.2 od od2 ∧ SRm q.1 a (b + 1) q.2 sb od2) ?_
        intro k ⟨t, n⟩ hk ⟨hFt, od2, hI, hM2⟩ ihk
        dsimp only at hFt hI hM2 ihk ⊢
        have hdt := hd.fi hFt (fun j _ hh => by rcases hh with hh | hh <;> omega) (fun e j _ _ hh => by rcases hh with hh | hh <;> omega)
        have hnK := hI.le hT (by omega)
        refine mu_il_3 B dX7_sortCells_21 ?_
        refine mu_al_0 B dX7_sortCells_22 ?_
        refine mu_getI B dX7_sortCells_23 fX7_50 rfl (hFt.kd ka) ?_
        rw [hdt.1]
        refine mu_icmp_ge (tgt := 88) B dX7_sortCells_26 (by decide) (fun c26 => ?_) (fun c26 => ?_)
        · try rw [mI_le ⟨by omega, by omega⟩ ⟨by omega, by omega⟩] at c26
          try rw [mI_le ⟨by omega, by omega⟩ ⟨by omega, by omega⟩] at c26
          obtain rfl : Kc = k := by omega
          refine mu_inc_2 (c := mI 1) B dX7_sortCells_88 rfl (by decide) rfl ?_
          try rw [mI_add]
          refine mu_goto (tgt := 4) B dX7_sortCells_91 (by decide) ?_
          refine mu_fg (ih (t, n) (by omega) ⟨hFt, _, od2, hI.done hT, ⟨fun b2 h2 => ?_, hM2.2⟩⟩) rfl (by dsimp only; rw [show ((b + 1 : Nat) : Int) = (b : Int) + 1 by omega]; exact ⟨Or.inl rfl, Or.inl rfl, Or.inl rfl, Or.inr rfl, Or.inr rfl, trivial⟩)
          rw [hM2.1 b2 h2]
          unfold rs_up
          rw [if_neg (by omega)]
        · try rw [mI_le ⟨by omega, by omega⟩ ⟨by omega, by omega⟩] at c26
          have hck := hcb.2.2 k (by omega)
          have hmb : cl_o c k ||| cl_n c k < 65536 := Nat.or_lt_two_pow (n := 16) hck.1 hck.2.1
          refine mu_al_0 B dX7_sortCells_29 ?_
          refine mu_getR B dX7_sortCells_30 fX7_11 rfl (hFt.kd ka) (hFt.rv r0) ?_
          refine mu_il_3 B dX7_sortCells_33 ?_
          refine mu_iald B dX7_sortCells_34 (hFt.kd k1) (mI_inN (by omega) (by decide)) ?_
          rw [mI_clampN (by omega), (hdt.2.2.2.2 k (by omega)).1]
          refine mu_al_0 B dX7_sortCells_35 ?_
          refine mu_getR B dX7_sortCells_36 fX7_15 rfl (hFt.kd ka) (hFt.rv r1) ?_
          refine mu_il_3 B dX7_sortCells_39 ?_
          refine mu_iald B dX7_sortCells_40 (hFt.kd k2) (mI_inN (by omega) (by decide)) ?_
          rw [mI_clampN (by omega), (hdt.2.2.2.2 k (by omega)).2.1]
          refine mu_ior B dX7_sortCells_41 ?_
          rw [mI_or (by omega) (by omega)]
          refine mu_is_4 B dX7_sortCells_42 (by decide) rfl ?_
          refine mu_al_0 B dX7_sortCells_44 ?_
          refine mu_getR B dX7_sortCells_45 fX7_18 rfl (hFt.kd ka) (hFt.rv r2) ?_
          refine mu_il_3 B dX7_sortCells_48 ?_
          refine mu_iald B dX7_sortCells_49 (hFt.kd k3) (mI_inN (by omega) (by decide)) ?_
          rw [mI_clampN (by omega), (hdt.2.2.2.2 k (by omega)).2.2]
          refine mu_iconst (v := mI 3) B dX7_sortCells_50 rfl ?_
          refine mu_icmp_eq (tgt := 82) B dX7_sortCells_51 (by decide) (fun c51 => ?_) (fun c51 => ?_)
          · try rw [mI_eq ⟨by omega, by omega⟩ ⟨by omega, by omega⟩] at c51
            refine mu_inc_3 (c := mI 1) B dX7_sortCells_82 rfl (by decide) rfl ?_
            try rw [mI_add]
            refine mu_goto (tgt := 21) B dX7_sortCells_85 (by decide) ?_
            first
              | (refine mu_fg (ihk (mu_si t (a + 4) n (mI (k : Int)), n + 1) (by omega) ⟨hFt.si (Or.inl rfl), _, hI.add hT (by omega) c63, ⟨fun b2 h2 => (mu_iv_oth _ _ (by omega)).trans (hM2.1 b2 h2), fun q hq => ?_⟩⟩) rfl (by dsimp only; rw [show ((k + 1 : Nat) : Int) = (k : Int) + 1 by omega, show ((n + 1 : Nat) : Int) = (n : Int) + 1 by omega]; exact ⟨Or.inl rfl, Or.inl rfl, Or.inl rfl, Or.inl rfl, Or.inr rfl, trivial⟩)
                 unfold rs_up
                 by_cases e9 : q = n
                 · rw [if_pos e9, e9, mu_iv_same]
                 · rw [if_neg e9, mu_iv_oth _ _ (by omega)]; exact hM2.2 q (by omega))
              | (refine mu_fg (ihk (t, n) (by omega) ⟨hFt, od2, hI.skip (fun q => c63 q.2), hM2⟩) rfl (by dsimp only; rw [show ((k + 1 : Nat) : Int) = (k : Int) + 1 by omega]; exact ⟨Or.inl rfl, Or.inl rfl, Or.inl rfl, Or.inl rfl, Or.inr rfl, trivial⟩))
              | (refine mu_fg (ihk (t, n) (by omega) ⟨hFt, od2, hI.skip (fun q => q.1 (by omega)), hM2⟩) rfl (by dsimp only; rw [show ((k + 1 : Nat) : Int) = (k : Int) + 1 by omega]; exact ⟨Or.inl rfl, Or.inl rfl, Or.inl rfl, Or.inl rfl, Or.inr rfl, trivial⟩))
          · try rw [mI_eq ⟨by omega, by omega⟩ ⟨by omega, by omega⟩] at c51
            refine mu_il_4 B dX7_sortCells_54 ?_
            refine mu_il_4 B dX7_sortCells_56 ?_
            refine mu_ineg B dX7_sortCells_58 ?_
            try rw [mI_neg]
            refine mu_iand B dX7_sortCells_59 ?_
            refine mu_iconst (v := mI 1) B dX7_sortCells_60 rfl ?_
            refine mu_il_2 B dX7_sortCells_61 ?_
            refine mu_ishl B dX7_sortCells_62 ?_
            rw [mI_shl _ _ (by omega), Int.one_mul]
            rw [show (2 : Int) ^ b = ((2 ^ b : Nat) : Int) by rw [Int.natCast_pow]; rfl]
            refine mu_icmp_ne (tgt := 82) B dX7_sortCells_63 (by decide) (fun c63 => ?_) (fun c63 => ?_)
            · rw [low_and hmb (by omega)] at c63
              refine mu_inc_3 (c := mI 1) B dX7_sortCells_82 rfl (by decide) rfl ?_
              try rw [mI_add]
              refine mu_goto (tgt := 21) B dX7_sortCells_85 (by decide) ?_
              first
                | (refine mu_fg (ihk (mu_si t (a + 4) n (mI (k : Int)), n + 1) (by omega) ⟨hFt.si (Or.inl rfl), _, hI.add hT (by omega) c63, ⟨fun b2 h2 => (mu_iv_oth _ _ (by omega)).trans (hM2.1 b2 h2), fun q hq => ?_⟩⟩) rfl (by dsimp only; rw [show ((k + 1 : Nat) : Int) = (k : Int) + 1 by omega, show ((n + 1 : Nat) : Int) = (n : Int) + 1 by omega]; exact ⟨Or.inl rfl, Or.inl rfl, Or.inl rfl, Or.inl rfl, Or.inr rfl, trivial⟩)
                   unfold rs_up
                   by_cases e9 : q = n
                   · rw [if_pos e9, e9, mu_iv_same]
                   · rw [if_neg e9, mu_iv_oth _ _ (by omega)]; exact hM2.2 q (by omega))
                | (refine mu_fg (ihk (t, n) (by omega) ⟨hFt, od2, hI.skip (fun q => c63 q.2), hM2⟩) rfl (by dsimp only; rw [show ((k + 1 : Nat) : Int) = (k : Int) + 1 by omega]; exact ⟨Or.inl rfl, Or.inl rfl, Or.inl rfl, Or.inl rfl, Or.inr rfl, trivial⟩))
                | (refine mu_fg (ihk (t, n) (by omega) ⟨hFt, od2, hI.skip (fun q => q.1 (by omega)), hM2⟩) rfl (by dsimp only; rw [show ((k + 1 : Nat) : Int) = (k : Int) + 1 by omega]; exact ⟨Or.inl rfl, Or.inl rfl, Or.inl rfl, Or.inl rfl, Or.inr rfl, trivial⟩))
            · rw [low_and hmb (by omega)] at c63
              have hlt9 := hI.lt hT (by omega) c63
              refine mu_il_1 B dX7_sortCells_66 ?_
              refine mu_bipush (v := mI 64) B dX7_sortCells_67 (by decide) ?_
              refine mu_icmp_ge (tgt := 82) B dX7_sortCells_69 (by decide) (fun c69 => ?_) (fun c69 => ?_)
              · try rw [mI_le ⟨by omega, by omega⟩ ⟨by omega, by omega⟩] at c69
                exfalso
                omega
              · try rw [mI_le ⟨by omega, by omega⟩ ⟨by omega, by omega⟩] at c69
                refine mu_al_0 B dX7_sortCells_72 ?_
                refine mu_getR B dX7_sortCells_73 fX7_21 rfl (hFt.kd ka) (hFt.rv r4) ?_
                refine mu_il_1 B dX7_sortCells_76 ?_
                refine mu_il_3 B dX7_sortCells_77 ?_
                refine mu_iast B dX7_sortCells_78 (hFt.kd k4) (mI_inN (by omega) (by decide)) ?_
                rw [mI_clampN (by omega)]
                refine mu_inc_1 (c := mI 1) B dX7_sortCells_79 rfl (by decide) rfl ?_
                try rw [mI_add]
                refine mu_inc_3 (c := mI 1) B dX7_sortCells_82 rfl (by decide) rfl ?_
                try rw [mI_add]
                refine mu_goto (tgt := 21) B dX7_sortCells_85 (by decide) ?_
                first
                  | (refine mu_fg (ihk (mu_si t (a + 4) n (mI (k : Int)), n + 1) (by omega) ⟨hFt.si (Or.inl rfl), _, hI.add hT (by omega) c63, ⟨fun b2 h2 => (mu_iv_oth _ _ (by omega)).trans (hM2.1 b2 h2), fun q hq => ?_⟩⟩) rfl (by dsimp only; rw [show ((k + 1 : Nat) : Int) = (k : Int) + 1 by omega, show ((n + 1 : Nat) : Int) = (n : Int) + 1 by omega]; exact ⟨Or.inl rfl, Or.inl rfl, Or.inl rfl, Or.inl rfl, Or.inr rfl, trivial⟩)
                     unfold rs_up
                     by_cases e9 : q = n
                     · rw [if_pos e9, e9, mu_iv_same]
                     · rw [if_neg e9, mu_iv_oth _ _ (by omega)]; exact hM2.2 q (by omega))
                  | (refine mu_fg (ihk (t, n) (by omega) ⟨hFt, od2, hI.skip (fun q => c63 q.2), hM2⟩) rfl (by dsimp only; rw [show ((k + 1 : Nat) : Int) = (k : Int) + 1 by omega]; exact ⟨Or.inl rfl, Or.inl rfl, Or.inl rfl, Or.inl rfl, Or.inr rfl, trivial⟩))
                  | (refine mu_fg (ihk (t, n) (by omega) ⟨hFt, od2, hI.skip (fun q => q.1 (by omega)), hM2⟩) rfl (by dsimp only; rw [show ((k + 1 : Nat) : Int) = (k : Int) + 1 by omega]; exact ⟨Or.inl rfl, Or.inl rfl, Or.inl rfl, Or.inl rfl, Or.inr rfl, trivial⟩))
      refine LK 0 (mu_si s (a + 5) b (mI (n0 : Int)), n0) (Nat.zero_le _) ⟨hFs.si (Or.inr rfl), od, SRI.start hT, fun b2 h2 => ?_, fun q hq => (mu_iv_oth _ _ (by omega)).trans (hM.2 q hq)⟩
      by_cases e9 : b2 = b
      · rw [e9, mu_iv_same, hT.2.1]
      · rw [mu_iv_oth _ _ (by omega)]; exact hM.1 b2 (by omega)
  show mu_WA X G 5 _ _ 0 0 0 _ []
  refine mu_iconst (v := mI 0) B dX7_sortCells_0 rfl ?_
  refine mu_is_1 B dX7_sortCells_1 (by decide) rfl ?_
  refine mu_iconst (v := mI 0) B dX7_sortCells_2 rfl ?_
  refine mu_is_2 B dX7_sortCells_3 (by decide) rfl ?_
  exact LB 0 (w, 0) (Nat.zero_le _) ⟨mu_Fi.refl _, _, _, SRT.start Kc c, fun b2 h2 => absurd h2 (Nat.not_lt_zero b2), fun q hq => absurd hq (Nat.not_lt_zero q)⟩

/-- the bit of a place, 0 outside the box -/
def bitN (i j : Int) (R C : Nat) : Nat := if 0 ≤ i ∧ i < R ∧ 0 ≤ j ∧ j < C then 2 ^ (i.toNat * C + j.toNat) else 0
theorem bit_ix {R C i j : Nat} (hi : i < R) (hj : j < C) (h : R * C ≤ 16) : i * C + j < 16 := by
  have h1 : (i + 1) * C ≤ R * C := Nat.mul_le_mul_right C hi
  rw [Nat.add_mul, Nat.one_mul] at h1
  omega
theorem bitN_lt {i j : Int} {R C : Nat} (h : R * C ≤ 16) : bitN i j R C < 65536 := by
  unfold bitN
  by_cases q : 0 ≤ i ∧ i < R ∧ 0 ≤ j ∧ j < C
  · rw [if_pos q]
    exact Nat.pow_lt_pow_right (by decide) (bit_ix (R := R) (by omega) (by omega) h)
  · rw [if_neg q]; decide

set_option maxHeartbeats 4000000 in
set_option maxRecDepth 100000 in
theorem c_X7_bitOf (G : mu_G) {w : mu_W} {i j : Int} {R C : Nat} (hi : -1000 ≤ i ∧ i ≤ 1000) (hj : -1000 ≤ j ∧ j ≤ 1000) (hR : R ≤ 1000) (hC : C ≤ 1000) (hRC : R * C ≤ 16) : mu_Ct G M_X7_bitOf [.int (mI i), .int (mI j), .int (mI R), .int (mI C)] w (fun r w' => r = some (.int (mI (bitN i j R C : Nat))) ∧ w' = w) := by
  refine mu_ofWA G M_X7_bitOf [.int (mI i), .int (mI j), .int (mI R), .int (mI C)] (by decide) rfl (Nat.le_of_ble_eq_true rfl) ?_
  intro X E
  have B : mu_B X G cX7_bitOf RX7 4 (mu_rm M_X7_bitOf) := E.1
  show mu_WA X G 4 _ _ 0 0 0 _ []
  refine mu_il_0 B dX7_bitOf_0 ?_
  refine mu_if_lt (tgt := 28) B dX7_bitOf_1 (by decide) (fun c1 => ?_) (fun c1 => ?_)
  · try rw [mI_lt0 ⟨by omega, by omega⟩] at c1
    refine mu_iconst (v := mI 0) B dX7_bitOf_28 rfl ?_
    refine mu_iret E rfl (by decide) (by decide) dX7_bitOf_29 ?_
    refine ⟨?_, rfl⟩
    unfold bitN
    first
      | (rw [if_neg (by omega)]; rfl)
      | (rw [if_pos (by omega), Int.toNat_natCast, Int.toNat_natCast, Int.natCast_pow]; rfl)
  · try rw [mI_lt0 ⟨by omega, by omega⟩] at c1
    refine mu_il_0 B dX7_bitOf_4 ?_
    refine mu_il_2 B dX7_bitOf_5 ?_
    refine mu_icmp_ge (tgt := 28) B dX7_bitOf_6 (by decide) (fun c6 => ?_) (fun c6 => ?_)
    · try rw [mI_le ⟨by omega, by omega⟩ ⟨by omega, by omega⟩] at c6
      refine mu_iconst (v := mI 0) B dX7_bitOf_28 rfl ?_
      refine mu_iret E rfl (by decide) (by decide) dX7_bitOf_29 ?_
      refine ⟨?_, rfl⟩
      unfold bitN
      first
        | (rw [if_neg (by omega)]; rfl)
        | (rw [if_pos (by omega), Int.toNat_natCast, Int.toNat_natCast, Int.natCast_pow]; rfl)
    · try rw [mI_le ⟨by omega, by omega⟩ ⟨by omega, by omega⟩] at c6
      refine mu_il_1 B dX7_bitOf_9 ?_
      refine mu_if_lt (tgt := 28) B dX7_bitOf_10 (by decide) (fun c10 => ?_) (fun c10 => ?_)
      · try rw [mI_lt0 ⟨by omega, by omega⟩] at c10
        refine mu_iconst (v := mI 0) B dX7_bitOf_28 rfl ?_
        refine mu_iret E rfl (by decide) (by decide) dX7_bitOf_29 ?_
        refine ⟨?_, rfl⟩
        unfold bitN
        first
          | (rw [if_neg (by omega)]; rfl)
          | (rw [if_pos (by omega), Int.toNat_natCast, Int.toNat_natCast, Int.natCast_pow]; rfl)
      · try rw [mI_lt0 ⟨by omega, by omega⟩] at c10
        refine mu_il_1 B dX7_bitOf_13 ?_
        refine mu_il_3 B dX7_bitOf_14 ?_
        refine mu_icmp_ge (tgt := 28) B dX7_bitOf_15 (by decide) (fun c15 => ?_) (fun c15 => ?_)
        · try rw [mI_le ⟨by omega, by omega⟩ ⟨by omega, by omega⟩] at c15
          refine mu_iconst (v := mI 0) B dX7_bitOf_28 rfl ?_
          refine mu_iret E rfl (by decide) (by decide) dX7_bitOf_29 ?_
          refine ⟨?_, rfl⟩
          unfold bitN
          first
            | (rw [if_neg (by omega)]; rfl)
            | (rw [if_pos (by omega), Int.toNat_natCast, Int.toNat_natCast, Int.natCast_pow]; rfl)
        · try rw [mI_le ⟨by omega, by omega⟩ ⟨by omega, by omega⟩] at c15
          obtain ⟨p, hp⟩ : ∃ p : Nat, i = p := ⟨i.toNat, by omega⟩
          subst hp
          obtain ⟨q, hq⟩ : ∃ q : Nat, j = q := ⟨j.toNat, by omega⟩
          subst hq
          have hix := bit_ix (R := R) (C := C) (i := p) (j := q) (by omega) (by omega) hRC
          refine mu_iconst (v := mI 1) B dX7_bitOf_18 rfl ?_
          refine mu_il_0 B dX7_bitOf_19 ?_
          refine mu_il_3 B dX7_bitOf_20 ?_
          refine mu_imul B dX7_bitOf_21 ?_
          try rw [mI_mul]
          try rw [mI_mul]
          refine mu_il_1 B dX7_bitOf_22 ?_
          refine mu_iadd B dX7_bitOf_23 ?_
          try rw [mI_add]
          try rw [mI_add]
          rw [show (p : Int) * (C : Int) + (q : Int) = ((p * C + q : Nat) : Int) by rw [Int.natCast_add, Int.natCast_mul]]
          refine mu_ishl B dX7_bitOf_24 ?_
          rw [mI_shl _ _ (by omega), Int.one_mul]
          refine mu_goto (tgt := 29) B dX7_bitOf_25 (by decide) ?_
          refine mu_iret E rfl (by decide) (by decide) dX7_bitOf_29 ?_
          refine ⟨?_, rfl⟩
          unfold bitN
          first
            | (rw [if_neg (by omega)]; rfl)
            | (rw [if_pos (by omega), Int.toNat_natCast, Int.toNat_natCast, Int.natCast_pow]; rfl)
