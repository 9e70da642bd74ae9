/-! ===== the class's searches: the cells of a box and those round it ===== -/
def nbx (k : Nat) : Int := [0, 0, -1, 1, -1, 1, 1, -1].getD k 0
def nby (k : Nat) : Int := [-1, 1, 0, 0, -1, 1, -1, 1].getD k 0
theorem nbx_eq : ∀ k, k < 8 → mu_nbX k = mI (nbx k) := by decide
theorem nby_eq : ∀ k, k < 8 → mu_nbY k = mI (nby k) := by decide
theorem nbx_bd : ∀ k, k < 8 → -1 ≤ nbx k ∧ nbx k ≤ 1 := by decide
theorem nby_bd : ∀ k, k < 8 → -1 ≤ nby k ∧ nby k ≤ 1 := by decide
def nrN (i j : Int) (R C : Nat) : Nat → Nat
  | 0 => 0
  | k + 1 => nrN i j R C k ||| bitN (i + nby k) (j + nbx k) R C
theorem nrN_lt {i j : Int} {R C : Nat} (h : R * C ≤ 16) : ∀ k, nrN i j R C k < 65536
  | 0 => by rw [nrN]; decide
  | k + 1 => Nat.or_lt_two_pow (n := 16) (nrN_lt h k) (bitN_lt h)
def lyi (C k : Nat) : Int := ((k / (C + 2) : Nat) : Int) - 1
def lyj (C k : Nat) : Int := ((k % (C + 2) : Nat) : Int) - 1
def lyc (R C nb dw : Nat) : mu_CL := fun k => (bitN (lyi C k) (lyj C k) R C, nrN (lyi C k) (lyj C k) R C nb, if bitN (lyi C k) (lyj C k) R C = 0 then 0 else dw)
theorem ly_at {C y x : Nat} (hx : x < C + 2) : lyi C ((C + 2) * y + x) = (y : Int) - 1 ∧ lyj C ((C + 2) * y + x) = (x : Int) - 1 := by
  unfold lyi lyj
  rw [Nat.mul_add_div (by omega), Nat.div_eq_of_lt hx, Nat.add_zero, Nat.mul_add_mod, Nat.mod_eq_of_lt hx]
  exact ⟨rfl, rfl⟩
def lyS (a : Nat) : Nat → Nat → Prop := fun e j => (e = a ∧ (j = 3 ∨ (6 ≤ j ∧ j ≤ 8))) ∨ (a + 1 ≤ e ∧ e ≤ a + 3)
theorem ly_k {R C y x : Nat} (hy : y < R + 2) (hx : x < C + 2) : (C + 2) * y + x < (R + 2) * (C + 2) := by
  have h1 : (C + 2) * (y + 1) ≤ (C + 2) * (R + 2) := Nat.mul_le_mul_left _ hy
  rw [Nat.mul_add, Nat.mul_one, Nat.mul_comm (C + 2) (R + 2)] at h1
  omega

set_option maxHeartbeats 4000000 in
set_option maxRecDepth 100000 in
theorem c_X7_layOut (G : mu_G) {w : mu_W} {a : Nat} (ho : CSo w a) {rr nb bo st : Nat} (hRu : RUx w rr nb bo st) (hnb : nb ≤ 8) {R C dw : Nat} (hR : 1 ≤ R ∧ R ≤ 16) (hC : 1 ≤ C ∧ C ≤ 16) (hRC : R * C ≤ 16) (h64 : (R + 2) * (C + 2) ≤ 64) (hdw : dw ≤ 3) : mu_Ct G M_X7_layOut [.ref a, .ref rr, .int (mI R), .int (mI C), .int (mI dw)] w (fun r w' => r = none ∧ mu_Fi (lyS a) w w' ∧ CSd w' a ((R + 2) * (C + 2)) (R * C) bo st (lyc R C nb dw)) := by
  obtain ⟨ka, ⟨r0, k1⟩, ⟨r1, k2⟩, ⟨r2, k3⟩, ⟨r4, k4⟩, ⟨r5, k5⟩, ⟨r9, k6⟩, ⟨r10, k7⟩⟩ := id ho
  have nra : rr ≠ a := fun q => by have h9 := hRu.1; rw [q, ka] at h9; cases h9
  have nrr : rr ≠ a + 1 := fun q => by have h9 := hRu.1; rw [q, k1] at h9; cases h9
  have nrr2 : rr ≠ a + 2 := fun q => by have h9 := hRu.1; rw [q, k2] at h9; cases h9
  have nrr3 : rr ≠ a + 3 := fun q => by have h9 := hRu.1; rw [q, k3] at h9; cases h9
  have nrS : ∀ j, ¬ lyS a rr j := fun j hh => by unfold lyS at hh; omega
  have n1 : (a = a + 1) = False := by simp
  have n2 : (a = a + 2) = False := by simp
  have n3 : (a = a + 3) = False := by simp
  have n63 : ((6 : Nat) = 3) = False := by simp
  have n73 : ((7 : Nat) = 3) = False := by simp
  have n83 : ((8 : Nat) = 3) = False := by simp
  refine mu_ofWA G M_X7_layOut [.ref a, .ref rr, .int (mI R), .int (mI C), .int (mI dw), mu_no, mu_no, mu_no, mu_no] (by decide) rfl (Nat.le_of_ble_eq_true rfl) ?_
  intro X E
  have B : mu_B X G cX7_layOut RX7 9 (mu_rm M_X7_layOut) := E.1
  have LY : ∀ y (s : mu_W), y ≤ R + 2 → (mu_Fi (lyS a) w s ∧ CSd s a ((C + 2) * y) (R * C) bo st (lyc R C nb dw)) → mu_WA X G 9 (mu_Q X G M_X7_layOut (fun r w' => r = none ∧ mu_Fi (lyS a) w w' ∧ CSd w' a ((R + 2) * (C + 2)) (R * C) bo st (lyc R C nb dw))) s 0 0 36 [.ref a, .ref rr, .int (mI R), .int (mI C), .int (mI dw), .int (mI ((y : Int) - 1)), mu_no, mu_no, mu_no] [] := by
    refine mu_ind (R + 2) (fun y (s : mu_W) => mu_WA X G 9 (mu_Q X G M_X7_layOut (fun r w' => r = none ∧ mu_Fi (lyS a) w w' ∧ CSd w' a ((R + 2) * (C + 2)) (R * C) bo st (lyc R C nb dw))) s 0 0 36 [.ref a, .ref rr, .int (mI R), .int (mI C), .int (mI dw), .int (mI ((y : Int) - 1)), mu_no, mu_no, mu_no] []) (fun y (s : mu_W) => mu_Fi (lyS a) w s ∧ CSd s a ((C + 2) * y) (R * C) bo st (lyc R C nb dw)) ?_
    intro y s hy ⟨hFs, hcs⟩ ihy
    refine mu_il_5 B dX7_layOut_36 ?_
    refine mu_il_2 B dX7_layOut_38 ?_
    refine mu_icmp_gt (tgt := 196) B dX7_layOut_39 (by decide) (fun c39 => ?_) (fun c39 => ?_)
    · try rw [mI_lt ⟨by omega, by omega⟩ ⟨by omega, by omega⟩] at c39
      try rw [mI_lt ⟨by omega, by omega⟩ ⟨by omega, by omega⟩] at c39
      obtain rfl : R + 2 = y := by omega
      refine mu_vret E rfl (by decide) (by decide) dX7_layOut_196 ?_
      refine ⟨rfl, hFs, ?_⟩
      rw [Nat.mul_comm (R + 2) (C + 2)]; exact hcs
    · try rw [mI_lt ⟨by omega, by omega⟩ ⟨by omega, by omega⟩] at c39
      refine mu_iconst (v := mI (-1)) B dX7_layOut_42 rfl ?_
      refine mu_is_6 B dX7_layOut_43 (by decide) rfl ?_
      have LX : ∀ x (t : mu_W), x ≤ C + 2 → (mu_Fi (lyS a) w t ∧ CSd t a ((C + 2) * y + x) (R * C) bo st (lyc R C nb dw)) → mu_WA X G 9 (mu_Q X G M_X7_layOut (fun r w' => r = none ∧ mu_Fi (lyS a) w w' ∧ CSd w' a ((R + 2) * (C + 2)) (R * C) bo st (lyc R C nb dw))) t 0 0 45 [.ref a, .ref rr, .int (mI R), .int (mI C), .int (mI dw), .int (mI ((y : Int) - 1)), .int (mI ((x : Int) - 1)), mu_no, mu_no] [] := by
        refine mu_ind (C + 2) (fun x (t : mu_W) => mu_WA X G 9 (mu_Q X G M_X7_layOut (fun r w' => r = none ∧ mu_Fi (lyS a) w w' ∧ CSd w' a ((R + 2) * (C + 2)) (R * C) bo st (lyc R C nb dw))) t 0 0 45 [.ref a, .ref rr, .int (mI R), .int (mI C), .int (mI dw), .int (mI ((y : Int) - 1)), .int (mI ((x : Int) - 1)), mu_no, mu_no] []) (fun x (t : mu_W) => mu_Fi (lyS a) w t ∧ CSd t a ((C + 2) * y + x) (R * C) bo st (lyc R C nb dw)) ?_
        intro x t hx ⟨hFt, hct⟩ ihx
        have kat := hFt.kd ka
        have r0t := hFt.rv r0
        have r1t := hFt.rv r1
        have r2t := hFt.rv r2
        have k1t := hFt.kd k1
        have k2t := hFt.kd k2
        have k3t := hFt.kd k3
        have hRt := hRu.fi hFt nrS
        refine mu_il_6 B dX7_layOut_45 ?_
        refine mu_il_3 B dX7_layOut_47 ?_
        refine mu_icmp_gt (tgt := 190) B dX7_layOut_48 (by decide) (fun c48 => ?_) (fun c48 => ?_)
        · try rw [mI_lt ⟨by omega, by omega⟩ ⟨by omega, by omega⟩] at c48
          try rw [mI_lt ⟨by omega, by omega⟩ ⟨by omega, by omega⟩] at c48
          obtain rfl : C + 2 = x := by omega
          refine mu_inc_5 (c := mI 1) B dX7_layOut_190 rfl (by decide) rfl ?_
          try rw [mI_add]
          refine mu_goto (tgt := 36) B dX7_layOut_193 (by decide) ?_
          refine mu_fg (ihy _ (by omega) ⟨hFt, ?_⟩) rfl (by rw [show ((y + 1 : Nat) : Int) - 1 = ((y : Int) - 1) + 1 by omega]; exact ⟨Or.inl rfl, Or.inl rfl, Or.inl rfl, Or.inl rfl, Or.inl rfl, Or.inl rfl, Or.inr rfl, Or.inr rfl, Or.inr rfl, trivial⟩)
          rw [show (C + 2) * (y + 1) = (C + 2) * y + (C + 2) from Nat.mul_succ _ _]; exact hct
        · try rw [mI_lt ⟨by omega, by omega⟩ ⟨by omega, by omega⟩] at c48
          have hx9 : x < C + 2 := by omega
          have hk9 := ly_k (R := R) (C := C) (y := y) (x := x) (by omega) hx9
          refine mu_al_0 B dX7_layOut_51 ?_
          refine mu_getI B dX7_layOut_52 fX7_50 rfl kat ?_
          rw [hct.1]
          refine mu_bipush (v := mI 64) B dX7_layOut_55 (by decide) ?_
          refine mu_icmp_ge (tgt := 190) B dX7_layOut_57 (by decide) (fun c57 => ?_) (fun c57 => ?_)
          · try rw [mI_le ⟨by omega, by omega⟩ ⟨by omega, by omega⟩] at c57
            exfalso
            omega
          · try rw [mI_le ⟨by omega, by omega⟩ ⟨by omega, by omega⟩] at c57
            refine mu_al_0 B dX7_layOut_60 ?_
            refine mu_getR B dX7_layOut_61 fX7_11 rfl kat r0t ?_
            refine mu_al_0 B dX7_layOut_64 ?_
            refine mu_getI B dX7_layOut_65 fX7_50 rfl kat ?_
            rw [hct.1]
            refine mu_il_5 B dX7_layOut_68 ?_
            refine mu_il_6 B dX7_layOut_70 ?_
            refine mu_il_2 B dX7_layOut_72 ?_
            refine mu_il_3 B dX7_layOut_73 ?_
            refine mu_eS4 B dX7_layOut_74 mX7_99 ⟨⟨by decide, by decide⟩, by decide, by decide⟩ (Nat.le_of_ble_eq_true rfl) (c_X7_bitOf G (i := ((y : Int) - 1)) (j := ((x : Int) - 1)) (R := R) (C := C) (by omega) (by omega) (by omega) (by omega) hRC) ?_
            refine mu_iast B dX7_layOut_77 k1t (mI_inN (by omega) (by decide)) ?_
            rw [mI_clampN (by omega)]
            have K136 : ∀ m9 : Value, mu_WA X G 9 (mu_Q X G M_X7_layOut (fun r w' => r = none ∧ mu_Fi (lyS a) w w' ∧ CSd w' a ((R + 2) * (C + 2)) (R * C) bo st (lyc R C nb dw))) (mu_si t (a + 1) ((C + 2) * y + x) (mI ((bitN ((y : Int) - 1) ((x : Int) - 1) R C) : Nat))) 0 0 136 [.ref a, .ref rr, .int (mI R), .int (mI C), .int (mI dw), .int (mI ((y : Int) - 1)), .int (mI ((x : Int) - 1)), .int (mI ((nrN ((y : Int) - 1) ((x : Int) - 1) R C nb : Nat) : Int)), m9] [] := by
              intro m9
              have K173 : ∀ v : Nat, v = (if (bitN ((y : Int) - 1) ((x : Int) - 1) R C) = 0 then 0 else dw) → ∀ m9 : Value, mu_WA X G 9 (mu_Q X G M_X7_layOut (fun r w' => r = none ∧ mu_Fi (lyS a) w w' ∧ CSd w' a ((R + 2) * (C + 2)) (R * C) bo st (lyc R C nb dw))) (mu_si (mu_si t (a + 1) ((C + 2) * y + x) (mI ((bitN ((y : Int) - 1) ((x : Int) - 1) R C) : Nat))) (a + 2) ((C + 2) * y + x) (mI (nrN ((y : Int) - 1) ((x : Int) - 1) R C nb : Nat))) 0 0 173 [.ref a, .ref rr, .int (mI R), .int (mI C), .int (mI dw), .int (mI ((y : Int) - 1)), .int (mI ((x : Int) - 1)), .int (mI ((nrN ((y : Int) - 1) ((x : Int) - 1) R C nb : Nat) : Int)), m9] [.int (mI (v : Int)), .int (mI ((((C + 2) * y + x) : Nat) : Int)), .ref (a + 3)] := by
                intro v hv m9
                refine mu_iast B dX7_layOut_173 (by exact k3t) (mI_inN (by omega) (by decide)) ?_
                rw [mI_clampN (by omega)]
                refine mu_al_0 B dX7_layOut_174 ?_
                refine mu_dup B dX7_layOut_175 rfl ?_
                refine mu_getI B dX7_layOut_176 fX7_50 rfl (by exact kat) ?_
                simp only [mu_iv_si, n1, n2, n3, false_and, if_false]
                rw [hct.1]
                refine mu_iconst (v := mI 1) B dX7_layOut_179 rfl ?_
                refine mu_iadd B dX7_layOut_180 ?_
                try rw [mI_add]
                try rw [mI_add]
                rw [show ((((C + 2) * y + x) : Nat) : Int) + 1 = (((C + 2) * y + (x + 1) : Nat) : Int) by omega]
                refine mu_putI B dX7_layOut_181 fX7_50 fwX7_3 rfl (by exact kat) ?_
                refine mu_inc_6 (c := mI 1) B dX7_layOut_184 rfl (by decide) rfl ?_
                try rw [mI_add]
                refine mu_goto (tgt := 45) B dX7_layOut_187 (by decide) ?_
                refine mu_fg (ihx _ (by omega) ⟨(((hFt.si (Or.inr ⟨by omega, by omega⟩)).si (Or.inr ⟨by omega, by omega⟩)).si (Or.inr ⟨by omega, by omega⟩)).si (Or.inl ⟨rfl, Or.inl rfl⟩), ?_⟩) rfl (by rw [show ((x + 1 : Nat) : Int) - 1 = ((x : Int) - 1) + 1 by omega]; exact ⟨Or.inl rfl, Or.inl rfl, Or.inl rfl, Or.inl rfl, Or.inl rfl, Or.inl rfl, Or.inl rfl, Or.inr rfl, Or.inr rfl, trivial⟩)
                refine ⟨?_, ?_, ?_, ?_, fun k hk => ?_⟩
                · rw [mu_iv_same]
                · simp only [mu_iv_si, n1, n2, n3, n63, n73, n83, false_and, and_false, if_false]; first | exact hct.2.1 | exact hct.2.2.1 | exact hct.2.2.2.1
                · simp only [mu_iv_si, n1, n2, n3, n63, n73, n83, false_and, and_false, if_false]; first | exact hct.2.1 | exact hct.2.2.1 | exact hct.2.2.2.1
                · simp only [mu_iv_si, n1, n2, n3, n63, n73, n83, false_and, and_false, if_false]; first | exact hct.2.1 | exact hct.2.2.1 | exact hct.2.2.2.1
                · by_cases e9 : k = ((C + 2) * y + x)
                  · have hla := ly_at (C := C) (y := y) (x := x) hx9
                    have e1 : cl_o (lyc R C nb dw) k = (bitN ((y : Int) - 1) ((x : Int) - 1) R C) := by rw [e9]; show bitN (lyi C _) (lyj C _) R C = _; rw [hla.1, hla.2]
                    have e2 : cl_n (lyc R C nb dw) k = nrN ((y : Int) - 1) ((x : Int) - 1) R C nb := by rw [e9]; show nrN (lyi C _) (lyj C _) R C nb = _; rw [hla.1, hla.2]
                    have e3 : cl_d (lyc R C nb dw) k = v := by rw [e9, hv]; show (if bitN (lyi C _) (lyj C _) R C = 0 then 0 else dw) = _; rw [hla.1, hla.2]
                    rw [e1, e2, e3, e9]
                    refine ⟨?_, ?_, ?_⟩
                    · rw [mu_iv_oth _ _ (by omega), mu_iv_oth _ _ (by omega), mu_iv_oth _ _ (by omega), mu_iv_same]
                    · rw [mu_iv_oth _ _ (by omega), mu_iv_oth _ _ (by omega), mu_iv_same]
                    · rw [mu_iv_oth _ _ (by omega), mu_iv_same]
                  · have h9 := hct.2.2.2.2 k (by omega)
                    refine ⟨?_, ?_, ?_⟩
                    · rw [mu_iv_oth _ _ (by omega), mu_iv_oth _ _ (by omega), mu_iv_oth _ _ (by omega), mu_iv_oth _ _ (by omega)]; exact h9.1
                    · rw [mu_iv_oth _ _ (by omega), mu_iv_oth _ _ (by omega), mu_iv_oth _ _ (by omega), mu_iv_oth _ _ (by omega)]; exact h9.2.1
                    · rw [mu_iv_oth _ _ (by omega), mu_iv_oth _ _ (by omega), mu_iv_oth _ _ (by omega), mu_iv_oth _ _ (by omega)]; exact h9.2.2
              refine mu_al_0 B dX7_layOut_136 ?_
              refine mu_getR B dX7_layOut_137 fX7_15 rfl (by exact kat) (by exact r1t) ?_
              refine mu_al_0 B dX7_layOut_140 ?_
              refine mu_getI B dX7_layOut_141 fX7_50 rfl (by exact kat) ?_
              simp only [mu_iv_si, n1, n2, n3, false_and, if_false]
              rw [hct.1]
              refine mu_il_7 B dX7_layOut_144 ?_
              refine mu_iast B dX7_layOut_146 (by exact k2t) (mI_inN (by omega) (by decide)) ?_
              rw [mI_clampN (by omega)]
              refine mu_al_0 B dX7_layOut_147 ?_
              refine mu_getR B dX7_layOut_148 fX7_18 rfl (by exact kat) (by exact r2t) ?_
              refine mu_al_0 B dX7_layOut_151 ?_
              refine mu_getI B dX7_layOut_152 fX7_50 rfl (by exact kat) ?_
              simp only [mu_iv_si, n1, n2, n3, false_and, if_false]
              rw [hct.1]
              refine mu_al_0 B dX7_layOut_155 ?_
              refine mu_getR B dX7_layOut_156 fX7_11 rfl (by exact kat) (by exact r0t) ?_
              refine mu_al_0 B dX7_layOut_159 ?_
              refine mu_getI B dX7_layOut_160 fX7_50 rfl (by exact kat) ?_
              simp only [mu_iv_si, n1, n2, n3, false_and, if_false]
              rw [hct.1]
              refine mu_iald B dX7_layOut_163 (by exact k1t) (mI_inN (by omega) (by decide)) ?_
              rw [mI_clampN (by omega), mu_iv_oth _ _ (by omega), mu_iv_same]
              have hbl := bitN_lt (i := (y : Int) - 1) (j := (x : Int) - 1) hRC
              refine mu_if_eq (tgt := 172) B dX7_layOut_164 (by decide) (fun c164 => ?_) (fun c164 => ?_)
              · try rw [mI_eq0 ⟨by omega, by omega⟩] at c164
                refine mu_iconst (v := mI 0) B dX7_layOut_172 rfl ?_
                first
                  | exact K173 dw (by rw [if_neg (by omega)]) _
                  | exact K173 0 (by rw [if_pos (by omega)]) _
              · try rw [mI_eq0 ⟨by omega, by omega⟩] at c164
                refine mu_il_4 B dX7_layOut_167 ?_
                refine mu_goto (tgt := 173) B dX7_layOut_169 (by decide) ?_
                first
                  | exact K173 dw (by rw [if_neg (by omega)]) _
                  | exact K173 0 (by rw [if_pos (by omega)]) _
            have LM : ∀ m (uu : Unit), m ≤ nb → (True) → mu_WA X G 9 (mu_Q X G M_X7_layOut (fun r w' => r = none ∧ mu_Fi (lyS a) w w' ∧ CSd w' a ((R + 2) * (C + 2)) (R * C) bo st (lyc R C nb dw))) (mu_si t (a + 1) ((C + 2) * y + x) (mI ((bitN ((y : Int) - 1) ((x : Int) - 1) R C) : Nat))) 0 0 84 [.ref a, .ref rr, .int (mI R), .int (mI C), .int (mI dw), .int (mI ((y : Int) - 1)), .int (mI ((x : Int) - 1)), .int (mI ((nrN ((y : Int) - 1) ((x : Int) - 1) R C m : Nat) : Int)), .int (mI m)] [] := by
              refine mu_ind (nb) (fun m (uu : Unit) => mu_WA X G 9 (mu_Q X G M_X7_layOut (fun r w' => r = none ∧ mu_Fi (lyS a) w w' ∧ CSd w' a ((R + 2) * (C + 2)) (R * C) bo st (lyc R C nb dw))) (mu_si t (a + 1) ((C + 2) * y + x) (mI ((bitN ((y : Int) - 1) ((x : Int) - 1) R C) : Nat))) 0 0 84 [.ref a, .ref rr, .int (mI R), .int (mI C), .int (mI dw), .int (mI ((y : Int) - 1)), .int (mI ((x : Int) - 1)), .int (mI ((nrN ((y : Int) - 1) ((x : Int) - 1) R C m : Nat) : Int)), .int (mI m)] []) (fun m (uu : Unit) => True) ?_
              intro m uu hm _ ihm
              refine mu_il_8 B dX7_layOut_84 ?_
              refine mu_al_1 B dX7_layOut_86 ?_
              refine mu_getIN B dX7_layOut_87 fX7_103 rfl (by exact hRt.1) ?_
              rw [mu_iv_oth _ _ (fun q => nrr q.1), hRt.2.1]
              refine mu_icmp_ge (tgt := 136) B dX7_layOut_90 (by decide) (fun c90 => ?_) (fun c90 => ?_)
              · try rw [mI_le ⟨by omega, by omega⟩ ⟨by omega, by omega⟩] at c90
                try rw [mI_le ⟨by omega, by omega⟩ ⟨by omega, by omega⟩] at c90
                obtain rfl : nb = m := by omega
                exact K136 _
              · try rw [mI_le ⟨by omega, by omega⟩ ⟨by omega, by omega⟩] at c90
                refine mu_il_8 B dX7_layOut_93 ?_
                refine mu_getsX B dX7_layOut_95 gsX7_106 ?_
                refine mu_alenX B dX7_layOut_98 ?_
                rw [show (8 : Int32) = mI 8 from rfl]
                refine mu_icmp_ge (tgt := 136) B dX7_layOut_99 (by decide) (fun c99 => ?_) (fun c99 => ?_)
                · try rw [mI_le ⟨by omega, by omega⟩ ⟨by omega, by omega⟩] at c99
                  exfalso
                  omega
                · try rw [mI_le ⟨by omega, by omega⟩ ⟨by omega, by omega⟩] at c99
                  have hbx := nbx_bd m (by omega)
                  have hby := nby_bd m (by omega)
                  refine mu_il_7 B dX7_layOut_102 ?_
                  refine mu_il_5 B dX7_layOut_104 ?_
                  refine mu_getsY B dX7_layOut_106 gsX7_109 ?_
                  refine mu_il_8 B dX7_layOut_109 ?_
                  refine mu_ialdY B dX7_layOut_111  (mI_inN (by omega) (by decide)) ?_
                  rw [mI_clampN (by omega), nby_eq m (by omega)]
                  refine mu_iadd B dX7_layOut_112 ?_
                  try rw [mI_add]
                  refine mu_il_6 B dX7_layOut_113 ?_
                  refine mu_getsX B dX7_layOut_115 gsX7_106 ?_
                  refine mu_il_8 B dX7_layOut_118 ?_
                  refine mu_ialdX B dX7_layOut_120  (mI_inN (by omega) (by decide)) ?_
                  rw [mI_clampN (by omega), nbx_eq m (by omega)]
                  refine mu_iadd B dX7_layOut_121 ?_
                  try rw [mI_add]
                  refine mu_il_2 B dX7_layOut_122 ?_
                  refine mu_il_3 B dX7_layOut_123 ?_
                  refine mu_eS4 B dX7_layOut_124 mX7_99 ⟨⟨by decide, by decide⟩, by decide, by decide⟩ (Nat.le_of_ble_eq_true rfl) (c_X7_bitOf G (i := ((y : Int) - 1) + nby m) (j := ((x : Int) - 1) + nbx m) (R := R) (C := C) (by omega) (by omega) (by omega) (by omega) hRC) ?_
                  refine mu_ior B dX7_layOut_127 ?_
                  rw [mI_or (by have := nrN_lt (i := ((y : Int) - 1)) (j := ((x : Int) - 1)) hRC m; omega) (by have := bitN_lt (i := ((y : Int) - 1) + nby m) (j := ((x : Int) - 1) + nbx m) hRC; omega)]
                  refine mu_is_7 B dX7_layOut_128 (by decide) rfl ?_
                  refine mu_inc_8 (c := mI 1) B dX7_layOut_130 rfl (by decide) rfl ?_
                  try rw [mI_add]
                  refine mu_goto (tgt := 84) B dX7_layOut_133 (by decide) ?_
                  exact mu_to (ihm () (by omega) trivial) rfl (by rw [show ((m + 1 : Nat) : Int) = (m : Int) + 1 by omega]; rfl)
            refine mu_iconst (v := mI 0) B dX7_layOut_78 rfl ?_
            refine mu_is_7 B dX7_layOut_79 (by decide) rfl ?_
            refine mu_iconst (v := mI 0) B dX7_layOut_81 rfl ?_
            refine mu_is_8 B dX7_layOut_82 (by decide) rfl ?_
            exact LM 0 () (Nat.zero_le _) trivial
      exact mu_to (LX 0 s (Nat.zero_le _) ⟨hFs, hcs⟩) rfl (by rw [show ((0 : Nat) : Int) - 1 = -1 from rfl])
  show mu_WA X G 9 _ _ 0 0 0 _ []
  refine mu_al_0 B dX7_layOut_0 ?_
  refine mu_al_1 B dX7_layOut_1 ?_
  refine mu_getIN B dX7_layOut_2 fX7_89 rfl hRu.1 ?_
  rw [hRu.2.2.1]
  refine mu_putI B dX7_layOut_5 fX7_94 fwX7_7 rfl ka ?_
  refine mu_al_0 B dX7_layOut_8 ?_
  refine mu_al_1 B dX7_layOut_9 ?_
  refine mu_getIN B dX7_layOut_10 fX7_95 rfl (by exact hRu.1) ?_
  rw [mu_iv_oth _ _ (fun q => nra q.1), hRu.2.2.2]
  refine mu_putI B dX7_layOut_13 fX7_98 fwX7_8 rfl (by exact ka) ?_
  refine mu_al_0 B dX7_layOut_16 ?_
  refine mu_il_2 B dX7_layOut_17 ?_
  refine mu_il_3 B dX7_layOut_18 ?_
  refine mu_imul B dX7_layOut_19 ?_
  try rw [mI_mul]
  try rw [mI_mul]
  rw [show (R : Int) * (C : Int) = ((R * C : Nat) : Int) from (Int.natCast_mul R C).symm]
  refine mu_bipush (v := mI 16) B dX7_layOut_20 (by decide) ?_
  refine mu_mmin B dX7_layOut_22 mlX7_72 ⟨by decide, by decide⟩ (Nat.le_of_ble_eq_true rfl) ⟨by decide, by decide⟩ ?_
  rw [if_neg (by rw [mI_lt ⟨by omega, by omega⟩ ⟨by omega, by omega⟩]; omega)]
  refine mu_putI B dX7_layOut_25 fX7_69 fwX7_6 rfl (by exact ka) ?_
  refine mu_al_0 B dX7_layOut_28 ?_
  refine mu_iconst (v := mI 0) B dX7_layOut_29 rfl ?_
  refine mu_putI B dX7_layOut_30 fX7_50 fwX7_3 rfl (by exact ka) ?_
  refine mu_iconst (v := mI (-1)) B dX7_layOut_33 rfl ?_
  refine mu_is_5 B dX7_layOut_34 (by decide) rfl ?_
  exact mu_to (LY 0 (mu_si (mu_si (mu_si (mu_si w a 7 (mI bo)) a 8 (mI st)) a 6 (mI ((R * C : Nat) : Int))) a 3 (mI 0)) (Nat.zero_le _) ⟨(((((mu_Fi.refl _).si (Or.inl ⟨rfl, Or.inr ⟨by decide, by decide⟩⟩)).si (Or.inl ⟨rfl, Or.inr ⟨by decide, by decide⟩⟩)).si (Or.inl ⟨rfl, Or.inr ⟨by decide, by decide⟩⟩)).si (Or.inl ⟨rfl, Or.inl rfl⟩)), by rw [Nat.mul_zero]; exact ⟨by simp [mu_iv_si], by simp [mu_iv_si], by simp [mu_iv_si], by simp [mu_iv_si], fun k hk => absurd hk (Nat.not_lt_zero k)⟩⟩) rfl (by rw [show ((0 : Nat) : Int) - 1 = -1 from rfl])
