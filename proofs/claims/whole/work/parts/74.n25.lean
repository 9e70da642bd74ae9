/-! ===== the class reads runs: letters ===== -/
theorem CRr.re {w0 w : mu_W} {e t n p : Nat} {tp : Nat → Nat} (h : CRr w0 e t n tp w p) : CRr w e t n tp w p := ⟨h.1, h.2.1, h.2.2.1, h.2.2.2.1, mu_Fi.refl _⟩
theorem CRr.start {w : mu_W} {e t n : Nat} {tp : Nat → Nat} (hk : mu_kd w e = some (6, 0)) (ht : CT w t n tp) : CRr w e t n tp (mu_si (mu_si w e 0 (mI 0)) e 2 (mI (-1))) 0 := by
  have n1 : e ≠ t := fun q => by rw [q] at hk; have := hk.symm.trans ht.1; simp at this
  have n2 : e ≠ t + 1 := fun q => by rw [q] at hk; have := hk.symm.trans ht.2.2.1; simp at this
  have hF : mu_Fi (rt_S e) w (mu_si (mu_si w e 0 (mI 0)) e 2 (mI (-1))) := ((mu_Fi.refl _).si ⟨rfl, by decide⟩).si ⟨rfl, by decide⟩
  exact ⟨hk, ht.fi hF (fun q => n1 q.1.symm) (fun j q => n2 q.1.symm), by rw [mu_iv_oth _ _ (by omega), mu_iv_same]; rfl, Nat.zero_le _, hF⟩
theorem tkn_l0 {b : Nat → Int} {p : Nat} (h : tk_nd b p = 0) (hl : (b p = 98 ∨ b p = 111 ∨ b p = 36) ∨ b p = 33) : tkn b p = (-1, p + 1, b p, 1) := by unfold tkn; rw [if_pos h, if_pos hl]
theorem tkn_n0 {b : Nat → Int} {p : Nat} (h : tk_nd b p = 0) (hl : ¬ ((b p = 98 ∨ b p = 111 ∨ b p = 36) ∨ b p = 33)) : tkn b p = ((p : Int), p, 0, 0) := by unfold tkn; rw [if_pos h, if_neg hl]
theorem tkn_ld {b : Nat → Int} {p : Nat} (h0 : b p ≠ 48) (h1 : 1 ≤ tk_nd b p ∧ tk_nd b p ≤ 3) (hv : 2 ≤ tk_v b p (tk_nd b p)) (hl : b (p + tk_nd b p) = 98 ∨ b (p + tk_nd b p) = 111 ∨ b (p + tk_nd b p) = 36) : tkn b p = (-1, p + tk_nd b p + 1, b (p + tk_nd b p), tk_v b p (tk_nd b p)) := by
  unfold tkn
  rw [if_neg (by omega), if_neg h0, if_neg (by omega), if_neg (by omega), if_pos hl]
theorem tkn_nd {b : Nat → Int} {p : Nat} (h0 : b p ≠ 48) (h1 : 1 ≤ tk_nd b p ∧ tk_nd b p ≤ 3) (hv : 2 ≤ tk_v b p (tk_nd b p)) (hl : ¬ (b (p + tk_nd b p) = 98 ∨ b (p + tk_nd b p) = 111 ∨ b (p + tk_nd b p) = 36)) : tkn b p = (((p + tk_nd b p : Nat) : Int), p, 0, 0) := by
  unfold tkn
  rw [if_neg (by omega), if_neg h0, if_neg (by omega), if_neg (by omega), if_neg hl]
theorem tkn_let (b : Nat → Int) (p : Nat) : (tkn b p).2.2.1 = 0 ∨ (tkn b p).2.2.1 = 33 ∨ isL (tkn b p).2.2.1 := by
  unfold tkn isL
  (repeat' split) <;> (dsimp only; omega)
theorem sk_ge (b : Nat → Int) : ∀ f p, p ≤ skf b f p
  | 0, p => Nat.le_refl _
  | f + 1, p => by
    rw [skf]
    by_cases h : b p = 10 ∨ b p = 32
    · rw [if_pos h]; have := sk_ge b f (p + 1); omega
    · rw [if_neg h]; exact Nat.le_refl _
def nl_post (w0 : mu_W) (e t n : Nat) (tp : Nat → Nat) (w : mu_W) (p : Nat) (q : Int × Nat × Int × Nat) (r : Option Value) (w' : mu_W) : Prop := r = some (.int (mI q.2.2.1)) ∧ (∀ j, 3 ≤ j → mu_iv w' e j = mu_iv w e j) ∧ ∃ p', CRr w0 e t n tp w' p' ∧ (q.2.2.1 ≠ 0 → p' = q.2.1 ∧ mu_iv w' e 1 = mI q.2.2.2 ∧ mu_iv w' e 2 = mI (-1) ∧ p + 1 ≤ p' ∧ 1 ≤ q.2.2.2 ∧ q.2.2.2 < 1000) ∧ (q.2.2.1 = 0 → mu_iv w' e 2 = mI q.1)

set_option maxHeartbeats 4000000 in
set_option maxRecDepth 100000 in
theorem c_X6_nextLetter (G : mu_G) {w : mu_W} {w0 : mu_W} {e t n p : Nat} {tp : Nat → Nat} (h : CRr w0 e t n tp w p) (hf0 : mu_iv w e 2 = mI (-1)) : mu_Ct G M_X6_nextLetter [.ref e, .ref t] w (nl_post w0 e t n tp w p (tkn (tb n tp) (sk (tb n tp) p))) := by
  have ke := h.1
  have hn2 := h.2.1.2.2.2.1.1
  refine mu_ofWA G M_X6_nextLetter [.ref e, .ref t, mu_no, mu_no, mu_no] (by decide) rfl (Nat.le_of_ble_eq_true rfl) ?_
  intro X E
  have B : mu_B X G cX6_nextLetter RX6 5 (mu_rm M_X6_nextLetter) := E.1
  show mu_WA X G 5 _ _ 0 0 0 _ []
  refine mu_al_0 B dX6_nextLetter_0 ?_
  refine mu_al_1 B dX6_nextLetter_1 ?_
  refine mu_cV1 B dX6_nextLetter_2 mX6_22 ⟨⟨by decide, by decide⟩, by decide, by decide⟩ (Nat.le_of_ble_eq_true rfl) (by assumption) (c_X6_skipBlanks G h) (fun r2 w2 q2 => ?_)
  obtain ⟨rfl, h1, hiv1⟩ := q2
  have hge : p ≤ sk (tb n tp) p := sk_ge _ _ _
  generalize sk (tb n tp) p = p1 at h1 hge ⊢
  have ke1 := h1.1
  have hp1 := h1.2.2.2.1
  refine mu_al_0 B dX6_nextLetter_5 ?_
  refine mu_getI B dX6_nextLetter_6 fX6_26 rfl (by assumption) ?_
  rw [h1.2.2.1]
  refine mu_is_2 B dX6_nextLetter_9 (by decide) rfl ?_
  refine mu_al_0 B dX6_nextLetter_10 ?_
  refine mu_al_1 B dX6_nextLetter_11 ?_
  refine mu_cV1 B dX6_nextLetter_12 mX6_44 ⟨⟨by decide, by decide⟩, by decide, by decide⟩ (Nat.le_of_ble_eq_true rfl) (by assumption) (c_X6_takeCount G h1) (fun r12 w12 q12 => ?_)
  obtain ⟨rfl, hiv2, hor⟩ := q12
  rcases hor with ⟨hok, h2, hv, hf2⟩ | ⟨f, p2, hf, htk, h2, hf2⟩
  · have hp2 := h2.2.2.2.1
    have hbb := tb_bd h.2.1.2.2.2.1 (p1 + tk_nd (tb n tp) p1)
    have ke2 := h2.1
    have K37 : ∀ cn : Int, ((tk_nd (tb n tp) p1 = 0 ∧ cn = 0) ∨ (1 ≤ tk_nd (tb n tp) p1 ∧ cn = 1)) → mu_WA X G 5 (mu_Q X G M_X6_nextLetter (nl_post w0 e t n tp w p (tkn (tb n tp) p1))) w12 0 0 37 [.ref e, .ref t, .int (mI p1), mu_no, mu_no] [.int (mI cn)] := by
      intro cn hcn
      have K80 : ((tb n tp (p1 + tk_nd (tb n tp) p1) = 98 ∨ tb n tp (p1 + tk_nd (tb n tp) p1) = 111 ∨ tb n tp (p1 + tk_nd (tb n tp) p1) = 36) ∨ (tb n tp (p1 + tk_nd (tb n tp) p1) = 33 ∧ cn = 0)) → mu_WA X G 5 (mu_Q X G M_X6_nextLetter (nl_post w0 e t n tp w p (tkn (tb n tp) p1))) w12 0 0 80 [.ref e, .ref t, .int (mI p1), .int (mI cn), .int (mI (tb n tp (p1 + tk_nd (tb n tp) p1)))] [] := by
        intro hlet
        refine mu_al_0 B dX6_nextLetter_80 ?_
        refine mu_il_3 B dX6_nextLetter_81 ?_
        refine mu_if_eq (tgt := 92) B dX6_nextLetter_82 (by decide) (fun c82 => ?_) (fun c82 => ?_)
        · try rw [mI_eq0 ⟨by omega, by omega⟩] at c82
          have hnd0 : tk_nd (tb n tp) p1 = 0 := by omega
          refine mu_iconst (v := mI 1) B dX6_nextLetter_92 rfl ?_
          refine mu_putI B dX6_nextLetter_93 fX6_47 fwX6_1 rfl (by assumption) ?_
          refine mu_al_0 B dX6_nextLetter_96 ?_
          refine mu_dup B dX6_nextLetter_97 rfl ?_
          refine mu_getI B dX6_nextLetter_98 fX6_26 rfl (by assumption) ?_
          rw [mu_iv_oth _ _ (by omega), h2.2.2.1]
          refine mu_iconst (v := mI 1) B dX6_nextLetter_101 rfl ?_
          refine mu_iadd B dX6_nextLetter_102 ?_
          try rw [mI_add]
          try rw [mI_add]
          rw [show ((p1 + tk_nd (tb n tp) p1 : Nat) : Int) + 1 = ((p1 + tk_nd (tb n tp) p1 + 1 : Nat) : Int) by omega]
          refine mu_putI B dX6_nextLetter_103 fX6_26 fwX6_0 rfl (by assumption) ?_
          refine mu_il_4 B dX6_nextLetter_106 ?_
          refine mu_iret E rfl (by decide) (by decide) dX6_nextLetter_108 ?_
          have hin := tb_in (n := n) (tp := tp) (i := p1 + tk_nd (tb n tp) p1) (by omega)
          refine ⟨?_, fun j hj => (((mu_iv_oth _ _ (by omega)).trans (mu_iv_oth _ _ (by omega))).trans (hiv2 j hj)).trans (hiv1 j (by omega)), p1 + tk_nd (tb n tp) p1 + 1, (h2.si ⟨by decide, by decide⟩).at (by omega), fun _ => ?_, fun q9 => ?_⟩
          · first
              | (rw [tkn_l0 hnd0 (by rw [hnd0, Nat.add_zero] at hlet; omega), hnd0, Nat.add_zero]; done)
              | (rcases hok with hok | hok
                 · omega
                 · rw [tkn_ld hok.1 ⟨hok.2.1, hok.2.2.1⟩ hok.2.2.2.1 (by omega)])
          · first
              | (have e9 := tkn_l0 hnd0 (by rw [hnd0, Nat.add_zero] at hlet; omega)
                 rw [e9]
                 refine ⟨by show p1 + tk_nd (tb n tp) p1 + 1 = p1 + 1; omega, ?_, ?_, by omega, by show 1 ≤ 1; omega, by show 1 < 1000; omega⟩
                 · rw [mu_iv_oth _ _ (by omega), mu_iv_same]; rfl
                 · rw [mu_iv_oth _ _ (by omega), mu_iv_oth _ _ (by omega), hf2, hiv1 2 (by decide), hf0])
              | (rcases hok with hok | hok
                 · omega
                 · have e9 := tkn_ld hok.1 ⟨hok.2.1, hok.2.2.1⟩ hok.2.2.2.1 (by omega)
                   rw [e9]
                   refine ⟨rfl, ?_, ?_, by omega, by show 1 ≤ tk_v (tb n tp) p1 _; omega, hok.2.2.2.2⟩
                   · rw [mu_iv_oth _ _ (by omega), mu_iv_same]
                   · rw [mu_iv_oth _ _ (by omega), mu_iv_oth _ _ (by omega), hf2, hiv1 2 (by decide), hf0])
          · exfalso
            first
              | (rw [tkn_l0 hnd0 (by rw [hnd0, Nat.add_zero] at hlet; omega)] at q9
                 rw [hnd0, Nat.add_zero] at hlet
                 dsimp only at q9; omega)
              | (rcases hok with hok | hok
                 · omega
                 · rw [tkn_ld hok.1 ⟨hok.2.1, hok.2.2.1⟩ hok.2.2.2.1 (by omega)] at q9
                   dsimp only at q9; omega)
        · try rw [mI_eq0 ⟨by omega, by omega⟩] at c82
          have hnd1 : 1 ≤ tk_nd (tb n tp) p1 := by omega
          refine mu_al_0 B dX6_nextLetter_85 ?_
          refine mu_getI B dX6_nextLetter_86 fX6_47 rfl (by assumption) ?_
          rw [hv]
          refine mu_goto (tgt := 93) B dX6_nextLetter_89 (by decide) ?_
          refine mu_putI B dX6_nextLetter_93 fX6_47 fwX6_1 rfl (by assumption) ?_
          refine mu_al_0 B dX6_nextLetter_96 ?_
          refine mu_dup B dX6_nextLetter_97 rfl ?_
          refine mu_getI B dX6_nextLetter_98 fX6_26 rfl (by assumption) ?_
          rw [mu_iv_oth _ _ (by omega), h2.2.2.1]
          refine mu_iconst (v := mI 1) B dX6_nextLetter_101 rfl ?_
          refine mu_iadd B dX6_nextLetter_102 ?_
          try rw [mI_add]
          try rw [mI_add]
          rw [show ((p1 + tk_nd (tb n tp) p1 : Nat) : Int) + 1 = ((p1 + tk_nd (tb n tp) p1 + 1 : Nat) : Int) by omega]
          refine mu_putI B dX6_nextLetter_103 fX6_26 fwX6_0 rfl (by assumption) ?_
          refine mu_il_4 B dX6_nextLetter_106 ?_
          refine mu_iret E rfl (by decide) (by decide) dX6_nextLetter_108 ?_
          have hin := tb_in (n := n) (tp := tp) (i := p1 + tk_nd (tb n tp) p1) (by omega)
          refine ⟨?_, fun j hj => (((mu_iv_oth _ _ (by omega)).trans (mu_iv_oth _ _ (by omega))).trans (hiv2 j hj)).trans (hiv1 j (by omega)), p1 + tk_nd (tb n tp) p1 + 1, (h2.si ⟨by decide, by decide⟩).at (by omega), fun _ => ?_, fun q9 => ?_⟩
          · first
              | (rw [tkn_l0 hnd0 (by rw [hnd0, Nat.add_zero] at hlet; omega), hnd0, Nat.add_zero]; done)
              | (rcases hok with hok | hok
                 · omega
                 · rw [tkn_ld hok.1 ⟨hok.2.1, hok.2.2.1⟩ hok.2.2.2.1 (by omega)])
          · first
              | (have e9 := tkn_l0 hnd0 (by rw [hnd0, Nat.add_zero] at hlet; omega)
                 rw [e9]
                 refine ⟨by show p1 + tk_nd (tb n tp) p1 + 1 = p1 + 1; omega, ?_, ?_, by omega, by show 1 ≤ 1; omega, by show 1 < 1000; omega⟩
                 · rw [mu_iv_oth _ _ (by omega), mu_iv_same]; rfl
                 · rw [mu_iv_oth _ _ (by omega), mu_iv_oth _ _ (by omega), hf2, hiv1 2 (by decide), hf0])
              | (rcases hok with hok | hok
                 · omega
                 · have e9 := tkn_ld hok.1 ⟨hok.2.1, hok.2.2.1⟩ hok.2.2.2.1 (by omega)
                   rw [e9]
                   refine ⟨rfl, ?_, ?_, by omega, by show 1 ≤ tk_v (tb n tp) p1 _; omega, hok.2.2.2.2⟩
                   · rw [mu_iv_oth _ _ (by omega), mu_iv_same]
                   · rw [mu_iv_oth _ _ (by omega), mu_iv_oth _ _ (by omega), hf2, hiv1 2 (by decide), hf0])
          · exfalso
            first
              | (rw [tkn_l0 hnd0 (by rw [hnd0, Nat.add_zero] at hlet; omega)] at q9
                 rw [hnd0, Nat.add_zero] at hlet
                 dsimp only at q9; omega)
              | (rcases hok with hok | hok
                 · omega
                 · rw [tkn_ld hok.1 ⟨hok.2.1, hok.2.2.1⟩ hok.2.2.2.1 (by omega)] at q9
                   dsimp only at q9; omega)
      have K109 : ¬ ((tb n tp (p1 + tk_nd (tb n tp) p1) = 98 ∨ tb n tp (p1 + tk_nd (tb n tp) p1) = 111 ∨ tb n tp (p1 + tk_nd (tb n tp) p1) = 36) ∨ (tb n tp (p1 + tk_nd (tb n tp) p1) = 33 ∧ cn = 0)) → mu_WA X G 5 (mu_Q X G M_X6_nextLetter (nl_post w0 e t n tp w p (tkn (tb n tp) p1))) w12 0 0 109 [.ref e, .ref t, .int (mI p1), .int (mI cn), .int (mI (tb n tp (p1 + tk_nd (tb n tp) p1)))] [] := by
        intro hlet
        refine mu_al_0 B dX6_nextLetter_109 ?_
        refine mu_al_0 B dX6_nextLetter_110 ?_
        refine mu_getI B dX6_nextLetter_111 fX6_26 rfl (by assumption) ?_
        rw [h2.2.2.1]
        refine mu_putI B dX6_nextLetter_114 fX6_34 fwX6_2 rfl (by assumption) ?_
        refine mu_iconst (v := mI 0) B dX6_nextLetter_117 rfl ?_
        refine mu_iret E rfl (by decide) (by decide) dX6_nextLetter_118 ?_
        have e9 : tkn (tb n tp) p1 = (((p1 + tk_nd (tb n tp) p1 : Nat) : Int), p1, 0, 0) := by
          rcases hok with hok | hok
          · have hl2 := hlet
            rw [hok, Nat.add_zero] at hl2
            rw [tkn_n0 hok (by omega), hok, Nat.add_zero]
          · exact tkn_nd hok.1 ⟨hok.2.1, hok.2.2.1⟩ hok.2.2.2.1 (by omega)
        rw [e9]
        exact ⟨rfl, fun j hj => ((mu_iv_oth _ _ (by omega)).trans (hiv2 j hj)).trans (hiv1 j (by omega)), _, h2.si ⟨by decide, by decide⟩, fun q9 => absurd rfl q9, fun _ => mu_iv_same _ _ _ _⟩
      refine mu_is_3 B dX6_nextLetter_37 (by decide) rfl ?_
      refine mu_al_1 B dX6_nextLetter_38 ?_
      refine mu_al_0 B dX6_nextLetter_39 ?_
      refine mu_getI B dX6_nextLetter_40 fX6_26 rfl (by assumption) ?_
      rw [h2.2.2.1]
      refine mu_eV1 B dX6_nextLetter_43 mX6_37 ⟨⟨by decide, by decide⟩, by decide, by decide⟩ (Nat.le_of_ble_eq_true rfl) h2.2.1.1 (c_X10_byteAt G h2.2.1 (i := p1 + tk_nd (tb n tp) p1) (by omega)) ?_
      refine mu_is_4 B dX6_nextLetter_46 (by decide) rfl ?_
      refine mu_il_4 B dX6_nextLetter_48 ?_
      refine mu_bipush (v := mI 98) B dX6_nextLetter_50 (by decide) ?_
      refine mu_icmp_eq (tgt := 80) B dX6_nextLetter_52 (by decide) (fun c52 => ?_) (fun c52 => ?_)
      · try rw [mI_eq ⟨by omega, by omega⟩ ⟨by omega, by omega⟩] at c52
        exact K80 (by omega)
      · try rw [mI_eq ⟨by omega, by omega⟩ ⟨by omega, by omega⟩] at c52
        refine mu_il_4 B dX6_nextLetter_55 ?_
        refine mu_bipush (v := mI 111) B dX6_nextLetter_57 (by decide) ?_
        refine mu_icmp_eq (tgt := 80) B dX6_nextLetter_59 (by decide) (fun c59 => ?_) (fun c59 => ?_)
        · try rw [mI_eq ⟨by omega, by omega⟩ ⟨by omega, by omega⟩] at c59
          exact K80 (by omega)
        · try rw [mI_eq ⟨by omega, by omega⟩ ⟨by omega, by omega⟩] at c59
          refine mu_il_4 B dX6_nextLetter_62 ?_
          refine mu_bipush (v := mI 36) B dX6_nextLetter_64 (by decide) ?_
          refine mu_icmp_eq (tgt := 80) B dX6_nextLetter_66 (by decide) (fun c66 => ?_) (fun c66 => ?_)
          · try rw [mI_eq ⟨by omega, by omega⟩ ⟨by omega, by omega⟩] at c66
            exact K80 (by omega)
          · try rw [mI_eq ⟨by omega, by omega⟩ ⟨by omega, by omega⟩] at c66
            refine mu_il_4 B dX6_nextLetter_69 ?_
            refine mu_bipush (v := mI 33) B dX6_nextLetter_71 (by decide) ?_
            refine mu_icmp_ne (tgt := 109) B dX6_nextLetter_73 (by decide) (fun c73 => ?_) (fun c73 => ?_)
            · try rw [mI_eq ⟨by omega, by omega⟩ ⟨by omega, by omega⟩] at c73
              exact K109 (by omega)
            · try rw [mI_eq ⟨by omega, by omega⟩ ⟨by omega, by omega⟩] at c73
              refine mu_il_3 B dX6_nextLetter_76 ?_
              refine mu_if_ne (tgt := 109) B dX6_nextLetter_77 (by decide) (fun c77 => ?_) (fun c77 => ?_)
              · try rw [mI_eq0 ⟨by omega, by omega⟩] at c77
                exact K109 (by omega)
              · try rw [mI_eq0 ⟨by omega, by omega⟩] at c77
                exact K80 (by omega)
    refine mu_al_0 B dX6_nextLetter_15 ?_
    refine mu_getI B dX6_nextLetter_16 fX6_34 rfl (by assumption) ?_
    rw [hf2, hiv1 2 (by decide), hf0]
    refine mu_if_lt (tgt := 24) B dX6_nextLetter_19 (by decide) (fun c19 => ?_) (fun c19 => ?_)
    · refine mu_al_0 B dX6_nextLetter_24 ?_
      refine mu_getI B dX6_nextLetter_25 fX6_26 rfl (by assumption) ?_
      rw [h2.2.2.1]
      refine mu_il_2 B dX6_nextLetter_28 ?_
      refine mu_icmp_le (tgt := 36) B dX6_nextLetter_29 (by decide) (fun c29 => ?_) (fun c29 => ?_)
      · try rw [mI_le ⟨by omega, by omega⟩ ⟨by omega, by omega⟩] at c29
        refine mu_iconst (v := mI 0) B dX6_nextLetter_36 rfl ?_
        exact K37 _ (by omega)
      · try rw [mI_le ⟨by omega, by omega⟩ ⟨by omega, by omega⟩] at c29
        refine mu_iconst (v := mI 1) B dX6_nextLetter_32 rfl ?_
        refine mu_goto (tgt := 37) B dX6_nextLetter_33 (by decide) ?_
        exact K37 _ (by omega)
    · exact absurd (by decide : mI (-1) < 0) c19
  · have ke2 := h2.1
    refine mu_al_0 B dX6_nextLetter_15 ?_
    refine mu_getI B dX6_nextLetter_16 fX6_34 rfl (by assumption) ?_
    rw [hf2]
    refine mu_if_lt (tgt := 24) B dX6_nextLetter_19 (by decide) (fun c19 => ?_) (fun c19 => ?_)
    · try rw [mI_lt0 ⟨by omega, by omega⟩] at c19
      exfalso
      omega
    · try rw [mI_lt0 ⟨by omega, by omega⟩] at c19
      refine mu_iconst (v := mI 0) B dX6_nextLetter_22 rfl ?_
      refine mu_iret E rfl (by decide) (by decide) dX6_nextLetter_23 ?_
      rw [htk]
      exact ⟨rfl, fun j hj => (hiv2 j hj).trans (hiv1 j (by omega)), p2, h2, fun q9 => absurd rfl q9, fun _ => hf2⟩

/-- the reader stands behind letter k -/
def NLs (w0 : mu_W) (e t n : Nat) (tp : Nat → Nat) (k : Nat) (s : mu_W) : Prop := ∃ p', CRr w0 e t n tp s p' ∧ ((tq (tb n tp) k).2.2.1 ≠ 0 → p' = ps (tb n tp) (k + 1) ∧ mu_iv s e 1 = mI (tq (tb n tp) k).2.2.2 ∧ mu_iv s e 2 = mI (-1) ∧ k + 1 ≤ p' ∧ 1 ≤ (tq (tb n tp) k).2.2.2 ∧ (tq (tb n tp) k).2.2.2 < 1000) ∧ ((tq (tb n tp) k).2.2.1 = 0 → mu_iv s e 2 = mI (tq (tb n tp) k).1) ∧ ∀ j, j < k → isL (tq (tb n tp) j).2.2.1 ∧ (tq (tb n tp) j).2.2.2 < 1000
theorem isL_ne {c : Int} (h : isL c) : c ≠ 0 ∧ c ≠ 33 ∧ 0 < c ∧ c < 256 := by unfold isL at h; omega
theorem tq_let (b : Nat → Int) (k : Nat) : (tq b k).2.2.1 = 0 ∨ (tq b k).2.2.1 = 33 ∨ isL (tq b k).2.2.1 := tkn_let b _
theorem tq_go {b : Nat → Int} {k : Nat} : (0 < (tq b k).2.2.1 ∧ (tq b k).2.2.1 ≠ 33) ↔ isL (tq b k).2.2.1 := by
  constructor
  · rintro ⟨h1, h2⟩
    rcases tq_let b k with h | h | h
    · omega
    · exact absurd h h2
    · exact h
  · intro h
    have := isL_ne h
    exact ⟨this.2.2.1, this.2.1⟩
theorem tq_bd (b : Nat → Int) (k : Nat) : 0 ≤ (tq b k).2.2.1 ∧ (tq b k).2.2.1 < 256 := by
  rcases tq_let b k with h | h | h
  · omega
  · omega
  · have := isL_ne h; omega
theorem NLs.end {w0 : mu_W} {e t n : Nat} {tp : Nat → Nat} {k : Nat} {s : mu_W} (h : NLs w0 e t n tp k s) (hk : 2000 ≤ k) : ¬ isL (tq (tb n tp) k).2.2.1 := fun q => by
  obtain ⟨p', h1, h2, _⟩ := h
  have := h2 (isL_ne q).1
  have := h1.2.2.2.1
  have := h1.2.1.2.2.2.1.1
  omega
theorem NLs.si {w0 : mu_W} {e t n : Nat} {tp : Nat → Nat} {k : Nat} {s : mu_W} (h : NLs w0 e t n tp k s) {j : Nat} {x : Int32} (hj : 3 ≤ j ∧ j < 5) : NLs w0 e t n tp k (mu_si s e j x) := by
  obtain ⟨p', h1, h2, h3, h4⟩ := h
  refine ⟨p', h1.si ⟨by omega, hj.2⟩, fun q => ?_, fun q => ?_, h4⟩
  · rw [mu_iv_oth _ _ (by omega), mu_iv_oth _ _ (by omega)]; exact h2 q
  · rw [mu_iv_oth _ _ (by omega)]; exact h3 q
theorem c_X6_first (G : mu_G) {w0 w : mu_W} {e t n : Nat} {tp : Nat → Nat} (h : CRr w0 e t n tp w 0) (hf0 : mu_iv w e 2 = mI (-1)) : mu_Ct G M_X6_nextLetter [.ref e, .ref t] w (fun r w' => r = some (.int (mI (tq (tb n tp) 0).2.2.1)) ∧ (∀ j, 3 ≤ j → mu_iv w' e j = mu_iv w e j) ∧ NLs w0 e t n tp 0 w') := by
  refine (c_X6_nextLetter G h hf0).mono (fun r w' hh => ?_)
  obtain ⟨h1, h2, p', h3, h4, h5⟩ := hh
  exact ⟨h1, h2, p', h3, fun q => by have h6 := h4 q; exact ⟨h6.1, h6.2.1, h6.2.2.1, by omega, h6.2.2.2.2⟩, h5, fun j hj => absurd hj (Nat.not_lt_zero j)⟩
theorem c_X6_next (G : mu_G) {w0 w : mu_W} {e t n : Nat} {tp : Nat → Nat} {k : Nat} (h : NLs w0 e t n tp k w) (hL : isL (tq (tb n tp) k).2.2.1) : mu_Ct G M_X6_nextLetter [.ref e, .ref t] w (fun r w' => r = some (.int (mI (tq (tb n tp) (k + 1)).2.2.1)) ∧ (∀ j, 3 ≤ j → mu_iv w' e j = mu_iv w e j) ∧ NLs w0 e t n tp (k + 1) w') := by
  obtain ⟨p, g1, g2, g3, g4⟩ := h
  obtain ⟨e1, e2, e3, e4, e5, e6⟩ := g2 (isL_ne hL).1
  refine (c_X6_nextLetter G g1 e3).mono (fun r w' hh => ?_)
  rw [e1] at hh
  obtain ⟨h1, h2, p', h3, h4, h5⟩ := hh
  refine ⟨h1, h2, p', h3, fun q => by have h6 := h4 q; exact ⟨h6.1, h6.2.1, h6.2.2.1, by omega, h6.2.2.2.2⟩, h5, fun j hj => ?_⟩
  by_cases q : j = k
  · rw [q]; exact ⟨hL, e6⟩
  · exact g4 j (by omega)
def fo6_post (w : mu_W) (e t n : Nat) (tp : Nat → Nat) (r : Option Value) (w' : mu_W) : Prop := mu_Fi (rt_S e) w w' ∧ ∃ K, K ≤ 2000 ∧ RT (tb n tp) K ∧ (∀ k, k < K → (tq (tb n tp) k).2.2.2 < 1000) ∧ r = some (.int (mI (rt_f (tb n tp) n K)))

set_option maxHeartbeats 4000000 in
set_option maxRecDepth 100000 in
theorem c_X6_faultOf (G : mu_G) {w : mu_W} {t n : Nat} {tp : Nat → Nat} (ht : CT w t n tp) {e : Nat} (hke : mu_kd w e = some (6, 0)) : mu_Ct G M_X6_faultOf [.ref e, .ref t] w (fo6_post w e t n tp) := by
  have hn2 := ht.2.2.2.1.1
  refine mu_ofWA G M_X6_faultOf [.ref e, .ref t, mu_no, mu_no] (by decide) rfl (Nat.le_of_ble_eq_true rfl) ?_
  intro X E
  have B : mu_B X G cX6_faultOf RX6 4 (mu_rm M_X6_faultOf) := E.1
  have K38 : ∀ (k : Nat) (s : mu_W), k ≤ 2000 → NLs w e t n tp k s → ¬ isL (tq (tb n tp) k).2.2.1 → mu_WA X G 4 (mu_Q X G M_X6_faultOf (fo6_post w e t n tp)) s 0 0 38 [.ref e, .ref t, .int (mI (tq (tb n tp) k).2.2.1), .int (mI k)] [] := by
    intro k s hk ⟨p9, g1, g2, g3, g4⟩ hnl
    have kes := g1.1
    have hpn := g1.2.2.2.1
    have hbq := tq_bd (tb n tp) k
    refine mu_il_2 B dX6_faultOf_38 ?_
    refine mu_bipush (v := mI 33) B dX6_faultOf_39 (by decide) ?_
    refine mu_icmp_ne (tgt := 72) B dX6_faultOf_41 (by decide) (fun c41 => ?_) (fun c41 => ?_)
    · try rw [mI_eq ⟨by omega, by omega⟩ ⟨by omega, by omega⟩] at c41
      refine mu_al_0 B dX6_faultOf_72 ?_
      refine mu_getI B dX6_faultOf_73 fX6_34 rfl (by assumption) ?_
      first
        | rw [mu_iv_same]
        | rw [g3 (by rcases tq_let (tb n tp) k with q | q | q; exact q; exact absurd q (by omega); exact absurd q hnl)]
      refine mu_iret E rfl (by decide) (by decide) dX6_faultOf_76 ?_
      first
        | refine ⟨h5.2.2.2.2.si ⟨rfl, by decide⟩, k, by omega, ⟨fun j hj => (g4 j hj).1, hnl⟩, fun j hj => (g4 j hj).2, ?_⟩
          unfold rt_f
          rw [if_pos (by omega)]
          first
            | rw [if_pos (by omega)]
            | rw [if_neg (by omega)]
        | refine ⟨g1.2.2.2.2, k, by omega, ⟨fun j hj => (g4 j hj).1, hnl⟩, fun j hj => (g4 j hj).2, ?_⟩
          unfold rt_f
          rw [if_neg (by omega)]
    · try rw [mI_eq ⟨by omega, by omega⟩ ⟨by omega, by omega⟩] at c41
      obtain ⟨e1, e2, e3, e4⟩ := g2 (by omega)
      subst e1
      refine mu_al_0 B dX6_faultOf_44 ?_
      refine mu_al_1 B dX6_faultOf_45 ?_
      refine mu_cV1 B dX6_faultOf_46 mX6_22 ⟨⟨by decide, by decide⟩, by decide, by decide⟩ (Nat.le_of_ble_eq_true rfl) (by assumption) (c_X6_skipBlanks G g1) (fun r46 w46 q46 => ?_)
      obtain ⟨rfl, h5, hiv5⟩ := q46
      have ke5 := h5.1
      have hp5 := h5.2.2.2.1
      refine mu_al_0 B dX6_faultOf_49 ?_
      refine mu_al_0 B dX6_faultOf_50 ?_
      refine mu_getI B dX6_faultOf_51 fX6_26 rfl (by assumption) ?_
      rw [h5.2.2.1]
      refine mu_al_1 B dX6_faultOf_54 ?_
      refine mu_eV0 B dX6_faultOf_55 mX6_30 ⟨⟨by decide, by decide⟩, by decide, by decide⟩ (Nat.le_of_ble_eq_true rfl) h5.2.1.1 (c_X10_size G h5.2.1) ?_
      refine mu_icmp_ge (tgt := 68) B dX6_faultOf_58 (by decide) (fun c58 => ?_) (fun c58 => ?_)
      · try rw [mI_le ⟨by omega, by omega⟩ ⟨by omega, by omega⟩] at c58
        refine mu_iconst (v := mI (-1)) B dX6_faultOf_68 rfl ?_
        refine mu_putI B dX6_faultOf_69 fX6_34 fwX6_2 rfl (by assumption) ?_
        refine mu_al_0 B dX6_faultOf_72 ?_
        refine mu_getI B dX6_faultOf_73 fX6_34 rfl (by assumption) ?_
        first
          | rw [mu_iv_same]
          | rw [g3 (by rcases tq_let (tb n tp) k with q | q | q; exact q; exact absurd q (by omega); exact absurd q hnl)]
        refine mu_iret E rfl (by decide) (by decide) dX6_faultOf_76 ?_
        first
          | refine ⟨h5.2.2.2.2.si ⟨rfl, by decide⟩, k, by omega, ⟨fun j hj => (g4 j hj).1, hnl⟩, fun j hj => (g4 j hj).2, ?_⟩
            unfold rt_f
            rw [if_pos (by omega)]
            first
              | rw [if_pos (by omega)]
              | rw [if_neg (by omega)]
          | refine ⟨g1.2.2.2.2, k, by omega, ⟨fun j hj => (g4 j hj).1, hnl⟩, fun j hj => (g4 j hj).2, ?_⟩
            unfold rt_f
            rw [if_neg (by omega)]
      · try rw [mI_le ⟨by omega, by omega⟩ ⟨by omega, by omega⟩] at c58
        refine mu_al_0 B dX6_faultOf_61 ?_
        refine mu_getI B dX6_faultOf_62 fX6_26 rfl (by assumption) ?_
        rw [h5.2.2.1]
        refine mu_goto (tgt := 69) B dX6_faultOf_65 (by decide) ?_
        refine mu_putI B dX6_faultOf_69 fX6_34 fwX6_2 rfl (by assumption) ?_
        refine mu_al_0 B dX6_faultOf_72 ?_
        refine mu_getI B dX6_faultOf_73 fX6_34 rfl (by assumption) ?_
        first
          | rw [mu_iv_same]
          | rw [g3 (by rcases tq_let (tb n tp) k with q | q | q; exact q; exact absurd q (by omega); exact absurd q hnl)]
        refine mu_iret E rfl (by decide) (by decide) dX6_faultOf_76 ?_
        first
          | refine ⟨h5.2.2.2.2.si ⟨rfl, by decide⟩, k, by omega, ⟨fun j hj => (g4 j hj).1, hnl⟩, fun j hj => (g4 j hj).2, ?_⟩
            unfold rt_f
            rw [if_pos (by omega)]
            first
              | rw [if_pos (by omega)]
              | rw [if_neg (by omega)]
          | refine ⟨g1.2.2.2.2, k, by omega, ⟨fun j hj => (g4 j hj).1, hnl⟩, fun j hj => (g4 j hj).2, ?_⟩
            unfold rt_f
            rw [if_neg (by omega)]
  have LF : ∀ k (s : mu_W), k ≤ (2000 : Nat) → (NLs w e t n tp k s) → mu_WA X G 4 (mu_Q X G M_X6_faultOf (fo6_post w e t n tp)) s 0 0 12 [.ref e, .ref t, .int (mI (tq (tb n tp) k).2.2.1), .int (mI k)] [] := by
    refine mu_ind ((2000 : Nat)) (fun k (s : mu_W) => mu_WA X G 4 (mu_Q X G M_X6_faultOf (fo6_post w e t n tp)) s 0 0 12 [.ref e, .ref t, .int (mI (tq (tb n tp) k).2.2.1), .int (mI k)] []) (fun k (s : mu_W) => NLs w e t n tp k s) ?_
    intro k s hk hN ih
    have kes : mu_kd s e = some (6, 0) := by obtain ⟨_, g1, _⟩ := hN; exact g1.1
    have hbq := tq_bd (tb n tp) k
    refine mu_il_3 B dX6_faultOf_12 ?_
    refine mu_sipush (v := mI 2000) B dX6_faultOf_13 (by decide) ?_
    refine mu_icmp_ge (tgt := 38) B dX6_faultOf_16 (by decide) (fun c16 => ?_) (fun c16 => ?_)
    · try rw [mI_le ⟨by omega, by omega⟩ ⟨by omega, by omega⟩] at c16
      try rw [mI_le ⟨by omega, by omega⟩ ⟨by omega, by omega⟩] at c16
      exact K38 k s hk hN (hN.end (by omega))
    · try rw [mI_le ⟨by omega, by omega⟩ ⟨by omega, by omega⟩] at c16
      refine mu_il_2 B dX6_faultOf_19 ?_
      refine mu_eS1 B dX6_faultOf_20 mX6_18 ⟨⟨by decide, by decide⟩, by decide, by decide⟩ (Nat.le_of_ble_eq_true rfl) (c_X6_goesOn G (z := (tq (tb n tp) k).2.2.1) ⟨by omega, by omega⟩) ?_
      refine mu_if_eq (tgt := 38) B dX6_faultOf_23 (by decide) (fun c23 => ?_) (fun c23 => ?_)
      · have z23 := mu_bf c23
        exact K38 k s hk hN (fun q => z23 (tq_go.mpr q))
      · have z23 := mu_bt c23
        refine mu_al_0 B dX6_faultOf_26 ?_
        refine mu_al_1 B dX6_faultOf_27 ?_
        refine mu_cV1 B dX6_faultOf_28 mX6_12 ⟨⟨by decide, by decide⟩, by decide, by decide⟩ (Nat.le_of_ble_eq_true rfl) kes (c_X6_next G hN (tq_go.mp z23)) (fun r28 w28 q28 => ?_)
        obtain ⟨rfl, hiv9, hN9⟩ := q28
        refine mu_is_2 B dX6_faultOf_31 (by decide) rfl ?_
        refine mu_inc_3 (c := mI 1) B dX6_faultOf_32 rfl (by decide) rfl ?_
        try rw [mI_add]
        refine mu_goto (tgt := 12) B dX6_faultOf_35 (by decide) ?_
        exact mu_to (ih _ (by omega) hN9) rfl (by rw [show ((k + 1 : Nat) : Int) = (k : Int) + 1 by omega])
  show mu_WA X G 4 _ _ 0 0 0 _ []
  refine mu_al_0 B dX6_faultOf_0 ?_
  refine mu_cV0 B dX6_faultOf_1 mX6_7 ⟨⟨by decide, by decide⟩, by decide, by decide⟩ (Nat.le_of_ble_eq_true rfl) (by assumption) (c_X6_restart G hke) (fun r1 w1 q1 => ?_)
  obtain ⟨rfl, rfl⟩ := q1
  have h0 := CRr.start hke ht
  have ke0 := h0.1
  refine mu_al_0 B dX6_faultOf_4 ?_
  refine mu_al_1 B dX6_faultOf_5 ?_
  refine mu_cV1 B dX6_faultOf_6 mX6_12 ⟨⟨by decide, by decide⟩, by decide, by decide⟩ (Nat.le_of_ble_eq_true rfl) (by assumption) (c_X6_first G h0 (mu_iv_same _ _ _ _)) (fun r6 w6 q6 => ?_)
  obtain ⟨rfl, hiv9, hN9⟩ := q6
  refine mu_is_2 B dX6_faultOf_9 (by decide) rfl ?_
  refine mu_iconst (v := mI 0) B dX6_faultOf_10 rfl ?_
  refine mu_is_3 B dX6_faultOf_11 (by decide) rfl ?_
  exact LF 0 w6 (Nat.zero_le _) hN9
