/-! ===== the class's searches: patterns explored ===== -/
theorem bit_and {s n : Nat} (hs : s ≤ 1000000) (hn : n < 31) : (mI (s : Int) >>> (mI (n : Int) &&& 31)) &&& mI 1 = 0 ↔ s.testBit n = false := by
  rw [mI_shr _ ⟨by omega, by omega⟩ n (by omega), mI_and _ (m := mI 1) 1 (by decide) (by decide)]
  have e : (s : Int) / 2 ^ n % 2 ^ 1 = ((s / 2 ^ n % 2 : Nat) : Int) := by
    rw [Int.natCast_emod, Int.natCast_ediv, Int.natCast_pow]; rfl
  rw [e, show (0 : Int32) = mI 0 from rfl, mI_eq ⟨by omega, by omega⟩ ⟨by omega, by omega⟩, Nat.testBit_eq_decide_div_mod_eq]
  constructor
  · exact fun h => decide_eq_false (by omega)
  · exact fun h => by have := of_decide_eq_false h; omega
theorem nxt_gt (p v : Nat) : p < (p / 2 ^ v + 1) * 2 ^ v := by
  have h1 := Nat.div_add_mod p (2 ^ v)
  have h2 := Nat.mod_lt p (Nat.two_pow_pos v)
  rw [Nat.mul_comm] at h1
  rw [Nat.add_mul, Nat.one_mul]
  omega
theorem nxt_le {p v bits : Nat} (hp : p < 2 ^ bits) (hv : v ≤ bits) : (p / 2 ^ v + 1) * 2 ^ v ≤ 2 ^ bits := by
  have e : 2 ^ bits = 2 ^ (bits - v) * 2 ^ v := by rw [← Nat.pow_add, show bits - v + v = bits by omega]
  rw [e] at hp ⊢
  apply Nat.mul_le_mul_right
  exact (Nat.div_lt_iff_lt_mul (Nat.two_pow_pos v)).mpr hp
def ex_P (bo st Kc : Nat) (c : mu_CL) (bits q : Nat) : Nat → Prop := fun x => x < q ∧ okP bo st Kc c bits x
def ex_post (w : mu_W) (a bits bo st Kc : Nat) (c : mu_CL) (most : Nat) (r : Option Value) (w' : mu_W) : Prop := r = none ∧ mu_Fi (hS a) w w' ∧ ∃ q, q ≤ 2 ^ bits ∧ CHt w' a (ex_P bo st Kc c bits q) ∧ (q = 2 ^ bits ∨ most ≤ en_c (ex_P bo st Kc c bits q) 65536)
theorem pow_16 {bits : Nat} (h : bits ≤ 16) : 2 ^ bits ≤ 65536 := Nat.pow_le_pow_right (n := 2) (by decide) h

set_option maxHeartbeats 4000000 in
set_option maxRecDepth 100000 in
theorem c_X7_explore (G : mu_G) {w : mu_W} {a : Nat} (ho : CSo w a) {Kc bits bo st : Nat} {c : mu_CL} (hd : CSd w a Kc bits bo st c) (hcb : CLb Kc bits c) (hbo : bo ≤ 1000000) (hst : st ≤ 1000000) {sb od : Nat → Nat} (hs : CSs w a Kc bits c sb od) {most : Nat} (hmo : most ≤ 1000000) : mu_Ct G M_X7_explore [.ref a, .int (mI most)] w (ex_post w a bits bo st Kc c most) := by
  obtain ⟨ka, ⟨r0, k1⟩, ⟨r1, k2⟩, ⟨r2, k3⟩, ⟨r4, k4⟩, ⟨r5, k5⟩, ⟨r9, k6⟩, ⟨r10, k7⟩⟩ := id ho
  have hcb2 := hcb.2.1
  have h65 := pow_16 hcb2.2
  refine mu_ofWA G M_X7_explore [.ref a, .int (mI most), mu_no, mu_no, mu_no, mu_no, mu_no] (by decide) rfl (Nat.le_of_ble_eq_true rfl) ?_
  intro X E
  have B : mu_B X G cX7_explore RX7 7 (mu_rm M_X7_explore) := E.1
  have LE9 : ∀ q : mu_W × Nat × Nat, (q.2.1 ≤ 2 ^ bits ∧ q.2.2 < bits ∧ mu_Fi (hS a) w q.1 ∧ CHt q.1 a (ex_P bo st Kc c bits q.2.1) ∧ (q.2.1 < 2 ^ bits → ∀ b, q.2.2 < b → b < bits → agB bo st Kc c b q.2.1)) → mu_WA X G 7 (mu_Q X G M_X7_explore (ex_post w a bits bo st Kc c most)) q.1 0 0 21 [.ref a, .int (mI most), .int (mI ((2 ^ bits : Nat) : Int)), .int (mI (q.2.1 : Nat)), .int (mI (q.2.2 : Nat)), mu_no, mu_no] [] := by
    refine mu_wf (fun q : mu_W × Nat × Nat => 2 ^ bits - q.2.1) (fun q => mu_WA X G 7 (mu_Q X G M_X7_explore (ex_post w a bits bo st Kc c most)) q.1 0 0 21 [.ref a, .int (mI most), .int (mI ((2 ^ bits : Nat) : Int)), .int (mI (q.2.1 : Nat)), .int (mI (q.2.2 : Nat)), mu_no, mu_no] []) (fun q => (q.2.1 ≤ 2 ^ bits ∧ q.2.2 < bits ∧ mu_Fi (hS a) w q.1 ∧ CHt q.1 a (ex_P bo st Kc c bits q.2.1) ∧ (q.2.1 < 2 ^ bits → ∀ b, q.2.2 < b → b < bits → agB bo st Kc c b q.2.1))) ?_
    intro ⟨s, p, ch⟩ ⟨hp, hch, hF, hH, hag9⟩ ih
    dsimp only at hp hch hF hH hag9 ih ⊢
    have hos := ho.fi hF
    have kas := hos.1
    have hds := hd.fi hF (fun j _ hh => by rcases hh with hh | hh <;> omega) (fun e j _ _ hh => by rcases hh with hh | hh <;> omega)
    have hss := hs.fi hF (fun j hh => by rcases hh with hh | hh <;> omega) (fun j hh => by rcases hh with hh | hh <;> omega)
    have hel := en_le (ex_P bo st Kc c bits p) 65536
    refine mu_il_3 B dX7_explore_21 ?_
    refine mu_il_2 B dX7_explore_22 ?_
    refine mu_icmp_ge (tgt := 119) B dX7_explore_23 (by decide) (fun c23 => ?_) (fun c23 => ?_)
    · try rw [mI_le ⟨by omega, by omega⟩ ⟨by omega, by omega⟩] at c23
      try rw [mI_le ⟨by omega, by omega⟩ ⟨by omega, by omega⟩] at c23
      refine mu_vret E rfl (by decide) (by decide) dX7_explore_119 ?_
      exact ⟨rfl, hF, p, hp, hH, Or.inl (by omega)⟩
    · try rw [mI_le ⟨by omega, by omega⟩ ⟨by omega, by omega⟩] at c23
      have hp9 : p < 2 ^ bits := by omega
      refine mu_al_0 B dX7_explore_26 ?_
      refine mu_getI B dX7_explore_27 fX7_46 rfl (by assumption) ?_
      rw [hH.2]
      refine mu_il_1 B dX7_explore_30 ?_
      refine mu_icmp_ge (tgt := 119) B dX7_explore_31 (by decide) (fun c31 => ?_) (fun c31 => ?_)
      · try rw [mI_le ⟨by omega, by omega⟩ ⟨by omega, by omega⟩] at c31
        try rw [mI_le ⟨by omega, by omega⟩ ⟨by omega, by omega⟩] at c31
        refine mu_vret E rfl (by decide) (by decide) dX7_explore_119 ?_
        exact ⟨rfl, hF, p, hp, hH, Or.inr (by omega)⟩
      · try rw [mI_le ⟨by omega, by omega⟩ ⟨by omega, by omega⟩] at c31
        have K72 : ∀ (s2 : mu_W) (v : Nat), v < bits → mu_Fi (hS a) w s2 → CHt s2 a (ex_P bo st Kc c bits ((p / 2 ^ v + 1) * 2 ^ v)) → (∀ b, v < b → b < bits → agB bo st Kc c b p) → mu_WA X G 7 (mu_Q X G M_X7_explore (ex_post w a bits bo st Kc c most)) s2 0 0 72 [.ref a, .int (mI most), .int (mI ((2 ^ bits : Nat) : Int)), .int (mI p), .int (mI ch), .int (mI (v : Nat)), mu_no] [] := by
          intro s2 v hv hF2 hH2 hag
          have ka2 := hF2.kd ka
          have hd2 := hd.fi hF2 (fun j _ hh => by rcases hh with hh | hh <;> omega) (fun e j _ _ hh => by rcases hh with hh | hh <;> omega)
          have K113 : ∀ c2 : Nat, v ≤ c2 → c2 < bits → (∀ i, v ≤ i → i < c2 → p.testBit i = true) → (c2 = bits - 1 ∨ p.testBit c2 = false) → mu_WA X G 7 (mu_Q X G M_X7_explore (ex_post w a bits bo st Kc c most)) s2 0 0 113 [.ref a, .int (mI most), .int (mI ((2 ^ bits : Nat) : Int)), .int (mI p), .int (mI c2), .int (mI v), .int (mI ((((p / 2 ^ v + 1) * 2 ^ v) : Nat) : Int))] [] := by
            intro c2 hc1 hc2 hones hstop
            refine mu_il_6 B dX7_explore_113 ?_
            refine mu_is_3 B dX7_explore_115 (by decide) rfl ?_
            refine mu_goto (tgt := 21) B dX7_explore_116 (by decide) ?_
            have hnl := nxt_le (v := v) hp9 (by omega)
            have hng := nxt_gt p v
            refine mu_fg (ih (s2, ((p / 2 ^ v + 1) * 2 ^ v), c2) ⟨hnl, hc2, hF2, hH2, fun _ b h1 h2 => ?_⟩ (by show 2 ^ bits - ((p / 2 ^ v + 1) * 2 ^ v) < 2 ^ bits - p; omega)) rfl ⟨Or.inl rfl, Or.inl rfl, Or.inl rfl, Or.inl rfl, Or.inl rfl, Or.inr rfl, Or.inr rfl, trivial⟩
            replace h1 : c2 < b := h1
            rcases hstop with q9 | q9
            · omega
            · exact agB_dep (carry hc1 hones q9 h1).symm (hag b (by omega) h2)
          have L87 : ∀ c2 (uu : Unit), c2 ≤ bits - 1 → (v ≤ c2 ∧ ∀ i, v ≤ i → i < c2 → p.testBit i = true) → mu_WA X G 7 (mu_Q X G M_X7_explore (ex_post w a bits bo st Kc c most)) s2 0 0 87 [.ref a, .int (mI most), .int (mI ((2 ^ bits : Nat) : Int)), .int (mI p), .int (mI (c2 : Nat)), .int (mI v), .int (mI ((((p / 2 ^ v + 1) * 2 ^ v) : Nat) : Int))] [] := by
            refine mu_ind (bits - 1) (fun c2 (uu : Unit) => mu_WA X G 7 (mu_Q X G M_X7_explore (ex_post w a bits bo st Kc c most)) s2 0 0 87 [.ref a, .int (mI most), .int (mI ((2 ^ bits : Nat) : Int)), .int (mI p), .int (mI (c2 : Nat)), .int (mI v), .int (mI ((((p / 2 ^ v + 1) * 2 ^ v) : Nat) : Int))] []) (fun c2 (uu : Unit) => v ≤ c2 ∧ ∀ i, v ≤ i → i < c2 → p.testBit i = true) ?_
            intro c2 uu hc9 ⟨h2a, h2b⟩ ih2
            refine mu_il_4 B dX7_explore_87 ?_
            refine mu_al_0 B dX7_explore_89 ?_
            refine mu_getI B dX7_explore_90 fX7_69 rfl (by assumption) ?_
            rw [hd2.2.1]
            refine mu_iconst (v := mI 1) B dX7_explore_93 rfl ?_
            refine mu_isub B dX7_explore_94 ?_
            try rw [mI_sub]
            try rw [mI_sub]
            rw [show (bits : Int) - 1 = ((bits - 1 : Nat) : Int) by omega]
            refine mu_icmp_ge (tgt := 113) B dX7_explore_95 (by decide) (fun c95 => ?_) (fun c95 => ?_)
            · try rw [mI_le ⟨by omega, by omega⟩ ⟨by omega, by omega⟩] at c95
              try rw [mI_le ⟨by omega, by omega⟩ ⟨by omega, by omega⟩] at c95
              exact K113 c2 h2a (by omega) h2b (Or.inl (by omega))
            · try rw [mI_le ⟨by omega, by omega⟩ ⟨by omega, by omega⟩] at c95
              refine mu_il_3 B dX7_explore_98 ?_
              refine mu_il_4 B dX7_explore_99 ?_
              refine mu_ishr B dX7_explore_101 ?_
              refine mu_iconst (v := mI 1) B dX7_explore_102 rfl ?_
              refine mu_iand B dX7_explore_103 ?_
              refine mu_if_eq (tgt := 113) B dX7_explore_104 (by decide) (fun c104 => ?_) (fun c104 => ?_)
              · rw [bit_and (by omega) (by omega)] at c104
                exact K113 c2 h2a (by omega) h2b (Or.inr c104)
              · rw [bit_and (by omega) (by omega)] at c104
                refine mu_inc_4 (c := mI 1) B dX7_explore_107 rfl (by decide) rfl ?_
                try rw [mI_add]
                refine mu_goto (tgt := 87) B dX7_explore_110 (by decide) ?_
                refine mu_to (ih2 () (by omega) ⟨by omega, fun i h1 h2 => ?_⟩) rfl (by rw [show ((c2 + 1 : Nat) : Int) = (c2 : Int) + 1 by omega])
                by_cases e9 : i = c2
                · rw [e9]; simpa using c104
                · exact h2b i h1 (by omega)
          refine mu_il_3 B dX7_explore_72 ?_
          refine mu_il_5 B dX7_explore_73 ?_
          refine mu_ishr B dX7_explore_75 ?_
          rw [mI_shr _ ⟨by omega, by omega⟩ _ (by omega)]
          rw [show (p : Int) / 2 ^ v = ((p / 2 ^ v : Nat) : Int) by rw [Int.natCast_ediv, Int.natCast_pow]; rfl]
          refine mu_iconst (v := mI 1) B dX7_explore_76 rfl ?_
          refine mu_iadd B dX7_explore_77 ?_
          try rw [mI_add]
          try rw [mI_add]
          rw [show ((p / 2 ^ v : Nat) : Int) + 1 = ((p / 2 ^ v + 1 : Nat) : Int) by omega]
          refine mu_il_5 B dX7_explore_78 ?_
          refine mu_ishl B dX7_explore_80 ?_
          rw [mI_shl _ _ (by omega)]
          rw [show ((p / 2 ^ v + 1 : Nat) : Int) * 2 ^ v = ((((p / 2 ^ v + 1) * 2 ^ v) : Nat) : Int) by rw [Int.natCast_mul, Int.natCast_pow]; rfl]
          refine mu_is_6 B dX7_explore_81 (by decide) rfl ?_
          refine mu_il_5 B dX7_explore_83 ?_
          refine mu_is_4 B dX7_explore_85 (by decide) rfl ?_
          exact L87 v () (by omega) ⟨Nat.le_refl _, fun i h1 h2 => by omega⟩
        have K59 : ∀ wr : Int, ((wr = -1 ∧ okP bo st Kc c bits p) ∨ (∃ v : Nat, wr = v ∧ v ≤ ch ∧ ¬ agB bo st Kc c v p ∧ ∀ b, v < b → b < bits → agB bo st Kc c b p)) → mu_WA X G 7 (mu_Q X G M_X7_explore (ex_post w a bits bo st Kc c most)) s 0 0 59 [.ref a, .int (mI most), .int (mI ((2 ^ bits : Nat) : Int)), .int (mI p), .int (mI ch), .int (mI wr), mu_no] [] := by
          intro wr hwr
          have hwb : -1 ≤ wr ∧ wr ≤ 16 := by rcases hwr with ⟨q1, _⟩ | ⟨v, q1, q2, _⟩ <;> omega
          refine mu_il_5 B dX7_explore_59 ?_
          refine mu_if_ge (tgt := 72) B dX7_explore_61 (by decide) (fun c61 => ?_) (fun c61 => ?_)
          · try rw [mI_ge0 ⟨by omega, by omega⟩] at c61
            try rw [mI_ge0 ⟨by omega, by omega⟩] at c61
            rcases hwr with ⟨q1, q2⟩ | ⟨v, q1, q2, q3, q4⟩
            · omega
            · subst q1
              refine K72 s v (by omega) hF (hH.ext (fun x hx => ⟨fun q => ⟨Nat.lt_trans q.1 (nxt_gt p v), q.2⟩, fun q => ⟨?_, q.2⟩⟩)) q4
              by_cases e9 : x < p
              · exact e9
              · exact absurd (agB_dep (sk_same (by omega) q.1).symm (q.2 v (by omega))) q3
          · try rw [mI_ge0 ⟨by omega, by omega⟩] at c61
            have hok : okP bo st Kc c bits p := by
              rcases hwr with ⟨q1, q2⟩ | ⟨v, q1, q2, q3, q4⟩
              · exact q2
              · omega
            refine mu_al_0 B dX7_explore_64 ?_
            refine mu_il_3 B dX7_explore_65 ?_
            refine mu_cV1 B dX7_explore_66 mX7_63 ⟨⟨by decide, by decide⟩, by decide, by decide⟩ (Nat.le_of_ble_eq_true rfl) kas (c_X7_hit G hos hH (p := p) (by omega) (fun q => Nat.lt_irrefl _ q.1)) (fun r66 w66 q66 => ?_)
            obtain ⟨rfl, hF5, hH5⟩ := q66
            refine mu_iconst (v := mI 0) B dX7_explore_69 rfl ?_
            refine mu_is_5 B dX7_explore_70 (by decide) rfl ?_
            refine K72 w66 0 (by omega) (hF.trans hF5) (hH5.ext (fun x hx => ?_)) (fun b _ h2 => hok b h2)
            rw [show ex_P bo st Kc c bits ((p / 2 ^ 0 + 1) * 2 ^ 0) = ex_P bo st Kc c bits (p + 1) by rw [Nat.pow_zero, Nat.div_one, Nat.mul_one]]
            constructor
            · rintro (q | q)
              · exact ⟨Nat.lt_succ_of_lt q.1, q.2⟩
              · rw [q]; exact ⟨Nat.lt_succ_self _, hok⟩
            · intro q
              by_cases e9 : x = p
              · exact Or.inr e9
              · exact Or.inl ⟨by have := q.1; omega, q.2⟩
        have L38 : ∀ d (uu : Unit), d ≤ ch + 1 → (∀ b : Nat, (ch : Int) - (d : Int) < b → b < bits → agB bo st Kc c b p) → mu_WA X G 7 (mu_Q X G M_X7_explore (ex_post w a bits bo st Kc c most)) s 0 0 38 [.ref a, .int (mI most), .int (mI ((2 ^ bits : Nat) : Int)), .int (mI p), .int (mI ch), .int (mI ((ch : Int) - (d : Int))), mu_no] [] := by
          refine mu_ind (ch + 1) (fun d (uu : Unit) => mu_WA X G 7 (mu_Q X G M_X7_explore (ex_post w a bits bo st Kc c most)) s 0 0 38 [.ref a, .int (mI most), .int (mI ((2 ^ bits : Nat) : Int)), .int (mI p), .int (mI ch), .int (mI ((ch : Int) - (d : Int))), mu_no] []) (fun d (uu : Unit) => ∀ b : Nat, (ch : Int) - (d : Int) < b → b < bits → agB bo st Kc c b p) ?_
          intro d uu hdl hall ihd
          refine mu_il_5 B dX7_explore_38 ?_
          refine mu_if_lt (tgt := 59) B dX7_explore_40 (by decide) (fun c40 => ?_) (fun c40 => ?_)
          · try rw [mI_lt0 ⟨by omega, by omega⟩] at c40
            try rw [mI_lt0 ⟨by omega, by omega⟩] at c40
            exact K59 _ (Or.inl ⟨by omega, fun b hb => hall b (by omega) hb⟩)
          · try rw [mI_lt0 ⟨by omega, by omega⟩] at c40
            have hdc : d ≤ ch := by omega
            refine mu_al_0 B dX7_explore_43 ?_
            refine mu_il_5 B dX7_explore_44 ?_
            refine mu_il_3 B dX7_explore_46 ?_
            rw [show (ch : Int) - (d : Int) = ((ch - d : Nat) : Int) by omega]
            refine mu_cV2 B dX7_explore_47 mX7_112 ⟨⟨by decide, by decide⟩, by decide, by decide⟩ (Nat.le_of_ble_eq_true rfl) kas (c_X7_agrees G hos hds hcb hbo hst hss (b := ch - d) (p := p) (by omega) (by omega)) (fun r47 w47 q47 => ?_)
            obtain ⟨hyn, rfl⟩ := q47
            obtain ⟨z, rfl, hz⟩ : ∃ z : Int, r47 = some (.int (mI z)) ∧ ((z = 1 ∧ agB bo st Kc c (ch - d) p) ∨ (z = 0 ∧ ¬ agB bo st Kc c (ch - d) p)) := by
              by_cases q : agB bo st Kc c (ch - d) p
              · exact ⟨1, hyn.1 q, Or.inl ⟨rfl, q⟩⟩
              · exact ⟨0, hyn.2 q, Or.inr ⟨rfl, q⟩⟩
            show mu_WA X G 7 _ _ 0 0 50 _ [.int (mI z)]
            refine mu_if_eq (tgt := 59) B dX7_explore_50 (by decide) (fun c50 => ?_) (fun c50 => ?_)
            · try rw [mI_eq0 ⟨by omega, by omega⟩] at c50
              try rw [mI_eq0 ⟨by omega, by omega⟩] at c50
              rcases hz with ⟨q1, q2⟩ | ⟨q1, q2⟩
              · omega
              · exact K59 _ (Or.inr ⟨ch - d, rfl, by omega, q2, fun b h1 h2 => hall b (by omega) h2⟩)
            · try rw [mI_eq0 ⟨by omega, by omega⟩] at c50
              have hz2 := hz.elim (fun q => q.2) (fun q => absurd q.1 c50)
              refine mu_inc_5 (c := mI (-1)) B dX7_explore_53 rfl (by decide) rfl ?_
              try rw [mI_add]
              refine mu_goto (tgt := 38) B dX7_explore_56 (by decide) ?_
              refine mu_to (ihd () (by omega) (fun b h1 h2 => ?_)) rfl (by rw [show (ch : Int) - ((d + 1 : Nat) : Int) = ((ch - d : Nat) : Int) + -1 by omega])
              by_cases e9 : b = ch - d
              · rw [e9]; exact hz2
              · exact hall b (by omega) h2
        refine mu_il_4 B dX7_explore_34 ?_
        refine mu_is_5 B dX7_explore_36 (by decide) rfl ?_
        exact mu_to (L38 0 () (by omega) (fun b h1 h2 => hag9 hp9 b (by omega) h2)) rfl (by rw [show (ch : Int) - ((0 : Nat) : Int) = (ch : Int) by omega])
  show mu_WA X G 7 _ _ 0 0 0 _ []
  refine mu_al_0 B dX7_explore_0 ?_
  refine mu_cV0 B dX7_explore_1 mX7_66 ⟨⟨by decide, by decide⟩, by decide, by decide⟩ (Nat.le_of_ble_eq_true rfl) (by assumption) (c_X7_forget G ho) (fun r1 w1 q1 => ?_)
  obtain ⟨rfl, hF0, hH0⟩ := q1
  have ka0 := hF0.kd ka
  have hd0 := hd.fi hF0 (fun j _ hh => by rcases hh with hh | hh <;> omega) (fun e j _ _ hh => by rcases hh with hh | hh <;> omega)
  refine mu_iconst (v := mI 1) B dX7_explore_4 rfl ?_
  refine mu_al_0 B dX7_explore_5 ?_
  refine mu_getI B dX7_explore_6 fX7_69 rfl ka0 ?_
  rw [hd0.2.1]
  refine mu_ishl B dX7_explore_9 ?_
  rw [mI_shl _ _ (by omega), Int.one_mul]
  rw [show (2 : Int) ^ bits = ((2 ^ bits : Nat) : Int) by rw [Int.natCast_pow]; rfl]
  refine mu_is_2 B dX7_explore_10 (by decide) rfl ?_
  refine mu_iconst (v := mI 0) B dX7_explore_11 rfl ?_
  refine mu_is_3 B dX7_explore_12 (by decide) rfl ?_
  refine mu_al_0 B dX7_explore_13 ?_
  refine mu_getI B dX7_explore_14 fX7_69 rfl ka0 ?_
  rw [hd0.2.1]
  refine mu_iconst (v := mI 1) B dX7_explore_17 rfl ?_
  refine mu_isub B dX7_explore_18 ?_
  try rw [mI_sub]
  try rw [mI_sub]
  rw [show (bits : Int) - 1 = ((bits - 1 : Nat) : Int) by omega]
  refine mu_is_4 B dX7_explore_19 (by decide) rfl ?_
  exact LE9 (w1, 0, bits - 1) ⟨Nat.zero_le _, by show bits - 1 < bits; omega, hF0, hH0.ext (fun x hx => ⟨fun q => q.elim, fun q => absurd q.1 (Nat.not_lt_zero _)⟩), fun _ b h1 h2 => absurd h1 (by show ¬ bits - 1 < b; omega)⟩
