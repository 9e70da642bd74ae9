/-! ===== the class: is a field another one, turned ===== -/
def tw (t : Nat) : Nat := if t < 4 then t else 4 + t / 2 % 2 + 2 * (t % 2)
theorem tw_or (t : Nat) : (t < 4 ∧ tw t = t) ∨ (4 ≤ t ∧ tw t = 4 + t / 2 % 2 + 2 * (t % 2)) := by
  unfold tw
  by_cases h : t < 4
  · rw [if_pos h]; exact Or.inl ⟨h, rfl⟩
  · rw [if_neg h]; exact Or.inr ⟨by omega, rfl⟩
def tu (W2 : Int) (t : Nat) (i j : Int) : Int := if t % 2 = 0 then (if 4 ≤ t then j else i) else W2 - (if 4 ≤ t then j else i)
def tv (H2 : Int) (t : Nat) (i j : Int) : Int := if t / 2 % 2 = 0 then (if 4 ≤ t then i else j) else H2 - (if 4 ≤ t then i else j)
def tdm (L R U D L' R' U' D' : Int) (t : Nat) : Prop := (t < 4 ∧ R - L = R' - L' ∧ D - U = D' - U') ∨ (4 ≤ t ∧ R - L = D' - U' ∧ D - U = R' - L')
theorem tw_tu {L R U D L' R' U' D' : Int} {t : Nat} (ht : t < 8) (h : tdm L R U D L' R' U' D' t) (i j : Int) : sp_tx (R - L) (D - U) (tw t) i j = tu (R' - L') t i j ∧ sp_ty (R - L) (D - U) (tw t) i j = tv (D' - U') t i j := by
  have h1 := tw_or t
  unfold tdm at h
  generalize tw t = s at h1
  unfold sp_tx sp_ty sp_ta sp_tb tu tv
  constructor <;> (repeat' split) <;> omega
theorem sp_tm_tw {c d : Nat → Nat → Nat} {L R U D L' R' U' D' : Int} {t : Nat} (ht : t < 8) : sp_tm c d L R U D L' R' U' D' (tw t) ↔ (tdm L R U D L' R' U' D' t ∧ ∀ i j : Nat, (i : Int) ≤ R - L → (j : Int) ≤ D - U → c (L.toNat + i) (U.toNat + j) = d (L' + tu (R' - L') t i j).toNat (U' + tv (D' - U') t i j).toNat) := by
  have h1 := tw_or t
  constructor
  · rintro ⟨g1, g2, g3⟩
    have hd : tdm L R U D L' R' U' D' t := by
      unfold tdm
      by_cases q : 4 ≤ tw t
      · rw [if_pos q] at g1 g2; omega
      · rw [if_neg q] at g1 g2; omega
    refine ⟨hd, fun i j hi hj => ?_⟩
    rw [← (tw_tu ht hd i j).1, ← (tw_tu ht hd i j).2]
    exact g3 i j hi hj
  · rintro ⟨hd, g3⟩
    refine ⟨?_, ?_, fun i j hi hj => ?_⟩
    · unfold tdm at hd
      by_cases q : 4 ≤ tw t
      · rw [if_pos q]; omega
      · rw [if_neg q]; omega
    · unfold tdm at hd
      by_cases q : 4 ≤ tw t
      · rw [if_pos q]; omega
      · rw [if_neg q]; omega
    · rw [(tw_tu ht hd i j).1, (tw_tu ht hd i j).2]
      exact g3 i j hi hj
theorem al_inz {c : Nat → Nat → Nat} {x y : Int} (hx : 0 ≤ x ∧ x < 256) (hy : 0 ≤ y ∧ y < 256) : sp_al 256 256 c x y = c x.toNat y.toNat := by
  unfold sp_al
  rw [if_pos ⟨hx.1, hy.1, by omega, by omega⟩]
def tur_post (w : mu_W) (c d : Nat → Nat → Nat) (L R U D L' R' U' D' : Int) (t : Nat) (r : Option Value) (w' : mu_W) : Prop := ((r = some (.int (mI 1)) ∧ sp_tm c d L R U D L' R' U' D' (tw t)) ∨ (r = some (.int (mI 0)) ∧ ¬ sp_tm c d L R U D L' R' U' D' (tw t))) ∧ w' = w
def TUe (c d : Nat → Nat → Nat) (l u : Nat) (L' U' W2 H2 : Int) (t wd j x : Nat) : Prop := ∀ p q : Nat, p ≤ wd → (q < j ∨ (q = j ∧ p < x)) → c (l + p) (u + q) = d (L' + tu W2 t p q).toNat (U' + tv H2 t p q).toNat

set_option maxHeartbeats 4000000 in
set_option maxRecDepth 100000 in
theorem c_X1_isTurned (G : mu_G) {w : mu_W} {a : Nat} (ho : CFo w a) {c : Nat → Nat → Nat} (hb : CFb w a c) {L R U D : Int} {M : Nat} (hm : CFm w a L R U D M) (hx : CMx c L R U D M) {a2 : Nat} (ho2 : CFo w a2) {d : Nat → Nat → Nat} (hb2 : CFb w a2 d) {L2 R2 U2 D2 : Int} {M2 : Nat} (hm2 : CFm w a2 L2 R2 U2 D2 M2) (hx2 : CMx d L2 R2 U2 D2 M2) {t : Nat} (ht : t < 8) : mu_Ct G M_X1_isTurned [.ref a, .ref a2, .int (mI t)] w (tur_post w c d L R U D L2 R2 U2 D2 t) := by
  obtain ⟨ka, r0, k1, r1, k2⟩ := id ho
  have kc := ho2.1
  have bd1 := hx.bd hb.1
  have bd2 := hx2.bd hb2.1
  have od1 := hx.ord hb.1
  have od2 := hx2.ord hb2.1
  unfold CBd at bd1 bd2
  obtain ⟨l, hl⟩ : ∃ n : Nat, L = n := ⟨L.toNat, by omega⟩
  obtain ⟨u, hu⟩ : ∃ n : Nat, U = n := ⟨U.toNat, by omega⟩
  obtain ⟨l2, hl2⟩ : ∃ n : Nat, L2 = n := ⟨L2.toNat, by omega⟩
  obtain ⟨u2, hu2⟩ : ∃ n : Nat, U2 = n := ⟨U2.toNat, by omega⟩
  subst hl hu hl2 hu2
  refine mu_ofWA G M_X1_isTurned [.ref a, .ref a2, .int (mI t), mu_no, mu_no, mu_no, mu_no, mu_no, mu_no, mu_no] (by decide) rfl (Nat.le_of_ble_eq_true rfl) ?_
  intro X E
  have B : mu_B X G cX1_isTurned RX1 10 (mu_rm M_X1_isTurned) := E.1
  have K32 : ∀ sw : Int, ((t < 4 ∧ sw = 0) ∨ (4 ≤ t ∧ sw = 1)) → mu_WA X G 10 (mu_Q X G M_X1_isTurned (tur_post w c d l R u D l2 R2 u2 D2 t)) w 0 0 32 [.ref a, .ref a2, .int (mI t), .int (mI (R2 - (l2 : Int))), .int (mI (D2 - (u2 : Int))), mu_no, mu_no, mu_no, mu_no, mu_no] [.int (mI sw)] := by
    intro sw hsw
    have K82 : tdm l R u D l2 R2 u2 D2 t → mu_WA X G 10 (mu_Q X G M_X1_isTurned (tur_post w c d l R u D l2 R2 u2 D2 t)) w 0 0 82 [.ref a, .ref a2, .int (mI t), .int (mI (R2 - (l2 : Int))), .int (mI (D2 - (u2 : Int))), .int (mI sw), mu_no, mu_no, mu_no, mu_no] [] := by
      intro hdm
      obtain ⟨wd, hwd⟩ : ∃ n : Nat, R - (l : Int) = n := ⟨(R - l).toNat, by omega⟩
      obtain ⟨hd, hhd⟩ : ∃ n : Nat, D - (u : Int) = n := ⟨(D - u).toNat, by omega⟩
      have LY : ∀ j (uq : Unit), j ≤ hd + 1 → (TUe c d l u l2 u2 (R2 - (l2 : Int)) (D2 - (u2 : Int)) t wd j 0) → mu_WA X G 10 (mu_Q X G M_X1_isTurned (tur_post w c d l R u D l2 R2 u2 D2 t)) w 0 0 88 [.ref a, .ref a2, .int (mI t), .int (mI (R2 - (l2 : Int))), .int (mI (D2 - (u2 : Int))), .int (mI sw), .int (mI ((u + j : Nat) : Int)), mu_no, mu_no, mu_no] [] := by
        refine mu_ind (hd + 1) (fun j (uq : Unit) => mu_WA X G 10 (mu_Q X G M_X1_isTurned (tur_post w c d l R u D l2 R2 u2 D2 t)) w 0 0 88 [.ref a, .ref a2, .int (mI t), .int (mI (R2 - (l2 : Int))), .int (mI (D2 - (u2 : Int))), .int (mI sw), .int (mI ((u + j : Nat) : Int)), mu_no, mu_no, mu_no] []) (fun j (uq : Unit) => TUe c d l u l2 u2 (R2 - (l2 : Int)) (D2 - (u2 : Int)) t wd j 0) ?_
        intro j uq hj hje ihj
        refine mu_il_6 B dX1_isTurned_88 ?_
        refine mu_al_0 B dX1_isTurned_90 ?_
        refine mu_getI B dX1_isTurned_91 fX1_58 rfl ka ?_
        rw [hm.2.2.2.2]
        refine mu_icmp_gt (tgt := 238) B dX1_isTurned_94 (by decide) (fun c94 => ?_) (fun c94 => ?_)
        · try rw [mI_lt ⟨by omega, by omega⟩ ⟨by omega, by omega⟩] at c94
          try rw [mI_lt ⟨by omega, by omega⟩ ⟨by omega, by omega⟩] at c94
          obtain rfl : hd + 1 = j := by omega
          refine mu_iconst (v := mI 1) B dX1_isTurned_238 rfl ?_
          refine mu_zret E rfl (by decide) (by decide) dX1_isTurned_239 (by decide) ?_
          refine ⟨Or.inl ⟨rfl, (sp_tm_tw ht).mpr ⟨hdm, fun p q hp hq => ?_⟩⟩, rfl⟩
          rw [Int.toNat_natCast, Int.toNat_natCast]
          exact hje p q (by omega) (Or.inl (by omega))
        · try rw [mI_lt ⟨by omega, by omega⟩ ⟨by omega, by omega⟩] at c94
          refine mu_al_0 B dX1_isTurned_97 ?_
          refine mu_getI B dX1_isTurned_98 fX1_49 rfl ka ?_
          rw [hm.2.1]
          refine mu_is_7 B dX1_isTurned_101 (by decide) rfl ?_
          have LX : ∀ i (uq : Unit), i ≤ wd + 1 → (TUe c d l u l2 u2 (R2 - (l2 : Int)) (D2 - (u2 : Int)) t wd j i) → mu_WA X G 10 (mu_Q X G M_X1_isTurned (tur_post w c d l R u D l2 R2 u2 D2 t)) w 0 0 103 [.ref a, .ref a2, .int (mI t), .int (mI (R2 - (l2 : Int))), .int (mI (D2 - (u2 : Int))), .int (mI sw), .int (mI ((u + j : Nat) : Int)), .int (mI ((l + i : Nat) : Int)), mu_no, mu_no] [] := by
            refine mu_ind (wd + 1) (fun i (uq : Unit) => mu_WA X G 10 (mu_Q X G M_X1_isTurned (tur_post w c d l R u D l2 R2 u2 D2 t)) w 0 0 103 [.ref a, .ref a2, .int (mI t), .int (mI (R2 - (l2 : Int))), .int (mI (D2 - (u2 : Int))), .int (mI sw), .int (mI ((u + j : Nat) : Int)), .int (mI ((l + i : Nat) : Int)), mu_no, mu_no] []) (fun i (uq : Unit) => TUe c d l u l2 u2 (R2 - (l2 : Int)) (D2 - (u2 : Int)) t wd j i) ?_
            intro i uq hi hie ihi
            refine mu_il_7 B dX1_isTurned_103 ?_
            refine mu_al_0 B dX1_isTurned_105 ?_
            refine mu_getI B dX1_isTurned_106 fX1_55 rfl ka ?_
            rw [hm.2.2.2.1]
            refine mu_icmp_gt (tgt := 232) B dX1_isTurned_109 (by decide) (fun c109 => ?_) (fun c109 => ?_)
            · try rw [mI_lt ⟨by omega, by omega⟩ ⟨by omega, by omega⟩] at c109
              try rw [mI_lt ⟨by omega, by omega⟩ ⟨by omega, by omega⟩] at c109
              obtain rfl : wd + 1 = i := by omega
              refine mu_inc_6 (c := mI 1) B dX1_isTurned_232 rfl (by decide) rfl ?_
              try rw [mI_add]
              refine mu_goto (tgt := 88) B dX1_isTurned_235 (by decide) ?_
              refine mu_fg (ihj () (by omega) (fun p q hp hq => ?_)) rfl (by rw [show ((u + (j + 1) : Nat) : Int) = ((u + j : Nat) : Int) + 1 by omega]; exact ⟨Or.inl rfl, Or.inl rfl, Or.inl rfl, Or.inl rfl, Or.inl rfl, Or.inl rfl, Or.inl rfl, Or.inr rfl, Or.inr rfl, Or.inr rfl, trivial⟩)
              exact hie p q hp (by omega)
            · try rw [mI_lt ⟨by omega, by omega⟩ ⟨by omega, by omega⟩] at c109
              have K195 : ∀ (uu vv : Int), uu = tu (R2 - (l2 : Int)) t i j → vv = tv (D2 - (u2 : Int)) t i j → mu_WA X G 10 (mu_Q X G M_X1_isTurned (tur_post w c d l R u D l2 R2 u2 D2 t)) w 0 0 195 [.ref a, .ref a2, .int (mI t), .int (mI (R2 - (l2 : Int))), .int (mI (D2 - (u2 : Int))), .int (mI sw), .int (mI ((u + j : Nat) : Int)), .int (mI ((l + i : Nat) : Int)), .int (mI uu), .int (mI vv)] [] := by
                intro uu vv huu hvv
                have hub : 0 ≤ uu ∧ uu ≤ R2 - (l2 : Int) := by
                  rw [huu]; unfold tu; unfold tdm at hdm; (repeat' split) <;> omega
                have hvb : 0 ≤ vv ∧ vv ≤ D2 - (u2 : Int) := by
                  rw [hvv]; unfold tv; unfold tdm at hdm; (repeat' split) <;> omega
                refine mu_al_0 B dX1_isTurned_195 ?_
                refine mu_il_7 B dX1_isTurned_196 ?_
                refine mu_il_6 B dX1_isTurned_198 ?_
                refine mu_eV2 B dX1_isTurned_200 mX1_65 ⟨⟨by decide, by decide⟩, by decide, by decide⟩ (Nat.le_of_ble_eq_true rfl) ka (c_X1_look G ho hb (x := ((l + i : Nat) : Int)) (y := ((u + j : Nat) : Int)) ⟨by omega, by omega⟩ ⟨by omega, by omega⟩) ?_
                rw [al_in (by omega) (by omega)]
                refine mu_al_1 B dX1_isTurned_203 ?_
                refine mu_al_1 B dX1_isTurned_204 ?_
                refine mu_getI B dX1_isTurned_205 fX1_49 rfl kc ?_
                rw [hm2.2.1]
                refine mu_il_8 B dX1_isTurned_208 ?_
                refine mu_iadd B dX1_isTurned_210 ?_
                try rw [mI_add]
                refine mu_al_1 B dX1_isTurned_211 ?_
                refine mu_getI B dX1_isTurned_212 fX1_52 rfl kc ?_
                rw [hm2.2.2.1]
                refine mu_il_9 B dX1_isTurned_215 ?_
                refine mu_iadd B dX1_isTurned_217 ?_
                try rw [mI_add]
                refine mu_eV2 B dX1_isTurned_218 mX1_65 ⟨⟨by decide, by decide⟩, by decide, by decide⟩ (Nat.le_of_ble_eq_true rfl) kc (c_X1_look G ho2 hb2 (x := (l2 : Int) + uu) (y := (u2 : Int) + vv) ⟨by omega, by omega⟩ ⟨by omega, by omega⟩) ?_
                rw [al_inz (by omega) (by omega)]
                have hc1 := hb.1 (l + i) (u + j)
                have hc2 := hb2.1 ((l2 : Int) + uu).toNat ((u2 : Int) + vv).toNat
                refine mu_icmp_eq (tgt := 226) B dX1_isTurned_221 (by decide) (fun c221 => ?_) (fun c221 => ?_)
                · try rw [mI_eq ⟨by omega, by omega⟩ ⟨by omega, by omega⟩] at c221
                  refine mu_inc_7 (c := mI 1) B dX1_isTurned_226 rfl (by decide) rfl ?_
                  try rw [mI_add]
                  refine mu_goto (tgt := 103) B dX1_isTurned_229 (by decide) ?_
                  refine mu_fg (ihi () (by omega) (fun p q hp hq => ?_)) rfl (by rw [show ((l + (i + 1) : Nat) : Int) = ((l + i : Nat) : Int) + 1 by omega]; exact ⟨Or.inl rfl, Or.inl rfl, Or.inl rfl, Or.inl rfl, Or.inl rfl, Or.inl rfl, Or.inl rfl, Or.inl rfl, Or.inr rfl, Or.inr rfl, trivial⟩)
                  by_cases e9 : q < j ∨ (q = j ∧ p < i)
                  · exact hie p q hp e9
                  · rw [show p = i by omega, show q = j by omega, ← huu, ← hvv]; omega
                · try rw [mI_eq ⟨by omega, by omega⟩ ⟨by omega, by omega⟩] at c221
                  refine mu_iconst (v := mI 0) B dX1_isTurned_224 rfl ?_
                  refine mu_zret E rfl (by decide) (by decide) dX1_isTurned_225 (by decide) ?_
                  refine ⟨Or.inr ⟨rfl, fun g => ?_⟩, rfl⟩
                  have g2 := ((sp_tm_tw ht).mp g).2 i j (by omega) (by omega)
                  rw [Int.toNat_natCast, Int.toNat_natCast, ← huu, ← hvv] at g2
                  omega
              refine mu_il_5 B dX1_isTurned_112 ?_
              refine mu_if_eq (tgt := 127) B dX1_isTurned_114 (by decide) (fun c114 => ?_) (fun c114 => ?_)
              · try rw [mI_eq0 ⟨by omega, by omega⟩] at c114
                refine mu_il_7 B dX1_isTurned_127 ?_
                refine mu_al_0 B dX1_isTurned_129 ?_
                refine mu_getI B dX1_isTurned_130 fX1_49 rfl ka ?_
                rw [hm.2.1]
                refine mu_isub B dX1_isTurned_133 ?_
                try rw [mI_sub]
                refine mu_is_8 B dX1_isTurned_134 (by decide) rfl ?_
                refine mu_il_5 B dX1_isTurned_136 ?_
                refine mu_if_eq (tgt := 151) B dX1_isTurned_138 (by decide) (fun c138 => ?_) (fun c138 => ?_)
                · try rw [mI_eq0 ⟨by omega, by omega⟩] at c138
                  refine mu_il_6 B dX1_isTurned_151 ?_
                  refine mu_al_0 B dX1_isTurned_153 ?_
                  refine mu_getI B dX1_isTurned_154 fX1_52 rfl ka ?_
                  rw [hm.2.2.1]
                  refine mu_isub B dX1_isTurned_157 ?_
                  try rw [mI_sub]
                  refine mu_is_9 B dX1_isTurned_158 (by decide) rfl ?_
                  refine mu_il_2 B dX1_isTurned_160 ?_
                  refine mu_iconst (v := mI 1) B dX1_isTurned_161 rfl ?_
                  refine mu_iand B dX1_isTurned_162 ?_
                  refine mu_if_ne (tgt := 171) B dX1_isTurned_163 (by decide) (fun c163 => ?_) (fun c163 => ?_)
                  · rw [cg_1 t ht] at c163
                    refine mu_il_3 B dX1_isTurned_171 ?_
                    refine mu_il_8 B dX1_isTurned_172 ?_
                    refine mu_isub B dX1_isTurned_174 ?_
                    try rw [mI_sub]
                    refine mu_is_8 B dX1_isTurned_175 (by decide) rfl ?_
                    refine mu_il_2 B dX1_isTurned_177 ?_
                    refine mu_iconst (v := mI 2) B dX1_isTurned_178 rfl ?_
                    refine mu_iand B dX1_isTurned_179 ?_
                    refine mu_if_ne (tgt := 188) B dX1_isTurned_180 (by decide) (fun c180 => ?_) (fun c180 => ?_)
                    · rw [cg_2 t ht] at c180
                      refine mu_il_4 B dX1_isTurned_188 ?_
                      refine mu_il_9 B dX1_isTurned_190 ?_
                      refine mu_isub B dX1_isTurned_192 ?_
                      try rw [mI_sub]
                      refine mu_is_9 B dX1_isTurned_193 (by decide) rfl ?_
                      first
                        | (exfalso; omega)
                        | exact K195 _ _ (by unfold tu; (repeat' split) <;> omega) (by unfold tv; (repeat' split) <;> omega)
                    · rw [cg_2 t ht] at c180
                      refine mu_il_9 B dX1_isTurned_183 ?_
                      refine mu_goto (tgt := 193) B dX1_isTurned_185 (by decide) ?_
                      refine mu_is_9 B dX1_isTurned_193 (by decide) rfl ?_
                      first
                        | (exfalso; omega)
                        | exact K195 _ _ (by unfold tu; (repeat' split) <;> omega) (by unfold tv; (repeat' split) <;> omega)
                  · rw [cg_1 t ht] at c163
                    refine mu_il_8 B dX1_isTurned_166 ?_
                    refine mu_goto (tgt := 175) B dX1_isTurned_168 (by decide) ?_
                    refine mu_is_8 B dX1_isTurned_175 (by decide) rfl ?_
                    refine mu_il_2 B dX1_isTurned_177 ?_
                    refine mu_iconst (v := mI 2) B dX1_isTurned_178 rfl ?_
                    refine mu_iand B dX1_isTurned_179 ?_
                    refine mu_if_ne (tgt := 188) B dX1_isTurned_180 (by decide) (fun c180 => ?_) (fun c180 => ?_)
                    · rw [cg_2 t ht] at c180
                      refine mu_il_4 B dX1_isTurned_188 ?_
                      refine mu_il_9 B dX1_isTurned_190 ?_
                      refine mu_isub B dX1_isTurned_192 ?_
                      try rw [mI_sub]
                      refine mu_is_9 B dX1_isTurned_193 (by decide) rfl ?_
                      first
                        | (exfalso; omega)
                        | exact K195 _ _ (by unfold tu; (repeat' split) <;> omega) (by unfold tv; (repeat' split) <;> omega)
                    · rw [cg_2 t ht] at c180
                      refine mu_il_9 B dX1_isTurned_183 ?_
                      refine mu_goto (tgt := 193) B dX1_isTurned_185 (by decide) ?_
                      refine mu_is_9 B dX1_isTurned_193 (by decide) rfl ?_
                      first
                        | (exfalso; omega)
                        | exact K195 _ _ (by unfold tu; (repeat' split) <;> omega) (by unfold tv; (repeat' split) <;> omega)
                · try rw [mI_eq0 ⟨by omega, by omega⟩] at c138
                  refine mu_il_7 B dX1_isTurned_141 ?_
                  refine mu_al_0 B dX1_isTurned_143 ?_
                  refine mu_getI B dX1_isTurned_144 fX1_49 rfl ka ?_
                  rw [hm.2.1]
                  refine mu_isub B dX1_isTurned_147 ?_
                  try rw [mI_sub]
                  refine mu_goto (tgt := 158) B dX1_isTurned_148 (by decide) ?_
                  refine mu_is_9 B dX1_isTurned_158 (by decide) rfl ?_
                  refine mu_il_2 B dX1_isTurned_160 ?_
                  refine mu_iconst (v := mI 1) B dX1_isTurned_161 rfl ?_
                  refine mu_iand B dX1_isTurned_162 ?_
                  refine mu_if_ne (tgt := 171) B dX1_isTurned_163 (by decide) (fun c163 => ?_) (fun c163 => ?_)
                  · rw [cg_1 t ht] at c163
                    refine mu_il_3 B dX1_isTurned_171 ?_
                    refine mu_il_8 B dX1_isTurned_172 ?_
                    refine mu_isub B dX1_isTurned_174 ?_
                    try rw [mI_sub]
                    refine mu_is_8 B dX1_isTurned_175 (by decide) rfl ?_
                    refine mu_il_2 B dX1_isTurned_177 ?_
                    refine mu_iconst (v := mI 2) B dX1_isTurned_178 rfl ?_
                    refine mu_iand B dX1_isTurned_179 ?_
                    refine mu_if_ne (tgt := 188) B dX1_isTurned_180 (by decide) (fun c180 => ?_) (fun c180 => ?_)
                    · rw [cg_2 t ht] at c180
                      refine mu_il_4 B dX1_isTurned_188 ?_
                      refine mu_il_9 B dX1_isTurned_190 ?_
                      refine mu_isub B dX1_isTurned_192 ?_
                      try rw [mI_sub]
                      refine mu_is_9 B dX1_isTurned_193 (by decide) rfl ?_
                      first
                        | (exfalso; omega)
                        | exact K195 _ _ (by unfold tu; (repeat' split) <;> omega) (by unfold tv; (repeat' split) <;> omega)
                    · rw [cg_2 t ht] at c180
                      refine mu_il_9 B dX1_isTurned_183 ?_
                      refine mu_goto (tgt := 193) B dX1_isTurned_185 (by decide) ?_
                      refine mu_is_9 B dX1_isTurned_193 (by decide) rfl ?_
                      first
                        | (exfalso; omega)
                        | exact K195 _ _ (by unfold tu; (repeat' split) <;> omega) (by unfold tv; (repeat' split) <;> omega)
                  · rw [cg_1 t ht] at c163
                    refine mu_il_8 B dX1_isTurned_166 ?_
                    refine mu_goto (tgt := 175) B dX1_isTurned_168 (by decide) ?_
                    refine mu_is_8 B dX1_isTurned_175 (by decide) rfl ?_
                    refine mu_il_2 B dX1_isTurned_177 ?_
                    refine mu_iconst (v := mI 2) B dX1_isTurned_178 rfl ?_
                    refine mu_iand B dX1_isTurned_179 ?_
                    refine mu_if_ne (tgt := 188) B dX1_isTurned_180 (by decide) (fun c180 => ?_) (fun c180 => ?_)
                    · rw [cg_2 t ht] at c180
                      refine mu_il_4 B dX1_isTurned_188 ?_
                      refine mu_il_9 B dX1_isTurned_190 ?_
                      refine mu_isub B dX1_isTurned_192 ?_
                      try rw [mI_sub]
                      refine mu_is_9 B dX1_isTurned_193 (by decide) rfl ?_
                      first
                        | (exfalso; omega)
                        | exact K195 _ _ (by unfold tu; (repeat' split) <;> omega) (by unfold tv; (repeat' split) <;> omega)
                    · rw [cg_2 t ht] at c180
                      refine mu_il_9 B dX1_isTurned_183 ?_
                      refine mu_goto (tgt := 193) B dX1_isTurned_185 (by decide) ?_
                      refine mu_is_9 B dX1_isTurned_193 (by decide) rfl ?_
                      first
                        | (exfalso; omega)
                        | exact K195 _ _ (by unfold tu; (repeat' split) <;> omega) (by unfold tv; (repeat' split) <;> omega)
              · try rw [mI_eq0 ⟨by omega, by omega⟩] at c114
                refine mu_il_6 B dX1_isTurned_117 ?_
                refine mu_al_0 B dX1_isTurned_119 ?_
                refine mu_getI B dX1_isTurned_120 fX1_52 rfl ka ?_
                rw [hm.2.2.1]
                refine mu_isub B dX1_isTurned_123 ?_
                try rw [mI_sub]
                refine mu_goto (tgt := 134) B dX1_isTurned_124 (by decide) ?_
                refine mu_is_8 B dX1_isTurned_134 (by decide) rfl ?_
                refine mu_il_5 B dX1_isTurned_136 ?_
                refine mu_if_eq (tgt := 151) B dX1_isTurned_138 (by decide) (fun c138 => ?_) (fun c138 => ?_)
                · try rw [mI_eq0 ⟨by omega, by omega⟩] at c138
                  refine mu_il_6 B dX1_isTurned_151 ?_
                  refine mu_al_0 B dX1_isTurned_153 ?_
                  refine mu_getI B dX1_isTurned_154 fX1_52 rfl ka ?_
                  rw [hm.2.2.1]
                  refine mu_isub B dX1_isTurned_157 ?_
                  try rw [mI_sub]
                  refine mu_is_9 B dX1_isTurned_158 (by decide) rfl ?_
                  refine mu_il_2 B dX1_isTurned_160 ?_
                  refine mu_iconst (v := mI 1) B dX1_isTurned_161 rfl ?_
                  refine mu_iand B dX1_isTurned_162 ?_
                  refine mu_if_ne (tgt := 171) B dX1_isTurned_163 (by decide) (fun c163 => ?_) (fun c163 => ?_)
                  · rw [cg_1 t ht] at c163
                    refine mu_il_3 B dX1_isTurned_171 ?_
                    refine mu_il_8 B dX1_isTurned_172 ?_
                    refine mu_isub B dX1_isTurned_174 ?_
                    try rw [mI_sub]
                    refine mu_is_8 B dX1_isTurned_175 (by decide) rfl ?_
                    refine mu_il_2 B dX1_isTurned_177 ?_
                    refine mu_iconst (v := mI 2) B dX1_isTurned_178 rfl ?_
                    refine mu_iand B dX1_isTurned_179 ?_
                    refine mu_if_ne (tgt := 188) B dX1_isTurned_180 (by decide) (fun c180 => ?_) (fun c180 => ?_)
                    · rw [cg_2 t ht] at c180
                      refine mu_il_4 B dX1_isTurned_188 ?_
                      refine mu_il_9 B dX1_isTurned_190 ?_
                      refine mu_isub B dX1_isTurned_192 ?_
                      try rw [mI_sub]
                      refine mu_is_9 B dX1_isTurned_193 (by decide) rfl ?_
                      first
                        | (exfalso; omega)
                        | exact K195 _ _ (by unfold tu; (repeat' split) <;> omega) (by unfold tv; (repeat' split) <;> omega)
                    · rw [cg_2 t ht] at c180
                      refine mu_il_9 B dX1_isTurned_183 ?_
                      refine mu_goto (tgt := 193) B dX1_isTurned_185 (by decide) ?_
                      refine mu_is_9 B dX1_isTurned_193 (by decide) rfl ?_
                      first
                        | (exfalso; omega)
                        | exact K195 _ _ (by unfold tu; (repeat' split) <;> omega) (by unfold tv; (repeat' split) <;> omega)
                  · rw [cg_1 t ht] at c163
                    refine mu_il_8 B dX1_isTurned_166 ?_
                    refine mu_goto (tgt := 175) B dX1_isTurned_168 (by decide) ?_
                    refine mu_is_8 B dX1_isTurned_175 (by decide) rfl ?_
                    refine mu_il_2 B dX1_isTurned_177 ?_
                    refine mu_iconst (v := mI 2) B dX1_isTurned_178 rfl ?_
                    refine mu_iand B dX1_isTurned_179 ?_
                    refine mu_if_ne (tgt := 188) B dX1_isTurned_180 (by decide) (fun c180 => ?_) (fun c180 => ?_)
                    · rw [cg_2 t ht] at c180
                      refine mu_il_4 B dX1_isTurned_188 ?_
                      refine mu_il_9 B dX1_isTurned_190 ?_
                      refine mu_isub B dX1_isTurned_192 ?_
                      try rw [mI_sub]
                      refine mu_is_9 B dX1_isTurned_193 (by decide) rfl ?_
                      first
                        | (exfalso; omega)
                        | exact K195 _ _ (by unfold tu; (repeat' split) <;> omega) (by unfold tv; (repeat' split) <;> omega)
                    · rw [cg_2 t ht] at c180
                      refine mu_il_9 B dX1_isTurned_183 ?_
                      refine mu_goto (tgt := 193) B dX1_isTurned_185 (by decide) ?_
                      refine mu_is_9 B dX1_isTurned_193 (by decide) rfl ?_
                      first
                        | (exfalso; omega)
                        | exact K195 _ _ (by unfold tu; (repeat' split) <;> omega) (by unfold tv; (repeat' split) <;> omega)
                · try rw [mI_eq0 ⟨by omega, by omega⟩] at c138
                  refine mu_il_7 B dX1_isTurned_141 ?_
                  refine mu_al_0 B dX1_isTurned_143 ?_
                  refine mu_getI B dX1_isTurned_144 fX1_49 rfl ka ?_
                  rw [hm.2.1]
                  refine mu_isub B dX1_isTurned_147 ?_
                  try rw [mI_sub]
                  refine mu_goto (tgt := 158) B dX1_isTurned_148 (by decide) ?_
                  refine mu_is_9 B dX1_isTurned_158 (by decide) rfl ?_
                  refine mu_il_2 B dX1_isTurned_160 ?_
                  refine mu_iconst (v := mI 1) B dX1_isTurned_161 rfl ?_
                  refine mu_iand B dX1_isTurned_162 ?_
                  refine mu_if_ne (tgt := 171) B dX1_isTurned_163 (by decide) (fun c163 => ?_) (fun c163 => ?_)
                  · rw [cg_1 t ht] at c163
                    refine mu_il_3 B dX1_isTurned_171 ?_
                    refine mu_il_8 B dX1_isTurned_172 ?_
                    refine mu_isub B dX1_isTurned_174 ?_
                    try rw [mI_sub]
                    refine mu_is_8 B dX1_isTurned_175 (by decide) rfl ?_
                    refine mu_il_2 B dX1_isTurned_177 ?_
                    refine mu_iconst (v := mI 2) B dX1_isTurned_178 rfl ?_
                    refine mu_iand B dX1_isTurned_179 ?_
                    refine mu_if_ne (tgt := 188) B dX1_isTurned_180 (by decide) (fun c180 => ?_) (fun c180 => ?_)
                    · rw [cg_2 t ht] at c180
                      refine mu_il_4 B dX1_isTurned_188 ?_
                      refine mu_il_9 B dX1_isTurned_190 ?_
                      refine mu_isub B dX1_isTurned_192 ?_
                      try rw [mI_sub]
                      refine mu_is_9 B dX1_isTurned_193 (by decide) rfl ?_
                      first
                        | (exfalso; omega)
                        | exact K195 _ _ (by unfold tu; (repeat' split) <;> omega) (by unfold tv; (repeat' split) <;> omega)
                    · rw [cg_2 t ht] at c180
                      refine mu_il_9 B dX1_isTurned_183 ?_
                      refine mu_goto (tgt := 193) B dX1_isTurned_185 (by decide) ?_
                      refine mu_is_9 B dX1_isTurned_193 (by decide) rfl ?_
                      first
                        | (exfalso; omega)
                        | exact K195 _ _ (by unfold tu; (repeat' split) <;> omega) (by unfold tv; (repeat' split) <;> omega)
                  · rw [cg_1 t ht] at c163
                    refine mu_il_8 B dX1_isTurned_166 ?_
                    refine mu_goto (tgt := 175) B dX1_isTurned_168 (by decide) ?_
                    refine mu_is_8 B dX1_isTurned_175 (by decide) rfl ?_
                    refine mu_il_2 B dX1_isTurned_177 ?_
                    refine mu_iconst (v := mI 2) B dX1_isTurned_178 rfl ?_
                    refine mu_iand B dX1_isTurned_179 ?_
                    refine mu_if_ne (tgt := 188) B dX1_isTurned_180 (by decide) (fun c180 => ?_) (fun c180 => ?_)
                    · rw [cg_2 t ht] at c180
                      refine mu_il_4 B dX1_isTurned_188 ?_
                      refine mu_il_9 B dX1_isTurned_190 ?_
                      refine mu_isub B dX1_isTurned_192 ?_
                      try rw [mI_sub]
                      refine mu_is_9 B dX1_isTurned_193 (by decide) rfl ?_
                      first
                        | (exfalso; omega)
                        | exact K195 _ _ (by unfold tu; (repeat' split) <;> omega) (by unfold tv; (repeat' split) <;> omega)
                    · rw [cg_2 t ht] at c180
                      refine mu_il_9 B dX1_isTurned_183 ?_
                      refine mu_goto (tgt := 193) B dX1_isTurned_185 (by decide) ?_
                      refine mu_is_9 B dX1_isTurned_193 (by decide) rfl ?_
                      first
                        | (exfalso; omega)
                        | exact K195 _ _ (by unfold tu; (repeat' split) <;> omega) (by unfold tv; (repeat' split) <;> omega)
          exact mu_to (LX 0 () (by omega) (fun p q hp hq => hje p q hp (by omega))) rfl (by rw [Nat.add_zero])
      refine mu_al_0 B dX1_isTurned_82 ?_
      refine mu_getI B dX1_isTurned_83 fX1_52 rfl ka ?_
      rw [hm.2.2.1]
      refine mu_is_6 B dX1_isTurned_86 (by decide) rfl ?_
      exact mu_to (LY 0 () (by omega) (fun p q hp hq => by omega)) rfl (by rw [Nat.add_zero])
    refine mu_is_5 B dX1_isTurned_32 (by decide) rfl ?_
    refine mu_al_0 B dX1_isTurned_34 ?_
    refine mu_getI B dX1_isTurned_35 fX1_55 rfl ka ?_
    rw [hm.2.2.2.1]
    refine mu_al_0 B dX1_isTurned_38 ?_
    refine mu_getI B dX1_isTurned_39 fX1_49 rfl ka ?_
    rw [hm.2.1]
    refine mu_isub B dX1_isTurned_42 ?_
    try rw [mI_sub]
    refine mu_il_5 B dX1_isTurned_43 ?_
    refine mu_if_eq (tgt := 53) B dX1_isTurned_45 (by decide) (fun c45 => ?_) (fun c45 => ?_)
    · try rw [mI_eq0 ⟨by omega, by omega⟩] at c45
      refine mu_il_3 B dX1_isTurned_53 ?_
      refine mu_icmp_ne (tgt := 80) B dX1_isTurned_54 (by decide) (fun c54 => ?_) (fun c54 => ?_)
      · try rw [mI_eq ⟨by omega, by omega⟩ ⟨by omega, by omega⟩] at c54
        refine mu_iconst (v := mI 0) B dX1_isTurned_80 rfl ?_
        refine mu_zret E rfl (by decide) (by decide) dX1_isTurned_81 (by decide) ?_
        refine ⟨Or.inr ⟨rfl, fun g => ?_⟩, rfl⟩
        have g2 := ((sp_tm_tw ht).mp g).1
        unfold tdm at g2
        omega
      · try rw [mI_eq ⟨by omega, by omega⟩ ⟨by omega, by omega⟩] at c54
        refine mu_al_0 B dX1_isTurned_57 ?_
        refine mu_getI B dX1_isTurned_58 fX1_58 rfl ka ?_
        rw [hm.2.2.2.2]
        refine mu_al_0 B dX1_isTurned_61 ?_
        refine mu_getI B dX1_isTurned_62 fX1_52 rfl ka ?_
        rw [hm.2.2.1]
        refine mu_isub B dX1_isTurned_65 ?_
        try rw [mI_sub]
        refine mu_il_5 B dX1_isTurned_66 ?_
        refine mu_if_eq (tgt := 75) B dX1_isTurned_68 (by decide) (fun c68 => ?_) (fun c68 => ?_)
        · try rw [mI_eq0 ⟨by omega, by omega⟩] at c68
          refine mu_il_4 B dX1_isTurned_75 ?_
          refine mu_icmp_eq (tgt := 82) B dX1_isTurned_77 (by decide) (fun c77 => ?_) (fun c77 => ?_)
          · try rw [mI_eq ⟨by omega, by omega⟩ ⟨by omega, by omega⟩] at c77
            try rw [mI_eq ⟨by omega, by omega⟩ ⟨by omega, by omega⟩] at c77
            first
              | (exfalso; omega)
              | exact K82 (by unfold tdm; omega)
          · try rw [mI_eq ⟨by omega, by omega⟩ ⟨by omega, by omega⟩] at c77
            refine mu_iconst (v := mI 0) B dX1_isTurned_80 rfl ?_
            refine mu_zret E rfl (by decide) (by decide) dX1_isTurned_81 (by decide) ?_
            refine ⟨Or.inr ⟨rfl, fun g => ?_⟩, rfl⟩
            have g2 := ((sp_tm_tw ht).mp g).1
            unfold tdm at g2
            omega
        · try rw [mI_eq0 ⟨by omega, by omega⟩] at c68
          refine mu_il_3 B dX1_isTurned_71 ?_
          refine mu_goto (tgt := 77) B dX1_isTurned_72 (by decide) ?_
          refine mu_icmp_eq (tgt := 82) B dX1_isTurned_77 (by decide) (fun c77 => ?_) (fun c77 => ?_)
          · try rw [mI_eq ⟨by omega, by omega⟩ ⟨by omega, by omega⟩] at c77
            try rw [mI_eq ⟨by omega, by omega⟩ ⟨by omega, by omega⟩] at c77
            first
              | (exfalso; omega)
              | exact K82 (by unfold tdm; omega)
          · try rw [mI_eq ⟨by omega, by omega⟩ ⟨by omega, by omega⟩] at c77
            refine mu_iconst (v := mI 0) B dX1_isTurned_80 rfl ?_
            refine mu_zret E rfl (by decide) (by decide) dX1_isTurned_81 (by decide) ?_
            refine ⟨Or.inr ⟨rfl, fun g => ?_⟩, rfl⟩
            have g2 := ((sp_tm_tw ht).mp g).1
            unfold tdm at g2
            omega
    · try rw [mI_eq0 ⟨by omega, by omega⟩] at c45
      refine mu_il_4 B dX1_isTurned_48 ?_
      refine mu_goto (tgt := 54) B dX1_isTurned_50 (by decide) ?_
      refine mu_icmp_ne (tgt := 80) B dX1_isTurned_54 (by decide) (fun c54 => ?_) (fun c54 => ?_)
      · try rw [mI_eq ⟨by omega, by omega⟩ ⟨by omega, by omega⟩] at c54
        refine mu_iconst (v := mI 0) B dX1_isTurned_80 rfl ?_
        refine mu_zret E rfl (by decide) (by decide) dX1_isTurned_81 (by decide) ?_
        refine ⟨Or.inr ⟨rfl, fun g => ?_⟩, rfl⟩
        have g2 := ((sp_tm_tw ht).mp g).1
        unfold tdm at g2
        omega
      · try rw [mI_eq ⟨by omega, by omega⟩ ⟨by omega, by omega⟩] at c54
        refine mu_al_0 B dX1_isTurned_57 ?_
        refine mu_getI B dX1_isTurned_58 fX1_58 rfl ka ?_
        rw [hm.2.2.2.2]
        refine mu_al_0 B dX1_isTurned_61 ?_
        refine mu_getI B dX1_isTurned_62 fX1_52 rfl ka ?_
        rw [hm.2.2.1]
        refine mu_isub B dX1_isTurned_65 ?_
        try rw [mI_sub]
        refine mu_il_5 B dX1_isTurned_66 ?_
        refine mu_if_eq (tgt := 75) B dX1_isTurned_68 (by decide) (fun c68 => ?_) (fun c68 => ?_)
        · try rw [mI_eq0 ⟨by omega, by omega⟩] at c68
          refine mu_il_4 B dX1_isTurned_75 ?_
          refine mu_icmp_eq (tgt := 82) B dX1_isTurned_77 (by decide) (fun c77 => ?_) (fun c77 => ?_)
          · try rw [mI_eq ⟨by omega, by omega⟩ ⟨by omega, by omega⟩] at c77
            try rw [mI_eq ⟨by omega, by omega⟩ ⟨by omega, by omega⟩] at c77
            first
              | (exfalso; omega)
              | exact K82 (by unfold tdm; omega)
          · try rw [mI_eq ⟨by omega, by omega⟩ ⟨by omega, by omega⟩] at c77
            refine mu_iconst (v := mI 0) B dX1_isTurned_80 rfl ?_
            refine mu_zret E rfl (by decide) (by decide) dX1_isTurned_81 (by decide) ?_
            refine ⟨Or.inr ⟨rfl, fun g => ?_⟩, rfl⟩
            have g2 := ((sp_tm_tw ht).mp g).1
            unfold tdm at g2
            omega
        · try rw [mI_eq0 ⟨by omega, by omega⟩] at c68
          refine mu_il_3 B dX1_isTurned_71 ?_
          refine mu_goto (tgt := 77) B dX1_isTurned_72 (by decide) ?_
          refine mu_icmp_eq (tgt := 82) B dX1_isTurned_77 (by decide) (fun c77 => ?_) (fun c77 => ?_)
          · try rw [mI_eq ⟨by omega, by omega⟩ ⟨by omega, by omega⟩] at c77
            try rw [mI_eq ⟨by omega, by omega⟩ ⟨by omega, by omega⟩] at c77
            first
              | (exfalso; omega)
              | exact K82 (by unfold tdm; omega)
          · try rw [mI_eq ⟨by omega, by omega⟩ ⟨by omega, by omega⟩] at c77
            refine mu_iconst (v := mI 0) B dX1_isTurned_80 rfl ?_
            refine mu_zret E rfl (by decide) (by decide) dX1_isTurned_81 (by decide) ?_
            refine ⟨Or.inr ⟨rfl, fun g => ?_⟩, rfl⟩
            have g2 := ((sp_tm_tw ht).mp g).1
            unfold tdm at g2
            omega
  show mu_WA X G 10 _ _ 0 0 0 _ []
  refine mu_al_1 B dX1_isTurned_0 ?_
  refine mu_getI B dX1_isTurned_1 fX1_55 rfl kc ?_
  rw [hm2.2.2.2.1]
  refine mu_al_1 B dX1_isTurned_4 ?_
  refine mu_getI B dX1_isTurned_5 fX1_49 rfl kc ?_
  rw [hm2.2.1]
  refine mu_isub B dX1_isTurned_8 ?_
  try rw [mI_sub]
  refine mu_is_3 B dX1_isTurned_9 (by decide) rfl ?_
  refine mu_al_1 B dX1_isTurned_10 ?_
  refine mu_getI B dX1_isTurned_11 fX1_58 rfl kc ?_
  rw [hm2.2.2.2.2]
  refine mu_al_1 B dX1_isTurned_14 ?_
  refine mu_getI B dX1_isTurned_15 fX1_52 rfl kc ?_
  rw [hm2.2.2.1]
  refine mu_isub B dX1_isTurned_18 ?_
  try rw [mI_sub]
  refine mu_is_4 B dX1_isTurned_19 (by decide) rfl ?_
  refine mu_il_2 B dX1_isTurned_21 ?_
  refine mu_iconst (v := mI 4) B dX1_isTurned_22 rfl ?_
  refine mu_iand B dX1_isTurned_23 ?_
  refine mu_if_eq (tgt := 31) B dX1_isTurned_24 (by decide) (fun c24 => ?_) (fun c24 => ?_)
  · rw [cg_4 t ht] at c24
    refine mu_iconst (v := mI 0) B dX1_isTurned_31 rfl ?_
    exact K32 _ (by omega)
  · rw [cg_4 t ht] at c24
    refine mu_iconst (v := mI 1) B dX1_isTurned_27 rfl ?_
    refine mu_goto (tgt := 32) B dX1_isTurned_28 (by decide) ?_
    exact K32 _ (by omega)
