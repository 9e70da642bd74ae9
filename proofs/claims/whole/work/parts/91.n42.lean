/-! ===== the class's searches: gardens ===== -/
theorem bc4_le : ∀ s, s < 5 → ∀ q, q < 2 ^ s → bc4 q ≤ s := by decide +kernel
theorem bc4_pcn : ∀ q, q < 16 → pcn 32 q = bc4 q := by decide +kernel
theorem en_zero {P : Nat → Prop} : ∀ {n : Nat}, en_c P n = 0 → ∀ x, x < n → ¬ P x
  | 0, _, x, hx => absurd hx (Nat.not_lt_zero x)
  | n + 1, h, x, hx => fun hp => by
    by_cases e : x = n
    · rw [e] at hp; rw [en_pos hp] at h; omega
    · have := (en_step P n).1
      exact en_zero (n := n) (by omega) x (by omega) hp
theorem en_ex {P : Nat → Prop} : ∀ {n : Nat}, en_c P n ≠ 0 → ∃ x, x < n ∧ P x
  | 0, h => absurd rfl h
  | n + 1, h => by
    by_cases e : P n
    · exact ⟨n, by omega, e⟩
    · rw [en_neg e] at h
      obtain ⟨x, h1, h2⟩ := en_ex (n := n) h
      exact ⟨x, by omega, h2⟩
theorem gd_hit {r : mu_RS} {R C pt n : Nat} (hp : pt < 2 ^ (R * C)) (hb : bc4 pt = n) (hA : ¬ gd_A r R C pt) (h : ∀ q, q < 2 ^ (R * C) → (bc4 q < n ∨ (bc4 q = n ∧ q < pt)) → gd_A r R C q) (x : Nat) : gd_P r R C x ↔ x = pt := by
  have h1 : gd_B r R C 0 (pt : Int) := Or.inr ⟨pt, rfl, Nat.zero_le _, hp, hA, fun q _ h2 h3 => by
    by_cases e : bc4 q < n ∨ (bc4 q = n ∧ q < pt)
    · exact absurd (h q h2 e) h3
    · omega⟩
  constructor
  · intro h2
    have := h1.uniq h2
    omega
  · intro e; rw [e]; exact h1
theorem gd_none {r : mu_RS} {R C : Nat} (h : ∀ q, q < 2 ^ (R * C) → gd_A r R C q) (x : Nat) : ¬ gd_P r R C x := fun h2 => by
  have h1 : gd_B r R C 0 (-1) := Or.inl ⟨rfl, fun q _ h3 => h q h3⟩
  have := h1.uniq h2
  omega

set_option maxHeartbeats 4000000 in
set_option maxRecDepth 100000 in
theorem c_X7_findGarden (G : mu_G) {w : mu_W} {a : Nat} (ho : CSo w a) {rr : Nat} {ru : mu_RS} (hq : RUq w rr ru) {R C : Nat} (hR : 1 ≤ R ∧ R ≤ 16) (hC : 1 ≤ C ∧ C ≤ 16) (h16 : (R + 2) * (C + 2) ≤ 16) : mu_Ct G M_X7_findGarden [.ref a, .ref rr, .int (mI R), .int (mI C)] w (fx_post w a (gd_P ru R C)) := by
  have hrc := rc4 hR.1 hC.1 h16
  have hp16 : 2 ^ (R * C) ≤ 16 := Nat.pow_le_pow_right (n := 2) (i := R * C) (j := 4) (by decide) hrc.2.2
  have hp65 := pw16 h16
  refine mu_ofWA G M_X7_findGarden [.ref a, .ref rr, .int (mI R), .int (mI C), mu_no, mu_no, mu_no] (by decide) rfl (Nat.le_of_ble_eq_true rfl) ?_
  intro X E
  have B : mu_B X G cX7_findGarden RX7 7 (mu_rm M_X7_findGarden) := E.1
  have LN : ∀ n (s : mu_W), n ≤ R * C + 1 → (mu_Fi (seS a) w s ∧ ∀ q, q < 2 ^ (R * C) → bc4 q < n → gd_A ru R C q) → mu_WA X G 7 (mu_Q X G M_X7_findGarden (fx_post w a (gd_P ru R C))) s 0 0 8 [.ref a, .ref rr, .int (mI R), .int (mI C), .int (mI ((R * C : Nat) : Int)), .int (mI n), mu_no] [] := by
    refine mu_ind (R * C + 1) (fun n (s : mu_W) => mu_WA X G 7 (mu_Q X G M_X7_findGarden (fx_post w a (gd_P ru R C))) s 0 0 8 [.ref a, .ref rr, .int (mI R), .int (mI C), .int (mI ((R * C : Nat) : Int)), .int (mI n), mu_no] []) (fun n (s : mu_W) => mu_Fi (seS a) w s ∧ ∀ q, q < 2 ^ (R * C) → bc4 q < n → gd_A ru R C q) ?_
    intro n s hn ⟨hFs, hAs⟩ ih
    refine mu_il_5 B dX7_findGarden_8 ?_
    refine mu_il_4 B dX7_findGarden_10 ?_
    refine mu_icmp_gt (tgt := 70) B dX7_findGarden_12 (by decide) (fun c12 => ?_) (fun c12 => ?_)
    · try rw [mI_lt ⟨by omega, by omega⟩ ⟨by omega, by omega⟩] at c12
      try rw [mI_lt ⟨by omega, by omega⟩ ⟨by omega, by omega⟩] at c12
      have hos := ho.fi hFs
      refine mu_al_0 B dX7_findGarden_70 ?_
      refine mu_cV0 B dX7_findGarden_71 mX7_66 ⟨⟨by decide, by decide⟩, by decide, by decide⟩ (Nat.le_of_ble_eq_true rfl) hos.1 (c_X7_forget G hos) (fun r71 w71 q71 => ?_)
      obtain ⟨rfl, hF5, hH5⟩ := q71
      refine mu_iconst (v := mI 0) B dX7_findGarden_74 rfl ?_
      refine mu_iret E rfl (by decide) (by decide) dX7_findGarden_75 ?_
      have hee : ∀ x, x < 65536 → (False ↔ gd_P ru R C x) := fun x hx => ⟨fun h9 => h9.elim, fun h9 => gd_none (fun q h1 => hAs q h1 (by have := bc4_le (R * C) (by omega) q h1; omega)) x h9⟩
      refine ⟨?_, hFs.trans (h_se hF5), hH5.ext hee⟩
      rw [← en_eq hee, en_none]; rfl
    · try rw [mI_lt ⟨by omega, by omega⟩ ⟨by omega, by omega⟩] at c12
      refine mu_iconst (v := mI 0) B dX7_findGarden_15 rfl ?_
      refine mu_is_6 B dX7_findGarden_16 (by decide) rfl ?_
      have LP : ∀ pt (t : mu_W), pt ≤ 2 ^ (R * C) → (mu_Fi (seS a) w t ∧ ∀ q, q < 2 ^ (R * C) → (bc4 q < n ∨ (bc4 q = n ∧ q < pt)) → gd_A ru R C q) → mu_WA X G 7 (mu_Q X G M_X7_findGarden (fx_post w a (gd_P ru R C))) t 0 0 18 [.ref a, .ref rr, .int (mI R), .int (mI C), .int (mI ((R * C : Nat) : Int)), .int (mI n), .int (mI pt)] [] := by
        refine mu_ind (2 ^ (R * C)) (fun pt (t : mu_W) => mu_WA X G 7 (mu_Q X G M_X7_findGarden (fx_post w a (gd_P ru R C))) t 0 0 18 [.ref a, .ref rr, .int (mI R), .int (mI C), .int (mI ((R * C : Nat) : Int)), .int (mI n), .int (mI pt)] []) (fun pt (t : mu_W) => mu_Fi (seS a) w t ∧ ∀ q, q < 2 ^ (R * C) → (bc4 q < n ∨ (bc4 q = n ∧ q < pt)) → gd_A ru R C q) ?_
        intro pt t hpt ⟨hFt, hAt⟩ iht
        have hot := ho.fi hFt
        have hqt := hq.fi ho hFt
        refine mu_il_6 B dX7_findGarden_18 ?_
        refine mu_iconst (v := mI 1) B dX7_findGarden_20 rfl ?_
        refine mu_il_4 B dX7_findGarden_21 ?_
        refine mu_ishl B dX7_findGarden_23 ?_
        rw [mI_shl _ _ (by omega), Int.one_mul]
        rw [show (2 : Int) ^ (R * C) = ((2 ^ (R * C) : Nat) : Int) by rw [Int.natCast_pow]; rfl]
        refine mu_icmp_ge (tgt := 64) B dX7_findGarden_24 (by decide) (fun c24 => ?_) (fun c24 => ?_)
        · try rw [mI_le ⟨by omega, by omega⟩ ⟨by omega, by omega⟩] at c24
          try rw [mI_le ⟨by omega, by omega⟩ ⟨by omega, by omega⟩] at c24
          obtain rfl : 2 ^ (R * C) = pt := by omega
          refine mu_inc_5 (c := mI 1) B dX7_findGarden_64 rfl (by decide) rfl ?_
          try rw [mI_add]
          refine mu_goto (tgt := 8) B dX7_findGarden_67 (by decide) ?_
          refine mu_fg (ih t (by omega) ⟨hFt, fun q h1 h2 => hAt q h1 ?_⟩) rfl (by rw [show ((n + 1 : Nat) : Int) = (n : Int) + 1 by omega]; exact ⟨Or.inl rfl, Or.inl rfl, Or.inl rfl, Or.inl rfl, Or.inl rfl, Or.inl rfl, Or.inr rfl, trivial⟩)
          by_cases e9 : bc4 q < n
          · exact Or.inl e9
          · exact Or.inr ⟨by omega, h1⟩
        · try rw [mI_le ⟨by omega, by omega⟩ ⟨by omega, by omega⟩] at c24
          have hpt9 : pt < 2 ^ (R * C) := by omega
          have hpb := bc4_pcn pt (by omega)
          have hbl := bc4_le (R * C) (by omega) pt hpt9
          refine mu_il_6 B dX7_findGarden_27 ?_
          refine mu_eS1 B dX7_findGarden_29 mX7_53 ⟨⟨by decide, by decide⟩, by decide, by decide⟩ (Nat.le_of_ble_eq_true rfl) (c_bc G (n := pt) (by omega)) ?_
          rw [hpb]
          refine mu_il_5 B dX7_findGarden_32 ?_
          refine mu_icmp_ne (tgt := 58) B dX7_findGarden_34 (by decide) (fun c34 => ?_) (fun c34 => ?_)
          · try rw [mI_eq ⟨by omega, by omega⟩ ⟨by omega, by omega⟩] at c34
            try rw [mI_eq ⟨by omega, by omega⟩ ⟨by omega, by omega⟩] at c34
            refine mu_inc_6 (c := mI 1) B dX7_findGarden_58 rfl (by decide) rfl ?_
            try rw [mI_add]
            refine mu_goto (tgt := 18) B dX7_findGarden_61 (by decide) ?_
            refine mu_to (iht t (by omega) ⟨hFt, fun q h1 h2 => hAt q h1 ?_⟩) rfl (by rw [show ((pt + 1 : Nat) : Int) = (pt : Int) + 1 by omega])
            rcases h2 with h2 | h2
            · exact Or.inl h2
            · refine Or.inr ⟨h2.1, ?_⟩
              by_cases e9 : q = pt
              · rw [e9] at h2; omega
              · omega
          · try rw [mI_eq ⟨by omega, by omega⟩ ⟨by omega, by omega⟩] at c34
            refine mu_al_0 B dX7_findGarden_37 ?_
            refine mu_al_1 B dX7_findGarden_38 ?_
            refine mu_il_2 B dX7_findGarden_39 ?_
            refine mu_il_3 B dX7_findGarden_40 ?_
            refine mu_il_6 B dX7_findGarden_41 ?_
            refine mu_iconst (v := mI 1) B dX7_findGarden_43 rfl ?_
            refine mu_cV5 B dX7_findGarden_44 mX7_59 ⟨⟨by decide, by decide⟩, by decide, by decide⟩ (Nat.le_of_ble_eq_true rfl) hot.1 (c_X7_findAncestors G hot hqt hR hC h16 (o := pt) (most := 1) hpt9 (by decide)) (fun r44 w44 q44 => ?_)
            obtain ⟨hF4, q, hq1, hH4, hq2, rfl⟩ := q44
            have hcn := en_le (fun x => x < q ∧ an_P ru R C pt x) 65536
            show mu_WA X G 7 _ w44 0 0 47 _ [.int (mI (en_c (fun x => x < q ∧ an_P ru R C pt x) 65536 : Nat))]
            refine mu_if_ne (tgt := 58) B dX7_findGarden_47 (by decide) (fun c47 => ?_) (fun c47 => ?_)
            · try rw [mI_eq0 ⟨by omega, by omega⟩] at c47
              try rw [mI_eq0 ⟨by omega, by omega⟩] at c47
              have hA9 : gd_A ru R C pt := by
                obtain ⟨x, h1, h2⟩ := en_ex (P := fun x => x < q ∧ an_P ru R C pt x) (n := 65536) (fun e => c47 (by rw [e]; rfl))
                exact ⟨x, h2.2.1, h2.2.2⟩
              refine mu_inc_6 (c := mI 1) B dX7_findGarden_58 rfl (by decide) rfl ?_
              try rw [mI_add]
              refine mu_goto (tgt := 18) B dX7_findGarden_61 (by decide) ?_
              refine mu_to (iht w44 (by omega) ⟨hFt.trans hF4, fun q h1 h2 => ?_⟩) rfl (by rw [show ((pt + 1 : Nat) : Int) = (pt : Int) + 1 by omega])
              by_cases e9 : q = pt
              · rw [e9]; exact hA9
              · refine hAt q h1 ?_
                rcases h2 with h2 | h2
                · exact Or.inl h2
                · exact Or.inr ⟨h2.1, by omega⟩
            · try rw [mI_eq0 ⟨by omega, by omega⟩] at c47
              have hc0 : en_c (fun x => x < q ∧ an_P ru R C pt x) 65536 = 0 := by omega
              have hno := en_zero hc0
              have hqe : q = 2 ^ ((R + 2) * (C + 2)) := by rcases hq2 with h9 | h9 <;> omega
              have hnA : ¬ gd_A ru R C pt := fun ⟨x, h1, h2⟩ => hno x (by omega) ⟨by omega, h1, h2⟩
              refine mu_al_0 B dX7_findGarden_50 ?_
              refine mu_il_6 B dX7_findGarden_51 ?_
              refine mu_cV1 B dX7_findGarden_53 mX7_63 ⟨⟨by decide, by decide⟩, by decide, by decide⟩ (Nat.le_of_ble_eq_true rfl) (hot.fi hF4).1 (c_X7_hit G (hot.fi hF4) hH4 (p := pt) (by omega) (hno pt (by omega))) (fun r53 w53 q53 => ?_)
              obtain ⟨rfl, hF5, hH5⟩ := q53
              refine mu_iconst (v := mI 1) B dX7_findGarden_56 rfl ?_
              refine mu_iret E rfl (by decide) (by decide) dX7_findGarden_57 ?_
              have hee : ∀ x, x < 65536 → (((x < q ∧ an_P ru R C pt x) ∨ x = pt) ↔ gd_P ru R C x) := fun x hx => by
                rw [gd_hit hpt9 (by omega) hnA hAt x]
                exact ⟨fun h9 => h9.elim (fun h8 => absurd h8 (hno x hx)) id, Or.inr⟩
              refine ⟨?_, (hFt.trans hF4).trans (h_se hF5), hH5.ext hee⟩
              rw [← en_eq hee, en_plus (hno pt (by omega)) (by omega), hc0]; rfl
      exact LP 0 s (Nat.zero_le _) ⟨hFs, fun q h1 h2 => hAs q h1 (by omega)⟩
  show mu_WA X G 7 _ _ 0 0 0 _ []
  refine mu_il_2 B dX7_findGarden_0 ?_
  refine mu_il_3 B dX7_findGarden_1 ?_
  refine mu_imul B dX7_findGarden_2 ?_
  try rw [mI_mul]
  try rw [mI_mul]
  rw [show (R : Int) * (C : Int) = ((R * C : Nat) : Int) from (Int.natCast_mul R C).symm]
  refine mu_is_4 B dX7_findGarden_3 (by decide) rfl ?_
  refine mu_iconst (v := mI 0) B dX7_findGarden_5 rfl ?_
  refine mu_is_5 B dX7_findGarden_6 (by decide) rfl ?_
  exact LN 0 w (Nat.zero_le _) ⟨mu_Fi.refl _, fun q h1 h2 => absurd h2 (Nat.not_lt_zero _)⟩
