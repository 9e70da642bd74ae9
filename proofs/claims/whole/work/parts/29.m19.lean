/-! ===== the reference: a board read as a pattern ===== -/
def pt_in (W H rim x y : Nat) : Prop := rim ≤ x ∧ x < W - rim ∧ rim ≤ y ∧ y < H - rim
def pt_bf (x y x' y' : Nat) : Prop := y' < y ∨ (y' = y ∧ x' < x)
/-- all alive cells before (x, y) are within the rim, and p tells them -/
def pt_I (W H rim : Nat) (c : Nat → Nat → Nat) (x y p : Nat) : Prop := p < 2 ^ ((H - 2 * rim) * (W - 2 * rim)) ∧ (∀ x' y', x' < W → y' < H → pt_bf x y x' y' → c x' y' = 1 → pt_in W H rim x' y') ∧
  ∀ i j, i < H - 2 * rim → j < W - 2 * rim → (p.testBit (i * (W - 2 * rim) + j) = true ↔ c (j + rim) (i + rim) = 1 ∧ pt_bf x y (j + rim) (i + rim))
def PAT (W H rim : Nat) (c : Nat → Nat → Nat) (q : Int) : Prop := (q = -1 ∧ ∃ x y, x < W ∧ y < H ∧ c x y = 1 ∧ ¬ pt_in W H rim x y) ∨
  ∃ n : Nat, q = n ∧ n < 2 ^ ((H - 2 * rim) * (W - 2 * rim)) ∧ (∀ x y, x < W → y < H → c x y = 1 → pt_in W H rim x y) ∧ ∀ i j, i < H - 2 * rim → j < W - 2 * rim → (n.testBit (i * (W - 2 * rim) + j) = true ↔ c (j + rim) (i + rim) = 1)
theorem bits_ext {R C a b : Nat} (ha : a < 2 ^ (R * C)) (hb : b < 2 ^ (R * C)) (h : ∀ i j, i < R → j < C → (a.testBit (i * C + j) = true ↔ b.testBit (i * C + j) = true)) : a = b := by
  apply Nat.eq_of_testBit_eq
  intro t
  by_cases ht : t < R * C
  · obtain ⟨e1, e2, e3⟩ := gs_kk ht
    have := h (t / C) (t % C) e1 e2
    rw [Nat.mul_comm, e3] at this
    exact Bool.eq_iff_iff.mpr this
  · have hp : 2 ^ (R * C) ≤ 2 ^ t := Nat.pow_le_pow_right (by decide) (by omega)
    rw [Nat.testBit_lt_two_pow (Nat.lt_of_lt_of_le ha hp), Nat.testBit_lt_two_pow (Nat.lt_of_lt_of_le hb hp)]
theorem PAT.uniq {W H rim : Nat} {c : Nat → Nat → Nat} {q q' : Int} (h : PAT W H rim c q) (h' : PAT W H rim c q') : q = q' := by
  rcases h with ⟨e, x, y, h1, h2, h3, h4⟩ | ⟨n, e, h1, h2, h3⟩
  · rcases h' with ⟨e', -⟩ | ⟨n', e', g1, g2, g3⟩
    · rw [e, e']
    · exact absurd (g2 x y h1 h2 h3) h4
  · rcases h' with ⟨e', x, y, g1, g2, g3, g4⟩ | ⟨n', e', g1, g2, g3⟩
    · exact absurd (h2 x y g1 g2 g3) g4
    · have : n = n' := bits_ext h1 g1 (fun i j hi hj => (h3 i j hi hj).trans (g3 i j hi hj).symm)
      rw [e, e', this]
theorem PAT.lo {W H rim : Nat} {c : Nat → Nat → Nat} {q : Int} (h : PAT W H rim c q) : -1 ≤ q ∧ (q = -1 ∨ ∃ n : Nat, q = n ∧ n < 2 ^ ((H - 2 * rim) * (W - 2 * rim))) := by
  rcases h with ⟨e, -⟩ | ⟨n, e, h1, -⟩
  · exact ⟨by omega, Or.inl e⟩
  · exact ⟨by omega, Or.inr ⟨n, e, h1⟩⟩
theorem pt_I.row {W H rim : Nat} {c : Nat → Nat → Nat} {y p : Nat} (hr : 2 * rim ≤ W) (h : pt_I W H rim c W y p) : pt_I W H rim c 0 (y + 1) p := by
  refine ⟨h.1, fun x' y' hx hy hb hc => h.2.1 x' y' hx hy (by unfold pt_bf at hb ⊢; omega) hc, fun i j hi hj => (h.2.2 i j hi hj).trans ?_⟩
  constructor
  · rintro ⟨a, b⟩; exact ⟨a, by unfold pt_bf at b ⊢; omega⟩
  · rintro ⟨a, b⟩; exact ⟨a, by unfold pt_bf at b ⊢; omega⟩
theorem pt_I.dead {W H rim : Nat} {c : Nat → Nat → Nat} {x y p : Nat} (h : pt_I W H rim c x y p) (h0 : c x y = 0) : pt_I W H rim c (x + 1) y p := by
  refine ⟨h.1, fun x' y' hx hy hb hc => h.2.1 x' y' hx hy ?_ hc, fun i j hi hj => (h.2.2 i j hi hj).trans ?_⟩
  · have : ¬ (x' = x ∧ y' = y) := fun e => by rw [e.1, e.2] at hc; omega
    unfold pt_bf at hb ⊢
    omega
  · constructor
    · rintro ⟨a, b⟩; exact ⟨a, by unfold pt_bf at b ⊢; omega⟩
    · rintro ⟨a, b⟩
      refine ⟨a, ?_⟩
      have : ¬ (j + rim = x ∧ i + rim = y) := fun e => by rw [e.1, e.2] at a; omega
      unfold pt_bf at b ⊢
      omega
theorem pt_I.live {W H rim : Nat} {c : Nat → Nat → Nat} {x y p : Nat} (h : pt_I W H rim c x y p) (h1 : c x y = 1) (hx : x < W) (hy : y < H) (hin : pt_in W H rim x y) : pt_I W H rim c (x + 1) y (p ||| 2 ^ ((y - rim) * (W - 2 * rim) + (x - rim))) := by
  unfold pt_in at hin
  have hlt : (y - rim) * (W - 2 * rim) + (x - rim) < (H - 2 * rim) * (W - 2 * rim) := by
    have := wh_ix (W := W - 2 * rim) (H := H - 2 * rim) (i := x - rim) (j := y - rim) (by omega) (by omega)
    rw [Nat.mul_comm (y - rim), Nat.mul_comm (H - 2 * rim)]
    exact this
  refine ⟨Nat.or_lt_two_pow h.1 (Nat.pow_lt_pow_right (by decide) hlt), fun x' y' hx' hy' hb hc => ?_, fun i j hi hj => ?_⟩
  · by_cases e : x' = x ∧ y' = y
    · rw [e.1, e.2]; exact hin
    · exact h.2.1 x' y' hx' hy' (by unfold pt_bf at hb ⊢; omega) hc
  · rw [Nat.testBit_or, Nat.testBit_two_pow, Bool.or_eq_true, decide_eq_true_eq, h.2.2 i j hi hj]
    constructor
    · rintro (⟨a, b⟩ | e)
      · exact ⟨a, by unfold pt_bf at b ⊢; omega⟩
      · rw [Nat.mul_comm, Nat.mul_comm i] at e
        have e2 := gs_inj (show x - rim < W - 2 * rim by omega) hj e
        have e3 : j + rim = x := by omega
        have e4 : i + rim = y := by omega
        rw [e3, e4]
        exact ⟨h1, by unfold pt_bf; omega⟩
    · rintro ⟨a, b⟩
      by_cases e : j + rim = x ∧ i + rim = y
      · right
        rw [← e.1, ← e.2, Nat.add_sub_cancel, Nat.add_sub_cancel]
      · left
        exact ⟨a, by unfold pt_bf at b ⊢; omega⟩
theorem pt_I.start (W H rim : Nat) (c : Nat → Nat → Nat) : pt_I W H rim c 0 0 0 := ⟨Nat.two_pow_pos _, fun x' y' _ _ hb => by unfold pt_bf at hb; omega, fun i j _ _ => by
  rw [Nat.zero_testBit]
  constructor
  · intro h; cases h
  · rintro ⟨-, b⟩; unfold pt_bf at b; omega⟩
theorem pt_I.end {W H rim : Nat} {c : Nat → Nat → Nat} {p : Nat} (h : pt_I W H rim c 0 H p) : PAT W H rim c p := Or.inr ⟨p, rfl, h.1, fun x y hx hy hc => h.2.1 x y hx hy (by unfold pt_bf; omega) hc, fun i j hi hj => (h.2.2 i j hi hj).trans ⟨fun a => a.1, fun a => ⟨a, by unfold pt_bf; omega⟩⟩⟩
def pp_post (w : mu_W) (W H rim : Nat) (c : Nat → Nat → Nat) (r : Option Value) (w' : mu_W) : Prop := w' = w ∧ ∃ q : Int, r = some (.int (mI q)) ∧ PAT W H rim c q

set_option maxHeartbeats 4000000 in
set_option maxRecDepth 100000 in
theorem c_X12_pattern (G : mu_G) {w : mu_W} {m : Nat} (hm : mo_ok w m) {W H rim : Nat} (hW : SmW w m W H) {c : Nat → Nat → Nat} (hB : Bd w (m + 23) 400 0 W H c) (hrW : 2 * rim < W) (hrH : 2 * rim < H) (h16 : (H - 2 * rim) * (W - 2 * rim) ≤ 16) : mu_Ct G M_X12_pattern [.ref m, .int (mI rim)] w (pp_post w W H rim c) := by
  have hk1 := hm.1
  obtain ⟨r38, k38⟩ := mo_38 hm
  obtain ⟨h40, h41⟩ := hW
  have hWH : W * H ≤ 400 := by have := hB.2.2.1; omega
  have hW9 : W ≤ 400 := Nat.le_trans (Nat.le_mul_of_pos_right W (by omega)) hWH
  have hH9 : H ≤ 400 := Nat.le_trans (Nat.le_mul_of_pos_left H (by omega)) hWH
  refine mu_ofWA G M_X12_pattern [.ref m, .int (mI rim), mu_no, mu_no, mu_no, mu_no] (by decide) rfl (Nat.le_of_ble_eq_true rfl) ?_
  intro X E
  have B : mu_B X G cX12_pattern RX12 6 (mu_rm M_X12_pattern) := E.1
  have LY : ∀ y (p : Nat), y ≤ H → (pt_I W H rim c 0 y p) → mu_WA X G 6 (mu_Q X G M_X12_pattern (pp_post w W H rim c)) w 0 0 14 [.ref m, .int (mI rim), .int (mI p), .int (mI ((W - 2 * rim) : Nat)), .int (mI y), mu_no] [] := by
    refine mu_ind (H) (fun y (p : Nat) => mu_WA X G 6 (mu_Q X G M_X12_pattern (pp_post w W H rim c)) w 0 0 14 [.ref m, .int (mI rim), .int (mI p), .int (mI ((W - 2 * rim) : Nat)), .int (mI y), mu_no] []) (fun y (p : Nat) => pt_I W H rim c 0 y p) ?_
    rintro y p hy hI ihy
    refine mu_il_4 B dX12_pattern_14 ?_
    refine mu_al_0 B dX12_pattern_16 ?_
    refine mu_getI B dX12_pattern_17 fX12_276 rfl (by assumption) ?_
    rw [h41]
    refine mu_icmp_ge (tgt := 120) B dX12_pattern_20 (by decide) (fun c20 => ?_) (fun c20 => ?_)
    · try rw [mI_le ⟨by omega, by omega⟩ ⟨by omega, by omega⟩] at c20
      obtain rfl : H = y := by omega
      refine mu_il_2 B dX12_pattern_120 ?_
      refine mu_iret E rfl (by decide) (by decide) dX12_pattern_121 ?_
      exact ⟨rfl, p, rfl, hI.end⟩
    · try rw [mI_le ⟨by omega, by omega⟩ ⟨by omega, by omega⟩] at c20
      have hy9 : y < H := by omega
      refine mu_iconst (v := mI 0) B dX12_pattern_23 rfl ?_
      refine mu_is_5 B dX12_pattern_24 (by decide) rfl ?_
      have LX : ∀ x (p : Nat), x ≤ W → (pt_I W H rim c x y p) → mu_WA X G 6 (mu_Q X G M_X12_pattern (pp_post w W H rim c)) w 0 0 26 [.ref m, .int (mI rim), .int (mI p), .int (mI ((W - 2 * rim) : Nat)), .int (mI y), .int (mI x)] [] := by
        refine mu_ind (W) (fun x (p : Nat) => mu_WA X G 6 (mu_Q X G M_X12_pattern (pp_post w W H rim c)) w 0 0 26 [.ref m, .int (mI rim), .int (mI p), .int (mI ((W - 2 * rim) : Nat)), .int (mI y), .int (mI x)] []) (fun x (p : Nat) => pt_I W H rim c x y p) ?_
        rintro x p hx hI ihx
        have hpb : p < 65536 := Nat.lt_of_lt_of_le hI.1 (Nat.le_trans (Nat.pow_le_pow_right (by decide) h16) (by decide))
        refine mu_il_5 B dX12_pattern_26 ?_
        refine mu_al_0 B dX12_pattern_28 ?_
        refine mu_getI B dX12_pattern_29 fX12_273 rfl (by assumption) ?_
        rw [h40]
        refine mu_icmp_ge (tgt := 114) B dX12_pattern_32 (by decide) (fun c32 => ?_) (fun c32 => ?_)
        · try rw [mI_le ⟨by omega, by omega⟩ ⟨by omega, by omega⟩] at c32
          obtain rfl : W = x := by omega
          refine mu_inc_4 (c := mI 1) B dX12_pattern_114 rfl (by decide) rfl ?_
          rw [mI_add]
          refine mu_goto (tgt := 14) B dX12_pattern_117 (by decide) ?_
          refine mu_fg (ihy p (by omega) (hI.row (by omega))) rfl (by rw [show ((y + 1 : Nat) : Int) = (y : Int) + 1 by omega]; exact ⟨Or.inl rfl, Or.inl rfl, Or.inl rfl, Or.inl rfl, Or.inl rfl, Or.inr rfl, trivial⟩)
        · try rw [mI_le ⟨by omega, by omega⟩ ⟨by omega, by omega⟩] at c32
          have hx9 : W * y + x < W * H := wh_ix (by omega) (by omega)
          have hcl := hB.2.2.2.1 x y (by omega) (by omega)
          rw [Nat.zero_add] at hcl
          have hc9 := hB.2.2.2.2 x y
          refine mu_al_0 B dX12_pattern_35 ?_
          refine mu_getR B dX12_pattern_36 fX12_80 rfl (by assumption) (by assumption) ?_
          refine mu_al_0 B dX12_pattern_39 ?_
          refine mu_getI B dX12_pattern_40 fX12_273 rfl (by assumption) ?_
          rw [h40]
          refine mu_il_4 B dX12_pattern_43 ?_
          refine mu_imul B dX12_pattern_45 ?_
          try rw [mI_mul]
          try rw [mI_mul]
          rw [← Int.natCast_mul]
          refine mu_il_5 B dX12_pattern_46 ?_
          refine mu_iadd B dX12_pattern_48 ?_
          try rw [mI_add]
          try rw [mI_add]
          rw [← Int.natCast_add]
          refine mu_bald B dX12_pattern_49 (by assumption) (mI_inN (by omega) (by decide)) ?_
          rw [mI_clampN (by omega), hcl]
          refine mu_if_ne (tgt := 56) B dX12_pattern_50 (by decide) (fun c50 => ?_) (fun c50 => ?_)
          · try rw [mI_eq0 ⟨by omega, by omega⟩] at c50
            have hc1 : c x y = 1 := by omega
            refine mu_il_5 B dX12_pattern_56 ?_
            refine mu_il_1 B dX12_pattern_58 ?_
            refine mu_icmp_lt (tgt := 90) B dX12_pattern_59 (by decide) (fun c59 => ?_) (fun c59 => ?_)
            · try rw [mI_lt ⟨by omega, by omega⟩ ⟨by omega, by omega⟩] at c59
              refine mu_iconst (v := mI (-1)) B dX12_pattern_90 rfl ?_
              refine mu_iret E rfl (by decide) (by decide) dX12_pattern_91 ?_
              exact ⟨rfl, -1, rfl, Or.inl ⟨rfl, x, y, by omega, hy9, hc1, by unfold pt_in; omega⟩⟩
            · try rw [mI_lt ⟨by omega, by omega⟩ ⟨by omega, by omega⟩] at c59
              refine mu_il_4 B dX12_pattern_62 ?_
              refine mu_il_1 B dX12_pattern_64 ?_
              refine mu_icmp_lt (tgt := 90) B dX12_pattern_65 (by decide) (fun c65 => ?_) (fun c65 => ?_)
              · try rw [mI_lt ⟨by omega, by omega⟩ ⟨by omega, by omega⟩] at c65
                refine mu_iconst (v := mI (-1)) B dX12_pattern_90 rfl ?_
                refine mu_iret E rfl (by decide) (by decide) dX12_pattern_91 ?_
                exact ⟨rfl, -1, rfl, Or.inl ⟨rfl, x, y, by omega, hy9, hc1, by unfold pt_in; omega⟩⟩
              · try rw [mI_lt ⟨by omega, by omega⟩ ⟨by omega, by omega⟩] at c65
                refine mu_il_5 B dX12_pattern_68 ?_
                refine mu_al_0 B dX12_pattern_70 ?_
                refine mu_getI B dX12_pattern_71 fX12_273 rfl (by assumption) ?_
                rw [h40]
                refine mu_il_1 B dX12_pattern_74 ?_
                refine mu_isub B dX12_pattern_75 ?_
                try rw [mI_sub]
                refine mu_icmp_ge (tgt := 90) B dX12_pattern_76 (by decide) (fun c76 => ?_) (fun c76 => ?_)
                · try rw [mI_le ⟨by omega, by omega⟩ ⟨by omega, by omega⟩] at c76
                  refine mu_iconst (v := mI (-1)) B dX12_pattern_90 rfl ?_
                  refine mu_iret E rfl (by decide) (by decide) dX12_pattern_91 ?_
                  exact ⟨rfl, -1, rfl, Or.inl ⟨rfl, x, y, by omega, hy9, hc1, by unfold pt_in; omega⟩⟩
                · try rw [mI_le ⟨by omega, by omega⟩ ⟨by omega, by omega⟩] at c76
                  refine mu_il_4 B dX12_pattern_79 ?_
                  refine mu_al_0 B dX12_pattern_81 ?_
                  refine mu_getI B dX12_pattern_82 fX12_276 rfl (by assumption) ?_
                  rw [h41]
                  refine mu_il_1 B dX12_pattern_85 ?_
                  refine mu_isub B dX12_pattern_86 ?_
                  try rw [mI_sub]
                  refine mu_icmp_lt (tgt := 92) B dX12_pattern_87 (by decide) (fun c87 => ?_) (fun c87 => ?_)
                  · try rw [mI_lt ⟨by omega, by omega⟩ ⟨by omega, by omega⟩] at c87
                    have hin : pt_in W H rim x y := ⟨by omega, by omega, by omega, by omega⟩
                    have hlv := hI.live hc1 (by omega) hy9 hin
                    have htb : (y - rim) * (W - 2 * rim) + (x - rim) < 16 := by have := wh_ix (W := W - 2 * rim) (H := H - 2 * rim) (i := x - rim) (j := y - rim) (by omega) (by omega); rw [Nat.mul_comm (y - rim)]; rw [Nat.mul_comm] at h16; omega
                    refine mu_il_2 B dX12_pattern_92 ?_
                    refine mu_iconst (v := mI 1) B dX12_pattern_93 rfl ?_
                    refine mu_il_4 B dX12_pattern_94 ?_
                    refine mu_il_1 B dX12_pattern_96 ?_
                    refine mu_isub B dX12_pattern_97 ?_
                    try rw [mI_sub]
                    try rw [mI_sub]
                    rw [show (y : Int) - (rim : Int) = ((y - rim : Nat) : Int) by omega]
                    refine mu_il_3 B dX12_pattern_98 ?_
                    refine mu_imul B dX12_pattern_99 ?_
                    try rw [mI_mul]
                    try rw [mI_mul]
                    rw [← Int.natCast_mul]
                    refine mu_il_5 B dX12_pattern_100 ?_
                    refine mu_iadd B dX12_pattern_102 ?_
                    try rw [mI_add]
                    refine mu_il_1 B dX12_pattern_103 ?_
                    refine mu_isub B dX12_pattern_104 ?_
                    try rw [mI_sub]
                    try rw [mI_sub]
                    rw [show (((y - rim) * (W - 2 * rim) : Nat) : Int) + (x : Int) - (rim : Int) = (((y - rim) * (W - 2 * rim) + (x - rim) : Nat) : Int) by omega]
                    refine mu_ishl B dX12_pattern_105 ?_
                    rw [mI_shl _ _ (by omega), Int.one_mul]
                    rw [show (2 : Int) ^ ((y - rim) * (W - 2 * rim) + (x - rim)) = ((2 ^ ((y - rim) * (W - 2 * rim) + (x - rim)) : Nat) : Int) by rw [Int.natCast_pow]; rfl]
                    refine mu_ior B dX12_pattern_106 ?_
                    have hp2 : 2 ^ ((y - rim) * (W - 2 * rim) + (x - rim)) < 2 ^ 16 := Nat.pow_lt_pow_right (by decide) htb
                    rw [mI_or (by omega) (by omega)]
                    refine mu_is_2 B dX12_pattern_107 (by decide) rfl ?_
                    refine mu_inc_5 (c := mI 1) B dX12_pattern_108 rfl (by decide) rfl ?_
                    try rw [mI_add]
                    refine mu_goto (tgt := 26) B dX12_pattern_111 (by decide) ?_
                    first
                      | refine mu_to (ihx _ (by omega) hlv) rfl (by rw [show ((x + 1 : Nat) : Int) = (x : Int) + 1 by omega])
                      | refine mu_to (ihx _ (by omega) (hI.dead (by omega))) rfl (by rw [show ((x + 1 : Nat) : Int) = (x : Int) + 1 by omega])
                  · try rw [mI_lt ⟨by omega, by omega⟩ ⟨by omega, by omega⟩] at c87
                    refine mu_iconst (v := mI (-1)) B dX12_pattern_90 rfl ?_
                    refine mu_iret E rfl (by decide) (by decide) dX12_pattern_91 ?_
                    exact ⟨rfl, -1, rfl, Or.inl ⟨rfl, x, y, by omega, hy9, hc1, by unfold pt_in; omega⟩⟩
          · try rw [mI_eq0 ⟨by omega, by omega⟩] at c50
            refine mu_goto (tgt := 108) B dX12_pattern_53 (by decide) ?_
            refine mu_inc_5 (c := mI 1) B dX12_pattern_108 rfl (by decide) rfl ?_
            try rw [mI_add]
            refine mu_goto (tgt := 26) B dX12_pattern_111 (by decide) ?_
            first
              | refine mu_to (ihx _ (by omega) hlv) rfl (by rw [show ((x + 1 : Nat) : Int) = (x : Int) + 1 by omega])
              | refine mu_to (ihx _ (by omega) (hI.dead (by omega))) rfl (by rw [show ((x + 1 : Nat) : Int) = (x : Int) + 1 by omega])
      exact LX 0 p (Nat.zero_le _) hI
  show mu_WA X G 6 _ _ 0 0 0 _ []
  refine mu_iconst (v := mI 0) B dX12_pattern_0 rfl ?_
  refine mu_is_2 B dX12_pattern_1 (by decide) rfl ?_
  refine mu_al_0 B dX12_pattern_2 ?_
  refine mu_getI B dX12_pattern_3 fX12_273 rfl (by assumption) ?_
  rw [h40]
  refine mu_iconst (v := mI 2) B dX12_pattern_6 rfl ?_
  refine mu_il_1 B dX12_pattern_7 ?_
  refine mu_imul B dX12_pattern_8 ?_
  try rw [mI_mul]
  refine mu_isub B dX12_pattern_9 ?_
  try rw [mI_sub]
  refine mu_is_3 B dX12_pattern_10 (by decide) rfl ?_
  refine mu_iconst (v := mI 0) B dX12_pattern_11 rfl ?_
  refine mu_is_4 B dX12_pattern_12 (by decide) rfl ?_
  refine mu_fg (LY 0 0 (Nat.zero_le _) (pt_I.start W H rim c)) rfl (by rw [show (W : Int) - 2 * (rim : Int) = ((W - 2 * rim : Nat) : Int) by omega]; exact ⟨Or.inl rfl, Or.inl rfl, Or.inl rfl, Or.inl rfl, Or.inl rfl, Or.inr rfl, trivial⟩)

def rf_fit (x y : Int) (mo mx : Nat) : Prop := (0 < x ∧ x ≤ 16) ∧ (0 < y ∧ y ≤ 16) ∧ (x.toNat + mo) * (y.toNat + mo) ≤ mx
def sp_quiet (r : mu_RS) : Prop := rs_nb r ≠ 0 ∧ rs_bo r % 2 = 0
noncomputable def rf_v (nr : Nat) (rs : Nat → mu_RS) (sr : Nat) (z x y : Int) (mo mx : Nat) : Int := @ite _ (¬ ((0 ≤ z ∧ z < nr) ∧ rf_fit x y mo mx)) (Classical.propDecidable _) (-1) (@ite _ (¬ sp_quiet (rs z.toNat)) (Classical.propDecidable _) (-2) (if sr = 30 then -3 else 0))

set_option maxHeartbeats 4000000 in
set_option maxRecDepth 100000 in
theorem c_X12_refused (G : mu_G) {w : mu_W} {m : Nat} (hm : mo_ok w m) {nr : Nat} {rs : Nat → mu_RS} (hru : MRu w m nr rs) {sr : Nat} (hsr : mu_iv w m 42 = mI sr) (hsr2 : sr ≤ 30) {z x y : Int} {mo mx : Nat} (hz : mi_ok z) (hx : mi_ok x) (hy : mi_ok y) (hmo : mo ≤ 2) (hmx : mx ≤ 16) : mu_Ct G M_X12_refused [.ref m, .int (mI z), .int (mI x), .int (mI y), .int (mI mo), .int (mI mx)] w (fun r w' => r = some (.int (mI (rf_v nr rs sr z x y mo mx))) ∧ w' = w) := by
  have hk0 := hm.1
  have hnr := hru.1
  obtain ⟨hz1, hz2⟩ := id hz
  obtain ⟨hx1, hx2⟩ := hx
  obtain ⟨hy1, hy2⟩ := hy
  refine mu_ofWA G M_X12_refused [.ref m, .int (mI z), .int (mI x), .int (mI y), .int (mI mo), .int (mI mx), mu_no] (by decide) rfl (Nat.le_of_ble_eq_true rfl) ?_
  intro X E
  have B : mu_B X G cX12_refused RX12 7 (mu_rm M_X12_refused) := E.1
  have K39 : ∀ v : Int, ((v = 1 ∧ rf_fit x y mo mx) ∨ (v = 0 ∧ ¬ rf_fit x y mo mx)) → mu_WA X G 7 (mu_Q X G M_X12_refused (fun r w' => r = some (.int (mI (rf_v nr rs sr z x y mo mx))) ∧ w' = w)) w 0 0 39 [.ref m, .int (mI z), .int (mI x), .int (mI y), .int (mI (mo : Int)), .int (mI (mx : Int)), mu_no] [.int (mI v)] := by
    intro v hv
    refine mu_is_6 B dX12_refused_39 (by decide) rfl ?_
    refine mu_al_0 B dX12_refused_41 ?_
    refine mu_il_1 B dX12_refused_42 ?_
    refine mu_eV1 B dX12_refused_43 mX12_161 ⟨⟨by decide, by decide⟩, by decide, by decide⟩ (Nat.le_of_ble_eq_true rfl) (by assumption) (c_X12_isRule G hm (n := nr) hru.2.1 hru.1 hz) ?_
    refine mu_if_eq (tgt := 54) B dX12_refused_46 (by decide) (fun c46 => ?_) (fun c46 => ?_)
    · have z46 := mu_bf c46
      refine mu_iconst (v := mI (-1)) B dX12_refused_54 rfl ?_
      refine mu_goto (tgt := 86) B dX12_refused_55 (by decide) ?_
      refine mu_iret E rfl (by decide) (by decide) dX12_refused_86 ?_
      unfold rf_v
      refine ⟨?_, rfl⟩
      first
        | (rw [if_pos (fun hh => z46 hh.1)])
        | (rw [if_pos (fun hh => hft hh.2)])
        | (rw [if_neg (fun hh => hh ⟨z46, hft⟩), Int.toNat_natCast, if_pos (show ¬ sp_quiet (rs k) from z63)])
        | (rw [if_neg (fun hh => hh ⟨z46, hft⟩), Int.toNat_natCast, if_neg (fun hh => hh (show sp_quiet (rs k) from z63)), if_pos (by omega)])
        | (rw [if_neg (fun hh => hh ⟨z46, hft⟩), Int.toNat_natCast, if_neg (fun hh => hh (show sp_quiet (rs k) from z63)), if_neg (by omega)])
    · have z46 := mu_bt c46
      refine mu_il_6 B dX12_refused_49 ?_
      refine mu_if_ne (tgt := 58) B dX12_refused_51 (by decide) (fun c51 => ?_) (fun c51 => ?_)
      · try rw [mI_eq0 ⟨by omega, by omega⟩] at c51
        have hft : rf_fit x y mo mx := by rcases hv with h | h; exact h.2; omega
        obtain ⟨k, hk⟩ : ∃ k : Nat, z = k := ⟨z.toNat, by omega⟩
        subst hk
        refine mu_al_0 B dX12_refused_58 ?_
        refine mu_il_1 B dX12_refused_59 ?_
        refine mu_eV1 B dX12_refused_60 mX12_175 ⟨⟨by decide, by decide⟩, by decide, by decide⟩ (Nat.le_of_ble_eq_true rfl) (by assumption) (c_X12_isQuiet G hm hru (k := k) (by omega)) ?_
        refine mu_if_ne (tgt := 71) B dX12_refused_63 (by decide) (fun c63 => ?_) (fun c63 => ?_)
        · have z63 := mu_bt c63
          refine mu_al_0 B dX12_refused_71 ?_
          refine mu_getI B dX12_refused_72 fX12_279 rfl (by assumption) ?_
          rw [hsr]
          refine mu_bipush (v := mI 30) B dX12_refused_75 (by decide) ?_
          refine mu_icmp_ne (tgt := 85) B dX12_refused_77 (by decide) (fun c77 => ?_) (fun c77 => ?_)
          · try rw [mI_eq ⟨by omega, by omega⟩ ⟨by omega, by omega⟩] at c77
            refine mu_iconst (v := mI 0) B dX12_refused_85 rfl ?_
            refine mu_iret E rfl (by decide) (by decide) dX12_refused_86 ?_
            unfold rf_v
            refine ⟨?_, rfl⟩
            first
              | (rw [if_pos (fun hh => z46 hh.1)])
              | (rw [if_pos (fun hh => hft hh.2)])
              | (rw [if_neg (fun hh => hh ⟨z46, hft⟩), Int.toNat_natCast, if_pos (show ¬ sp_quiet (rs k) from z63)])
              | (rw [if_neg (fun hh => hh ⟨z46, hft⟩), Int.toNat_natCast, if_neg (fun hh => hh (show sp_quiet (rs k) from z63)), if_pos (by omega)])
              | (rw [if_neg (fun hh => hh ⟨z46, hft⟩), Int.toNat_natCast, if_neg (fun hh => hh (show sp_quiet (rs k) from z63)), if_neg (by omega)])
          · try rw [mI_eq ⟨by omega, by omega⟩ ⟨by omega, by omega⟩] at c77
            refine mu_bipush (v := mI (-3)) B dX12_refused_80 (by decide) ?_
            refine mu_goto (tgt := 86) B dX12_refused_82 (by decide) ?_
            refine mu_iret E rfl (by decide) (by decide) dX12_refused_86 ?_
            unfold rf_v
            refine ⟨?_, rfl⟩
            first
              | (rw [if_pos (fun hh => z46 hh.1)])
              | (rw [if_pos (fun hh => hft hh.2)])
              | (rw [if_neg (fun hh => hh ⟨z46, hft⟩), Int.toNat_natCast, if_pos (show ¬ sp_quiet (rs k) from z63)])
              | (rw [if_neg (fun hh => hh ⟨z46, hft⟩), Int.toNat_natCast, if_neg (fun hh => hh (show sp_quiet (rs k) from z63)), if_pos (by omega)])
              | (rw [if_neg (fun hh => hh ⟨z46, hft⟩), Int.toNat_natCast, if_neg (fun hh => hh (show sp_quiet (rs k) from z63)), if_neg (by omega)])
        · have z63 := mu_bf c63
          refine mu_bipush (v := mI (-2)) B dX12_refused_66 (by decide) ?_
          refine mu_goto (tgt := 86) B dX12_refused_68 (by decide) ?_
          refine mu_iret E rfl (by decide) (by decide) dX12_refused_86 ?_
          unfold rf_v
          refine ⟨?_, rfl⟩
          first
            | (rw [if_pos (fun hh => z46 hh.1)])
            | (rw [if_pos (fun hh => hft hh.2)])
            | (rw [if_neg (fun hh => hh ⟨z46, hft⟩), Int.toNat_natCast, if_pos (show ¬ sp_quiet (rs k) from z63)])
            | (rw [if_neg (fun hh => hh ⟨z46, hft⟩), Int.toNat_natCast, if_neg (fun hh => hh (show sp_quiet (rs k) from z63)), if_pos (by omega)])
            | (rw [if_neg (fun hh => hh ⟨z46, hft⟩), Int.toNat_natCast, if_neg (fun hh => hh (show sp_quiet (rs k) from z63)), if_neg (by omega)])
      · try rw [mI_eq0 ⟨by omega, by omega⟩] at c51
        have hft : ¬ rf_fit x y mo mx := by rcases hv with h | h; omega; exact h.2
        refine mu_iconst (v := mI (-1)) B dX12_refused_54 rfl ?_
        refine mu_goto (tgt := 86) B dX12_refused_55 (by decide) ?_
        refine mu_iret E rfl (by decide) (by decide) dX12_refused_86 ?_
        unfold rf_v
        refine ⟨?_, rfl⟩
        first
          | (rw [if_pos (fun hh => z46 hh.1)])
          | (rw [if_pos (fun hh => hft hh.2)])
          | (rw [if_neg (fun hh => hh ⟨z46, hft⟩), Int.toNat_natCast, if_pos (show ¬ sp_quiet (rs k) from z63)])
          | (rw [if_neg (fun hh => hh ⟨z46, hft⟩), Int.toNat_natCast, if_neg (fun hh => hh (show sp_quiet (rs k) from z63)), if_pos (by omega)])
          | (rw [if_neg (fun hh => hh ⟨z46, hft⟩), Int.toNat_natCast, if_neg (fun hh => hh (show sp_quiet (rs k) from z63)), if_neg (by omega)])
  show mu_WA X G 7 _ _ 0 0 0 _ []
  refine mu_il_2 B dX12_refused_0 ?_
  refine mu_if_le (tgt := 38) B dX12_refused_1 (by decide) (fun c1 => ?_) (fun c1 => ?_)
  · try rw [mI_le0 ⟨by omega, by omega⟩] at c1
    refine mu_iconst (v := mI 0) B dX12_refused_38 rfl ?_
    first
      | exact K39 1 (Or.inl ⟨rfl, by unfold rf_fit; rw [Int.toNat_natCast, Int.toNat_natCast]; exact ⟨by omega, by omega, by omega⟩⟩)
      | exact K39 0 (Or.inr ⟨rfl, fun hh => by unfold rf_fit at hh; omega⟩)
      | exact K39 0 (Or.inr ⟨rfl, fun hh => by unfold rf_fit at hh; rw [Int.toNat_natCast, Int.toNat_natCast] at hh; omega⟩)
  · try rw [mI_le0 ⟨by omega, by omega⟩] at c1
    refine mu_il_3 B dX12_refused_4 ?_
    refine mu_if_le (tgt := 38) B dX12_refused_5 (by decide) (fun c5 => ?_) (fun c5 => ?_)
    · try rw [mI_le0 ⟨by omega, by omega⟩] at c5
      refine mu_iconst (v := mI 0) B dX12_refused_38 rfl ?_
      first
        | exact K39 1 (Or.inl ⟨rfl, by unfold rf_fit; rw [Int.toNat_natCast, Int.toNat_natCast]; exact ⟨by omega, by omega, by omega⟩⟩)
        | exact K39 0 (Or.inr ⟨rfl, fun hh => by unfold rf_fit at hh; omega⟩)
        | exact K39 0 (Or.inr ⟨rfl, fun hh => by unfold rf_fit at hh; rw [Int.toNat_natCast, Int.toNat_natCast] at hh; omega⟩)
    · try rw [mI_le0 ⟨by omega, by omega⟩] at c5
      refine mu_il_2 B dX12_refused_8 ?_
      refine mu_bipush (v := mI 16) B dX12_refused_9 (by decide) ?_
      refine mu_icmp_gt (tgt := 38) B dX12_refused_11 (by decide) (fun c11 => ?_) (fun c11 => ?_)
      · try rw [mI_lt ⟨by omega, by omega⟩ ⟨by omega, by omega⟩] at c11
        refine mu_iconst (v := mI 0) B dX12_refused_38 rfl ?_
        first
          | exact K39 1 (Or.inl ⟨rfl, by unfold rf_fit; rw [Int.toNat_natCast, Int.toNat_natCast]; exact ⟨by omega, by omega, by omega⟩⟩)
          | exact K39 0 (Or.inr ⟨rfl, fun hh => by unfold rf_fit at hh; omega⟩)
          | exact K39 0 (Or.inr ⟨rfl, fun hh => by unfold rf_fit at hh; rw [Int.toNat_natCast, Int.toNat_natCast] at hh; omega⟩)
      · try rw [mI_lt ⟨by omega, by omega⟩ ⟨by omega, by omega⟩] at c11
        refine mu_il_3 B dX12_refused_14 ?_
        refine mu_bipush (v := mI 16) B dX12_refused_15 (by decide) ?_
        refine mu_icmp_gt (tgt := 38) B dX12_refused_17 (by decide) (fun c17 => ?_) (fun c17 => ?_)
        · try rw [mI_lt ⟨by omega, by omega⟩ ⟨by omega, by omega⟩] at c17
          refine mu_iconst (v := mI 0) B dX12_refused_38 rfl ?_
          first
            | exact K39 1 (Or.inl ⟨rfl, by unfold rf_fit; rw [Int.toNat_natCast, Int.toNat_natCast]; exact ⟨by omega, by omega, by omega⟩⟩)
            | exact K39 0 (Or.inr ⟨rfl, fun hh => by unfold rf_fit at hh; omega⟩)
            | exact K39 0 (Or.inr ⟨rfl, fun hh => by unfold rf_fit at hh; rw [Int.toNat_natCast, Int.toNat_natCast] at hh; omega⟩)
        · try rw [mI_lt ⟨by omega, by omega⟩ ⟨by omega, by omega⟩] at c17
          obtain ⟨a, ha⟩ : ∃ a : Nat, x = a := ⟨x.toNat, by omega⟩
          subst ha
          obtain ⟨b, hb⟩ : ∃ b : Nat, y = b := ⟨y.toNat, by omega⟩
          subst hb
          have hab : (a + mo) * (b + mo) ≤ 18 * 18 := Nat.mul_le_mul (by omega) (by omega)
          refine mu_il_2 B dX12_refused_20 ?_
          refine mu_il_4 B dX12_refused_21 ?_
          refine mu_iadd B dX12_refused_23 ?_
          try rw [mI_add]
          refine mu_il_3 B dX12_refused_24 ?_
          refine mu_il_4 B dX12_refused_25 ?_
          refine mu_iadd B dX12_refused_27 ?_
          try rw [mI_add]
          refine mu_imul B dX12_refused_28 ?_
          try rw [mI_mul]
          try rw [mI_mul]
          rw [← Int.natCast_add, ← Int.natCast_add, ← Int.natCast_mul]
          refine mu_il_5 B dX12_refused_29 ?_
          refine mu_icmp_gt (tgt := 38) B dX12_refused_31 (by decide) (fun c31 => ?_) (fun c31 => ?_)
          · try rw [mI_lt ⟨by omega, by omega⟩ ⟨by omega, by omega⟩] at c31
            refine mu_iconst (v := mI 0) B dX12_refused_38 rfl ?_
            first
              | exact K39 1 (Or.inl ⟨rfl, by unfold rf_fit; rw [Int.toNat_natCast, Int.toNat_natCast]; exact ⟨by omega, by omega, by omega⟩⟩)
              | exact K39 0 (Or.inr ⟨rfl, fun hh => by unfold rf_fit at hh; omega⟩)
              | exact K39 0 (Or.inr ⟨rfl, fun hh => by unfold rf_fit at hh; rw [Int.toNat_natCast, Int.toNat_natCast] at hh; omega⟩)
          · try rw [mI_lt ⟨by omega, by omega⟩ ⟨by omega, by omega⟩] at c31
            refine mu_iconst (v := mI 1) B dX12_refused_34 rfl ?_
            refine mu_goto (tgt := 39) B dX12_refused_35 (by decide) ?_
            first
              | exact K39 1 (Or.inl ⟨rfl, by unfold rf_fit; rw [Int.toNat_natCast, Int.toNat_natCast]; exact ⟨by omega, by omega, by omega⟩⟩)
              | exact K39 0 (Or.inr ⟨rfl, fun hh => by unfold rf_fit at hh; omega⟩)
              | exact K39 0 (Or.inr ⟨rfl, fun hh => by unfold rf_fit at hh; rw [Int.toNat_natCast, Int.toNat_natCast] at hh; omega⟩)

set_option maxHeartbeats 4000000 in
set_option maxRecDepth 100000 in
theorem c_X12_done (G : mu_G) {w : mu_W} {m : Nat} (hm : mo_ok w m) {sr fd : Nat} (hsr : mu_iv w m 42 = mI sr) (hfd : mu_iv w m 43 = mI fd) : mu_Ct G M_X12_done [.ref m] w (fun r w' => r = some (.int (mI fd)) ∧ w' = mu_si w m 42 (mI ((sr + 1 : Nat) : Int))) := by
  have hk0 := hm.1
  refine mu_ofWA G M_X12_done [.ref m] (by decide) rfl (Nat.le_of_ble_eq_true rfl) ?_
  intro X E
  have B : mu_B X G cX12_done RX12 1 (mu_rm M_X12_done) := E.1
  show mu_WA X G 1 _ _ 0 0 0 _ []
  refine mu_al_0 B dX12_done_0 ?_
  refine mu_dup B dX12_done_1 rfl ?_
  refine mu_getI B dX12_done_2 fX12_279 rfl (by assumption) ?_
  rw [hsr]
  refine mu_iconst (v := mI 1) B dX12_done_5 rfl ?_
  refine mu_iadd B dX12_done_6 ?_
  try rw [mI_add]
  refine mu_putI B dX12_done_7 fX12_279 fwX12_42 rfl (by assumption) ?_
  rw [show (sr : Int) + 1 = ((sr + 1 : Nat) : Int) by omega]
  refine mu_al_0 B dX12_done_10 ?_
  refine mu_getI B dX12_done_11 fX12_282 rfl (by assumption) ?_
  rw [mu_iv_oth _ _ (by omega), hfd]
  refine mu_iret E rfl (by decide) (by decide) dX12_done_14 ?_
  exact ⟨rfl, rfl⟩

set_option maxHeartbeats 4000000 in
set_option maxRecDepth 100000 in
theorem c_X12_finds (G : mu_G) {w : mu_W} {m : Nat} (hm : mo_ok w m) {fd : Nat} {p : Int} (hfd : mu_iv w m 43 = mI fd) (hfd2 : fd < 65536) : mu_Ct G M_X12_finds [.ref m, .int (mI p)] w (fun r w' => r = none ∧ w' = mu_si (mu_si w (m + 25) fd (mI p)) m 43 (mI ((fd + 1 : Nat) : Int))) := by
  have hk0 := hm.1
  obtain ⟨r44, k44⟩ := mo_44 hm
  refine mu_ofWA G M_X12_finds [.ref m, .int (mI p)] (by decide) rfl (Nat.le_of_ble_eq_true rfl) ?_
  intro X E
  have B : mu_B X G cX12_finds RX12 2 (mu_rm M_X12_finds) := E.1
  show mu_WA X G 2 _ _ 0 0 0 _ []
  refine mu_al_0 B dX12_finds_0 ?_
  refine mu_getR B dX12_finds_1 fX12_86 rfl (by assumption) (by assumption) ?_
  refine mu_al_0 B dX12_finds_4 ?_
  refine mu_getI B dX12_finds_5 fX12_282 rfl (by assumption) ?_
  rw [hfd]
  refine mu_il_1 B dX12_finds_8 ?_
  refine mu_iast B dX12_finds_9 (by assumption) (mI_inN (by omega) (by decide)) ?_
  rw [mI_clampN (by omega)]
  refine mu_al_0 B dX12_finds_10 ?_
  refine mu_dup B dX12_finds_11 rfl ?_
  refine mu_getI B dX12_finds_12 fX12_282 rfl (by assumption) ?_
  rw [mu_iv_oth _ _ (by omega), hfd]
  refine mu_iconst (v := mI 1) B dX12_finds_15 rfl ?_
  refine mu_iadd B dX12_finds_16 ?_
  try rw [mI_add]
  refine mu_putI B dX12_finds_17 fX12_282 fwX12_43 rfl (by assumption) ?_
  rw [show (fd : Int) + 1 = ((fd + 1 : Nat) : Int) by omega]
  refine mu_vret E rfl (by decide) (by decide) dX12_finds_20 ?_
  exact ⟨rfl, rfl⟩
