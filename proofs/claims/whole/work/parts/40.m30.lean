/-! ===== longs as whole numbers ===== -/
abbrev ml_ok (z : Int) : Prop := -9223372036854775808 ≤ z ∧ z < 9223372036854775808
theorem mL_toInt {z : Int} (h : ml_ok z) : (mL z).toInt = z := Int64.toInt_ofInt_of_le (by have := h.1; omega) (by have := h.2; omega)
theorem mL_add (a b : Int) : mL a + mL b = mL (a + b) := (Int64.ofInt_add a b).symm
theorem mL_sub (a b : Int) : mL a - mL b = mL (a - b) := (Int64.ofInt_sub a b).symm
theorem mL_mul (a b : Int) : mL a * mL b = mL (a * b) := (Int64.ofInt_mul a b).symm
theorem mL_neg (a : Int) : -mL a = mL (-a) := (Int64.ofInt_neg a).symm
theorem mL_lt {a b : Int} (ha : ml_ok a) (hb : ml_ok b) : mL a < mL b ↔ a < b := by rw [Int64.lt_iff_toInt_lt, mL_toInt ha, mL_toInt hb]
theorem mL_le {a b : Int} (ha : ml_ok a) (hb : ml_ok b) : mL a ≤ mL b ↔ a ≤ b := by rw [Int64.le_iff_toInt_le, mL_toInt ha, mL_toInt hb]
theorem mL_eq {a b : Int} (ha : ml_ok a) (hb : ml_ok b) : mL a = mL b ↔ a = b := by
  constructor
  · intro h
    have := congrArg Int64.toInt h
    rwa [mL_toInt ha, mL_toInt hb] at this
  · rintro rfl
    rfl
theorem mL_ne {z : Int} (h0 : z ≠ 0) (h : ml_ok z) : ¬ mL z = 0 := fun e => h0 ((mL_eq (b := 0) h ⟨by decide, by decide⟩).mp e)
theorem mL_mn : Int64.minValue.toInt = -9223372036854775808 := by decide
theorem mL_mx : Int64.maxValue.toInt = 9223372036854775807 := by decide
theorem mL_div {a b : Int} (ha : ml_ok a) (hb : ml_ok b) : mL a / mL b = mL (a.tdiv b) := (Int64.ofInt_tdiv (by rw [mL_mn]; exact ha.1) (by rw [mL_mx]; have := ha.2; omega) (by rw [mL_mn]; exact hb.1) (by rw [mL_mx]; have := hb.2; omega)).symm
theorem mL_remN {x y : Nat} (hx : x < 9223372036854775808) (hy : y < 9223372036854775808) : mL (x : Int) - mL (x : Int) / mL (y : Int) * mL (y : Int) = mL ((x % y : Nat) : Int) := by
  rw [mL_div ⟨by omega, by omega⟩ ⟨by omega, by omega⟩, mL_mul, mL_sub]
  congr 1
  have h := Int.mul_tdiv_add_tmod (x : Int) (y : Int)
  have h2 : (x : Int).tmod (y : Int) = ((x % y : Nat) : Int) := rfl
  rw [h2] at h
  rw [Int.mul_comm]
  omega
theorem mL_divx {g q : Int} (hg : g ≠ 0) (h1 : ml_ok (g * q)) (h2 : ml_ok g) : mL (g * q) / mL g = mL q := by rw [mL_div h1 h2, Int.mul_tdiv_cancel_left q hg]

set_option maxHeartbeats 4000000 in
set_option maxRecDepth 100000 in
theorem c_X12_common (G : mu_G) {w : mu_W} {a b : Int} (ha : a.natAbs < 9223372036854775808) (hb : b.natAbs < 9223372036854775808) : mu_Ct G M_X12_common [.long (mL a), .long (mL b)] w (fun r w' => r = some (.long (mL (Nat.gcd a.natAbs b.natAbs : Nat))) ∧ w' = w) := by
  refine mu_ofWA G M_X12_common [.long (mL a), mu_no, .long (mL b), mu_no, mu_no, mu_no, mu_no, mu_no, mu_no, mu_no] (by decide) rfl (Nat.le_of_ble_eq_true rfl) ?_
  intro X E
  have B : mu_B X G cX12_common RX12 10 (mu_rm M_X12_common) := E.1
  have LC : ∀ st : Nat × Nat, (st.1 < 9223372036854775808 ∧ st.2 < 9223372036854775808 ∧ Nat.gcd st.1 st.2 = Nat.gcd a.natAbs b.natAbs) → mu_WA X G 10 (mu_Q X G M_X12_common (fun r w' => r = some (.long (mL (Nat.gcd a.natAbs b.natAbs : Nat))) ∧ w' = w)) w 0 0 28 [.long (mL a), mu_no, .long (mL b), mu_no, .long (mL (st.1 : Int)), mu_no, .long (mL (st.2 : Int)), mu_no, mu_no, mu_no] [] := by
    refine mu_wf (fun st => st.2) _ _ ?_
    rintro ⟨x, y⟩ ⟨hx, hy, hg⟩ ih
    dsimp only at hx hy hg ih ⊢
    refine mu_ll_6 B dX12_common_28 ?_
    refine mu_lconst (v := mL 0) B dX12_common_30 rfl ?_
    refine mu_lcmp B dX12_common_31 ?_
    refine mu_if_eq (tgt := 53) B dX12_common_32 (by decide) (fun c32 => ?_) (fun c32 => ?_)
    · rw [lg_cmp_eq] at c32; try rw [mL_eq ⟨by omega, by omega⟩ ⟨by omega, by omega⟩] at c32
      refine mu_ll_4 B dX12_common_53 ?_
      refine mu_lret E rfl (by decide) (by decide) dX12_common_55 ?_
      have e0 : y = 0 := by omega
      rw [e0, Nat.gcd_zero_right] at hg
      rw [hg]
      exact ⟨rfl, rfl⟩
    · rw [lg_cmp_eq] at c32; try rw [mL_eq ⟨by omega, by omega⟩ ⟨by omega, by omega⟩] at c32
      refine mu_ll_4 B dX12_common_35 ?_
      refine mu_ll_6 B dX12_common_37 ?_
      refine mu_lrem B dX12_common_39 ?_ ?_
      · exact mL_ne (by omega) ⟨by omega, by omega⟩
      rw [mL_remN (by omega) (by omega)]
      refine mu_ls_8 B dX12_common_40 (by decide) rfl ?_
      refine mu_ll_6 B dX12_common_42 ?_
      refine mu_ls_4 B dX12_common_44 (by decide) rfl ?_
      refine mu_ll_8 B dX12_common_46 ?_
      refine mu_ls_6 B dX12_common_48 (by decide) rfl ?_
      refine mu_goto (tgt := 28) B dX12_common_50 (by decide) ?_
      have hlt := Nat.mod_lt x (show 0 < y by omega)
      refine mu_fg (ih (y, x % y) ⟨hy, by show x % y < _; omega, by show Nat.gcd y (x % y) = _; rw [← hg, Nat.gcd_comm x y, Nat.gcd_rec y x, Nat.gcd_comm]⟩ hlt) rfl (⟨Or.inl rfl, Or.inl rfl, Or.inl rfl, Or.inl rfl, Or.inl rfl, Or.inl rfl, Or.inl rfl, Or.inl rfl, Or.inr rfl, Or.inr rfl, trivial⟩)
  have K26 : ∀ z : Int, z = (b.natAbs : Int) → mu_WA X G 10 (mu_Q X G M_X12_common (fun r w' => r = some (.long (mL (Nat.gcd a.natAbs b.natAbs : Nat))) ∧ w' = w)) w 0 0 26 [.long (mL a), mu_no, .long (mL b), mu_no, .long (mL (a.natAbs : Int)), mu_no, mu_no, mu_no, mu_no, mu_no] [.long (mL z)] := by
    intro z hz
    rw [hz]
    refine mu_ls_6 B dX12_common_26 (by decide) rfl ?_
    exact LC (a.natAbs, b.natAbs) ⟨by omega, by omega, rfl⟩
  have K12 : ∀ z : Int, z = (a.natAbs : Int) → mu_WA X G 10 (mu_Q X G M_X12_common (fun r w' => r = some (.long (mL (Nat.gcd a.natAbs b.natAbs : Nat))) ∧ w' = w)) w 0 0 12 [.long (mL a), mu_no, .long (mL b), mu_no, mu_no, mu_no, mu_no, mu_no, mu_no, mu_no] [.long (mL z)] := by
    intro z hz
    rw [hz]
    refine mu_ls_4 B dX12_common_12 (by decide) rfl ?_
    refine mu_ll_2 B dX12_common_14 ?_
    refine mu_lconst (v := mL 0) B dX12_common_15 rfl ?_
    refine mu_lcmp B dX12_common_16 ?_
    refine mu_if_ge (tgt := 25) B dX12_common_17 (by decide) (fun c17 => ?_) (fun c17 => ?_)
    · rw [lg_cmp_ge] at c17; try rw [mL_le ⟨by omega, by omega⟩ ⟨by omega, by omega⟩] at c17
      refine mu_ll_2 B dX12_common_25 ?_
      exact K26 _ (by omega)
    · rw [lg_cmp_ge] at c17; try rw [mL_le ⟨by omega, by omega⟩ ⟨by omega, by omega⟩] at c17
      refine mu_ll_2 B dX12_common_20 ?_
      refine mu_lneg B dX12_common_21 ?_
      try rw [mL_neg]
      refine mu_goto (tgt := 26) B dX12_common_22 (by decide) ?_
      exact K26 _ (by omega)
  show mu_WA X G 10 _ _ 0 0 0 _ []
  refine mu_ll_0 B dX12_common_0 ?_
  refine mu_lconst (v := mL 0) B dX12_common_1 rfl ?_
  refine mu_lcmp B dX12_common_2 ?_
  refine mu_if_ge (tgt := 11) B dX12_common_3 (by decide) (fun c3 => ?_) (fun c3 => ?_)
  · rw [lg_cmp_ge] at c3; try rw [mL_le ⟨by omega, by omega⟩ ⟨by omega, by omega⟩] at c3
    refine mu_ll_0 B dX12_common_11 ?_
    exact K12 _ (by omega)
  · rw [lg_cmp_ge] at c3; try rw [mL_le ⟨by omega, by omega⟩ ⟨by omega, by omega⟩] at c3
    refine mu_ll_0 B dX12_common_6 ?_
    refine mu_lneg B dX12_common_7 ?_
    try rw [mL_neg]
    refine mu_goto (tgt := 12) B dX12_common_8 (by decide) ?_
    exact K12 _ (by omega)

def LR (w : mu_W) (a fr s : Nat) (e : Nat → Int) : Prop := ∀ c, c < s → mu_lg w a (fr + c) = mL (e c)
def lr_S (a fr s : Nat) : Nat → Nat → Prop := fun q j => q = a ∧ fr ≤ j ∧ j < fr + s
theorem mu_lg_same (w : mu_W) (a k : Nat) (x : Int64) : mu_lg (mu_sl w a k x) a k = x := by rw [mu_lg_sl, if_pos ⟨rfl, rfl⟩]
theorem mu_lg_oth (w : mu_W) {a k b j : Nat} (x : Int64) (h : ¬ (b = a ∧ j = k)) : mu_lg (mu_sl w a k x) b j = mu_lg w b j := by rw [mu_lg_sl, if_neg h]
theorem gr_le {e : Nat → Int} {B : Nat} : ∀ {n : Nat}, (∀ c, c < n → (e c).natAbs ≤ B) → gr e n ≤ B
  | 0, _ => Nat.zero_le _
  | n + 1, h => by
    rw [gr]
    by_cases q : gr e n = 0
    · rw [q, Nat.gcd_zero_left]; exact h n (by omega)
    · exact Nat.le_trans (Nat.le_of_dvd (by omega) (Nat.gcd_dvd_left _ _)) (gr_le (fun c hc => h c (by omega)))
def lh_post (w : mu_W) (a fr s : Nat) (e : Nat → Int) (r : Option Value) (w' : mu_W) : Prop := r = none ∧ mu_Fi (lr_S a fr s) w w' ∧ LR w' a fr s e

set_option maxHeartbeats 4000000 in
set_option maxRecDepth 100000 in
theorem c_X12_lighter (G : mu_G) {w : mu_W} {m a N fr s : Nat} (hka : mu_kd w a = some (101, N)) (hN : fr + s ≤ N) (hN2 : N ≤ 1000) (hs : 1 ≤ s) {e : Nat → Int} (hr : LR w a fr s e) (he : ∀ c, c < s → (e c).natAbs ≤ 4611686018427387904) : mu_Ct G M_X12_lighter [.ref m, .ref a, .int (mI fr), .int (mI s)] w (lh_post w a fr s (lt s e)) := by
  refine mu_ofWA G M_X12_lighter [.ref m, .ref a, .int (mI fr), .int (mI s), mu_no, mu_no, mu_no] (by decide) rfl (Nat.le_of_ble_eq_true rfl) ?_
  intro X E
  have B : mu_B X G cX12_lighter RX12 7 (mu_rm M_X12_lighter) := E.1
  have LG : ∀ c (u9 : Unit), c ≤ s → (True) → mu_WA X G 7 (mu_Q X G M_X12_lighter (lh_post w a fr s (lt s e))) w 0 0 6 [.ref m, .ref a, .int (mI fr), .int (mI s), .long (mL (gr e c : Int)), mu_no, .int (mI c)] [] := by
    refine mu_ind (s) (fun c (u9 : Unit) => mu_WA X G 7 (mu_Q X G M_X12_lighter (lh_post w a fr s (lt s e))) w 0 0 6 [.ref m, .ref a, .int (mI fr), .int (mI s), .long (mL (gr e c : Int)), mu_no, .int (mI c)] []) (fun c (u9 : Unit) => True) ?_
    intro c u9 hc _ ih
    have hgc := gr_le (e := e) (B := 4611686018427387904) (n := c) (fun c9 h9 => he c9 (by omega))
    refine mu_il_6 B dX12_lighter_6 ?_
    refine mu_il_3 B dX12_lighter_8 ?_
    refine mu_icmp_ge (tgt := 31) B dX12_lighter_9 (by decide) (fun c9 => ?_) (fun c9 => ?_)
    · try rw [mI_le ⟨by omega, by omega⟩ ⟨by omega, by omega⟩] at c9
      obtain rfl : s = c := by omega
      refine mu_iconst (v := mI 0) B dX12_lighter_31 rfl ?_
      refine mu_is_6 B dX12_lighter_32 (by decide) rfl ?_
      by_cases hg1 : gr e s ≤ 1
      · refine mu_il_6 B dX12_lighter_34 ?_
        refine mu_il_3 B dX12_lighter_36 ?_
        refine mu_icmp_ge (tgt := 64) B dX12_lighter_37 (by decide) (fun c37 => ?_) (fun c37 => ?_)
        · try rw [mI_le ⟨by omega, by omega⟩ ⟨by omega, by omega⟩] at c37
          refine mu_vret E rfl (by decide) (by decide) dX12_lighter_64 ?_
          exact ⟨rfl, mu_Fi.refl _, fun c9 h9 => by rw [hr c9 h9]; unfold lt; rw [if_pos (by omega)]⟩
        · try rw [mI_le ⟨by omega, by omega⟩ ⟨by omega, by omega⟩] at c37
          refine mu_ll_4 B dX12_lighter_40 ?_
          refine mu_lconst (v := mL 1) B dX12_lighter_42 rfl ?_
          refine mu_lcmp B dX12_lighter_43 ?_
          refine mu_if_le (tgt := 64) B dX12_lighter_44 (by decide) (fun c44 => ?_) (fun c44 => ?_)
          · rw [lg_cmp_le] at c44; try rw [mL_le ⟨by omega, by omega⟩ ⟨by omega, by omega⟩] at c44
            refine mu_vret E rfl (by decide) (by decide) dX12_lighter_64 ?_
            exact ⟨rfl, mu_Fi.refl _, fun c9 h9 => by rw [hr c9 h9]; unfold lt; rw [if_pos (by omega)]⟩
          · rw [lg_cmp_le] at c44; try rw [mL_le ⟨by omega, by omega⟩ ⟨by omega, by omega⟩] at c44
            exfalso
            omega
      · have LD : ∀ c (w1 : mu_W), c ≤ s → (mu_Fi (lr_S a fr s) w w1 ∧ (∀ c9, c9 < c → mu_lg w1 a (fr + c9) = mL (lt s e c9)) ∧ ∀ c9, c ≤ c9 → c9 < s → mu_lg w1 a (fr + c9) = mL (e c9)) → mu_WA X G 7 (mu_Q X G M_X12_lighter (lh_post w a fr s (lt s e))) w1 0 0 34 [.ref m, .ref a, .int (mI fr), .int (mI s), .long (mL (gr e s : Int)), mu_no, .int (mI c)] [] := by
          refine mu_ind (s) (fun c (w1 : mu_W) => mu_WA X G 7 (mu_Q X G M_X12_lighter (lh_post w a fr s (lt s e))) w1 0 0 34 [.ref m, .ref a, .int (mI fr), .int (mI s), .long (mL (gr e s : Int)), mu_no, .int (mI c)] []) (fun c (w1 : mu_W) => mu_Fi (lr_S a fr s) w w1 ∧ (∀ c9, c9 < c → mu_lg w1 a (fr + c9) = mL (lt s e c9)) ∧ ∀ c9, c ≤ c9 → c9 < s → mu_lg w1 a (fr + c9) = mL (e c9)) ?_
          rintro c w1 hc ⟨hF, hlo, hhi⟩ ih
          refine mu_il_6 B dX12_lighter_34 ?_
          refine mu_il_3 B dX12_lighter_36 ?_
          refine mu_icmp_ge (tgt := 64) B dX12_lighter_37 (by decide) (fun c37 => ?_) (fun c37 => ?_)
          · try rw [mI_le ⟨by omega, by omega⟩ ⟨by omega, by omega⟩] at c37
            obtain rfl : s = c := by omega
            refine mu_vret E rfl (by decide) (by decide) dX12_lighter_64 ?_
            exact ⟨rfl, hF, hlo⟩
          · try rw [mI_le ⟨by omega, by omega⟩ ⟨by omega, by omega⟩] at c37
            refine mu_ll_4 B dX12_lighter_40 ?_
            refine mu_lconst (v := mL 1) B dX12_lighter_42 rfl ?_
            refine mu_lcmp B dX12_lighter_43 ?_
            refine mu_if_le (tgt := 64) B dX12_lighter_44 (by decide) (fun c44 => ?_) (fun c44 => ?_)
            · rw [lg_cmp_le] at c44; try rw [mL_le ⟨by omega, by omega⟩ ⟨by omega, by omega⟩] at c44
              exfalso
              omega
            · rw [lg_cmp_le] at c44; try rw [mL_le ⟨by omega, by omega⟩ ⟨by omega, by omega⟩] at c44
              refine mu_al_1 B dX12_lighter_47 ?_
              refine mu_il_2 B dX12_lighter_48 ?_
              refine mu_il_6 B dX12_lighter_49 ?_
              refine mu_iadd B dX12_lighter_51 ?_
              try rw [mI_add]
              try rw [mI_add]
              rw [← Int.natCast_add]
              refine mu_dup2_11 B dX12_lighter_52 rfl rfl ?_
              refine mu_lald B dX12_lighter_53 (hF.kd hka) (mI_inN (by omega) (by omega)) ?_
              rw [mI_clampN (by omega), hhi c (Nat.le_refl _) (by omega)]
              refine mu_ll_4 B dX12_lighter_54 ?_
              refine mu_ldiv B dX12_lighter_56 ?_ ?_
              · exact mL_ne (by omega) ⟨by omega, by omega⟩
              have hmul := lt_mul (n := s) (a := e) (c := c) (by omega) (by omega)
              have hbc := he c (by omega)
              rw [show mL (e c) / mL (gr e s : Int) = mL (lt s e c) from by rw [← hmul]; exact mL_divx (by omega) (by rw [hmul]; omega) ⟨by omega, by omega⟩]
              refine mu_last B dX12_lighter_57 (hF.kd hka) (mI_inN (by omega) (by omega)) ?_
              rw [mI_clampN (by omega)]
              refine mu_inc_6 (c := mI 1) B dX12_lighter_58 rfl (by decide) rfl ?_
              try rw [mI_add]
              refine mu_goto (tgt := 34) B dX12_lighter_61 (by decide) ?_
              refine mu_to (ih _ (by omega) ⟨hF.sl ⟨rfl, by omega, by omega⟩, fun c9 h9 => ?_, fun c9 h8 h9 => (mu_lg_oth _ _ (by omega)).trans (hhi c9 (by omega) h9)⟩) rfl (by rw [show ((c + 1 : Nat) : Int) = (c : Int) + 1 by omega])
              by_cases e9 : c9 = c
              · rw [e9, mu_lg_same]
              · rw [mu_lg_oth _ _ (by omega)]; exact hlo c9 (by omega)
        exact LD 0 w (Nat.zero_le _) ⟨mu_Fi.refl _, fun c9 h9 => absurd h9 (Nat.not_lt_zero c9), fun c9 _ h9 => hr c9 h9⟩
    · try rw [mI_le ⟨by omega, by omega⟩ ⟨by omega, by omega⟩] at c9
      refine mu_ll_4 B dX12_lighter_12 ?_
      refine mu_al_1 B dX12_lighter_14 ?_
      refine mu_il_2 B dX12_lighter_15 ?_
      refine mu_il_6 B dX12_lighter_16 ?_
      refine mu_iadd B dX12_lighter_18 ?_
      try rw [mI_add]
      try rw [mI_add]
      rw [← Int.natCast_add]
      refine mu_lald B dX12_lighter_19 hka (mI_inN (by omega) (by omega)) ?_
      rw [mI_clampN (by omega), hr c (by omega)]
      have hbc := he c (by omega)
      refine mu_eS2 B dX12_lighter_20 mX12_344 ⟨⟨by decide, by decide⟩, by decide, by decide⟩ (Nat.le_of_ble_eq_true rfl) (c_X12_common G (a := (gr e c : Int)) (b := e c) (by rw [Int.natAbs_natCast]; omega) (by omega)) ?_
      rw [Int.natAbs_natCast]
      refine mu_ls_4 B dX12_lighter_23 (by decide) rfl ?_
      refine mu_inc_6 (c := mI 1) B dX12_lighter_25 rfl (by decide) rfl ?_
      try rw [mI_add]
      refine mu_goto (tgt := 6) B dX12_lighter_28 (by decide) ?_
      exact mu_to (ih () (by omega) trivial) rfl (by rw [gr, show ((c + 1 : Nat) : Int) = (c : Int) + 1 by omega])
  show mu_WA X G 7 _ _ 0 0 0 _ []
  refine mu_lconst (v := mL 0) B dX12_lighter_0 rfl ?_
  refine mu_ls_4 B dX12_lighter_1 (by decide) rfl ?_
  refine mu_iconst (v := mI 0) B dX12_lighter_3 rfl ?_
  refine mu_is_6 B dX12_lighter_4 (by decide) rfl ?_
  exact LG 0 () (Nat.zero_le _) trivial

def wo (s : Nat) (e d : Nat → Int) (c : Nat) : Nat → Int := if e c = 0 then e else lt s (fun i => e i * d c - d i * e c)
theorem nab {x y z t : Int} {A B : Nat} (hx : x.natAbs ≤ A) (hy : y.natAbs ≤ B) (hz : z.natAbs ≤ B) (ht : t.natAbs ≤ A) : (x * y - z * t).natAbs ≤ 2 * (A * B) := by
  have h1 : (x * y).natAbs ≤ A * B := by rw [Int.natAbs_mul]; exact Nat.mul_le_mul hx hy
  have h2 : (z * t).natAbs ≤ A * B := by rw [Int.natAbs_mul, Nat.mul_comm A B]; exact Nat.mul_le_mul hz ht
  omega

set_option maxHeartbeats 4000000 in
set_option maxRecDepth 100000 in
theorem c_X12_without (G : mu_G) {w : mu_W} {m : Nat} (hm : mo_ok w m) {a N fr by_ c s : Nat} (hka : mu_kd w a = some (101, N)) (hN : fr + s ≤ N) (hN2 : N ≤ 1000) (hby : by_ + s ≤ 16) (hs : 1 ≤ s) (hc : c < s) (hdis : a ≠ m + 33 ∨ fr + s ≤ by_ ∨ by_ + s ≤ fr) {e d : Nat → Int} (hr : LR w a fr s e) (hd : LR w (m + 33) by_ s d) {A B : Nat} (he : ∀ c, c < s → (e c).natAbs ≤ A) (hdb : ∀ c, c < s → (d c).natAbs ≤ B) (hAB : 2 * (A * B) ≤ 4611686018427387904) (hA1 : A ≤ 4611686018427387904) : mu_Ct G M_X12_without [.ref m, .ref a, .int (mI fr), .int (mI by_), .int (mI c), .int (mI s)] w (lh_post w a fr s (wo s e d c)) := by
  have hk0 := hm.1
  obtain ⟨r55, hk33⟩ := mo_55 hm
  refine mu_ofWA G M_X12_without [.ref m, .ref a, .int (mI fr), .int (mI by_), .int (mI c), .int (mI s), mu_no, mu_no, mu_no, mu_no, mu_no] (by decide) rfl (Nat.le_of_ble_eq_true rfl) ?_
  intro X E
  have B : mu_B X G cX12_without RX12 11 (mu_rm M_X12_without) := E.1
  show mu_WA X G 11 _ _ 0 0 0 _ []
  refine mu_al_1 B dX12_without_0 ?_
  refine mu_il_2 B dX12_without_1 ?_
  refine mu_il_4 B dX12_without_2 ?_
  refine mu_iadd B dX12_without_4 ?_
  try rw [mI_add]
  try rw [mI_add]
  rw [← Int.natCast_add]
  refine mu_lald B dX12_without_5 hka (mI_inN (by omega) (by omega)) ?_
  rw [mI_clampN (by omega), hr c hc]
  have hec := he c hc
  refine mu_ls_6 B dX12_without_6 (by decide) rfl ?_
  refine mu_ll_6 B dX12_without_8 ?_
  refine mu_lconst (v := mL 0) B dX12_without_10 rfl ?_
  refine mu_lcmp B dX12_without_11 ?_
  refine mu_if_ne (tgt := 16) B dX12_without_12 (by decide) (fun c12 => ?_) (fun c12 => ?_)
  · rw [lg_cmp_eq] at c12; try rw [mL_eq ⟨by omega, by omega⟩ ⟨by omega, by omega⟩] at c12
    refine mu_al_0 B dX12_without_16 ?_
    refine mu_getR B dX12_without_17 fX12_111 rfl (by assumption) (by assumption) ?_
    refine mu_il_3 B dX12_without_20 ?_
    refine mu_il_4 B dX12_without_21 ?_
    refine mu_iadd B dX12_without_23 ?_
    try rw [mI_add]
    try rw [mI_add]
    rw [← Int.natCast_add]
    refine mu_lald B dX12_without_24 hk33 (mI_inN (by omega) (by omega)) ?_
    rw [mI_clampN (by omega), hd c hc]
    refine mu_ls_8 B dX12_without_25 (by decide) rfl ?_
    refine mu_iconst (v := mI 0) B dX12_without_27 rfl ?_
    refine mu_is_10 B dX12_without_28 (by decide) rfl ?_
    have hf0 : ¬ e c = 0 := by omega
    have LW : ∀ i (w1 : mu_W), i ≤ s → (mu_Fi (lr_S a fr s) w w1 ∧ (∀ c9, c9 < i → mu_lg w1 a (fr + c9) = mL (e c9 * d c - d c9 * e c)) ∧ ∀ c9, i ≤ c9 → c9 < s → mu_lg w1 a (fr + c9) = mL (e c9)) → mu_WA X G 11 (mu_Q X G M_X12_without (lh_post w a fr s (wo s e d c))) w1 0 0 30 [.ref m, .ref a, .int (mI fr), .int (mI by_), .int (mI c), .int (mI s), .long (mL (e c)), mu_no, .long (mL (d c)), mu_no, .int (mI i)] [] := by
      refine mu_ind (s) (fun i (w1 : mu_W) => mu_WA X G 11 (mu_Q X G M_X12_without (lh_post w a fr s (wo s e d c))) w1 0 0 30 [.ref m, .ref a, .int (mI fr), .int (mI by_), .int (mI c), .int (mI s), .long (mL (e c)), mu_no, .long (mL (d c)), mu_no, .int (mI i)] []) (fun i (w1 : mu_W) => mu_Fi (lr_S a fr s) w w1 ∧ (∀ c9, c9 < i → mu_lg w1 a (fr + c9) = mL (e c9 * d c - d c9 * e c)) ∧ ∀ c9, i ≤ c9 → c9 < s → mu_lg w1 a (fr + c9) = mL (e c9)) ?_
      rintro i w1 hi ⟨hF, hlo, hhi⟩ ih
      refine mu_il_10 B dX12_without_30 ?_
      refine mu_il_5 B dX12_without_32 ?_
      refine mu_icmp_ge (tgt := 71) B dX12_without_34 (by decide) (fun c34 => ?_) (fun c34 => ?_)
      · try rw [mI_le ⟨by omega, by omega⟩ ⟨by omega, by omega⟩] at c34
        obtain rfl : s = i := by omega
        refine mu_al_0 B dX12_without_71 ?_
        refine mu_al_1 B dX12_without_72 ?_
        refine mu_il_2 B dX12_without_73 ?_
        refine mu_il_5 B dX12_without_74 ?_
        refine mu_cV3 B dX12_without_76 mX12_355 ⟨⟨by decide, by decide⟩, by decide, by decide⟩ (Nat.le_of_ble_eq_true rfl) (hF.kd hk0) (c_X12_lighter G (hF.kd hka) hN hN2 hs (e := fun i => e i * d c - d i * e c) hlo (fun c9 h9 => Nat.le_trans (nab (he c9 h9) (hdb c hc) (hdb c9 h9) (he c hc)) hAB)) (fun r76 w76 q76 => ?_)
        obtain ⟨rfl, hF2, hL2⟩ := q76
        show mu_WA X G 11 _ w76 0 0 79 _ []
        refine mu_vret E rfl (by decide) (by decide) dX12_without_79 ?_
        exact ⟨rfl, hF.trans hF2, by unfold wo; rw [if_neg hf0]; exact hL2⟩
      · try rw [mI_le ⟨by omega, by omega⟩ ⟨by omega, by omega⟩] at c34
        refine mu_al_1 B dX12_without_37 ?_
        refine mu_il_2 B dX12_without_38 ?_
        refine mu_il_10 B dX12_without_39 ?_
        refine mu_iadd B dX12_without_41 ?_
        try rw [mI_add]
        try rw [mI_add]
        rw [← Int.natCast_add]
        refine mu_al_1 B dX12_without_42 ?_
        refine mu_il_2 B dX12_without_43 ?_
        refine mu_il_10 B dX12_without_44 ?_
        refine mu_iadd B dX12_without_46 ?_
        try rw [mI_add]
        try rw [mI_add]
        rw [← Int.natCast_add]
        refine mu_lald B dX12_without_47 (hF.kd hka) (mI_inN (by omega) (by omega)) ?_
        rw [mI_clampN (by omega), hhi i (Nat.le_refl _) (by omega)]
        refine mu_ll_8 B dX12_without_48 ?_
        refine mu_lmul B dX12_without_50 ?_
        try rw [mL_mul]
        refine mu_al_0 B dX12_without_51 ?_
        refine mu_getR B dX12_without_52 fX12_111 rfl (hF.kd hk0) (hF.rv r55) ?_
        refine mu_il_3 B dX12_without_55 ?_
        refine mu_il_10 B dX12_without_56 ?_
        refine mu_iadd B dX12_without_58 ?_
        try rw [mI_add]
        try rw [mI_add]
        rw [← Int.natCast_add]
        refine mu_lald B dX12_without_59 (hF.kd hk33) (mI_inN (by omega) (by omega)) ?_
        rw [mI_clampN (by omega), hF.lg (by unfold lr_S; omega) (hd i (by omega))]
        refine mu_ll_6 B dX12_without_60 ?_
        refine mu_lmul B dX12_without_62 ?_
        try rw [mL_mul]
        refine mu_lsub B dX12_without_63 ?_
        try rw [mL_sub]
        refine mu_last B dX12_without_64 (hF.kd hka) (mI_inN (by omega) (by omega)) ?_
        rw [mI_clampN (by omega)]
        refine mu_inc_10 (c := mI 1) B dX12_without_65 rfl (by decide) rfl ?_
        try rw [mI_add]
        refine mu_goto (tgt := 30) B dX12_without_68 (by decide) ?_
        refine mu_to (ih _ (by omega) ⟨hF.sl ⟨rfl, by omega, by omega⟩, fun c9 h9 => ?_, fun c9 h8 h9 => (mu_lg_oth _ _ (by omega)).trans (hhi c9 (by omega) h9)⟩) rfl (by rw [show ((i + 1 : Nat) : Int) = (i : Int) + 1 by omega])
        by_cases e9 : c9 = i
        · rw [e9, mu_lg_same]
        · rw [mu_lg_oth _ _ (by omega)]; exact hlo c9 (by omega)
    exact LW 0 w (Nat.zero_le _) ⟨mu_Fi.refl _, fun c9 h9 => absurd h9 (Nat.not_lt_zero c9), fun c9 _ h9 => hr c9 h9⟩
  · rw [lg_cmp_eq] at c12; try rw [mL_eq ⟨by omega, by omega⟩ ⟨by omega, by omega⟩] at c12
    refine mu_vret E rfl (by decide) (by decide) dX12_without_15 ?_
    exact ⟨rfl, mu_Fi.refl _, by unfold wo; rw [if_pos (by omega)]; exact hr⟩
