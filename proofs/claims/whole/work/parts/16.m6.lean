/-! ===== the reference: rules' bytes, tape, counters, neighbours ===== -/
section MUT
variable {X : mu_X} {G : mu_G} {cc : ByteArray} {own : String} {nL : Nat} {R : Room} {Qf : State → Prop} {w : mu_W} {kc ks pc : Nat} {lv rest : List Value}
theorem mu_tabIn (B : mu_B X G cc own nL R) {dflt lo hi : Int} {offs : Array Int} {len : Nat} {x : Int32} {off : Int} {tgt : Nat} (hdg : decode cc pc = .ok (.tableswitch dflt lo hi offs, len)) (h1 : ¬ x.toInt < lo) (h2 : ¬ hi < x.toInt) (ho : offs[(x.toInt - lo).toNat]? = some off) (ht : (pc : Int) + off = (tgt : Int)) (k : mu_WA X G nL Qf w kc ks tgt lv rest) : mu_WA X G nL Qf w kc ks pc lv (.int x :: rest) := fun H locs ls hH hS hl => lv_tableIn B.1 B.2.1 hdg h1 h2 ho ht (k H locs ls hH hS hl)
theorem mu_tabOut (B : mu_B X G cc own nL R) {dflt lo hi : Int} {offs : Array Int} {len : Nat} {x : Int32} {tgt : Nat} (hdg : decode cc pc = .ok (.tableswitch dflt lo hi offs, len)) (h : x.toInt < lo ∨ hi < x.toInt) (ht : (pc : Int) + dflt = (tgt : Int)) (k : mu_WA X G nL Qf w kc ks tgt lv rest) : mu_WA X G nL Qf w kc ks pc lv (.int x :: rest) := fun H locs ls hH hS hl => lv_tableOut B.1 B.2.1 hdg h ht (k H locs ls hH hS hl)
end MUT
theorem rs_nb_bd {r : mu_RS} (h : rs_ok r) : rs_nb r ≤ 8 ∧ (rs_nb r ≠ 0 → rs_bo r < 512 ∧ rs_st r < 512) := by
  rcases h.2.2 with ⟨h1, -⟩ | ⟨h1, h2, h3⟩
  · exact ⟨by omega, fun q => absurd h1 q⟩
  · refine ⟨by omega, fun _ => ⟨Nat.lt_of_lt_of_le h2 (Nat.le_trans (Nat.pow_le_pow_right (by decide) (show rs_nb r + 1 ≤ 9 by omega)) (by decide)), Nat.lt_of_lt_of_le h3 (Nat.le_trans (Nat.pow_le_pow_right (by decide) (show rs_nb r + 1 ≤ 9 by omega)) (by decide))⟩⟩

set_option maxHeartbeats 4000000 in
set_option maxRecDepth 100000 in
theorem c_X12_isQuiet (G : mu_G) {w : mu_W} {m : Nat} (hm : mo_ok w m) {nr : Nat} {rs : Nat → mu_RS} (hru : MRu w m nr rs) {k : Nat} (hk : k < nr) : mu_Ct G M_X12_isQuiet [.ref m, .int (mI k)] w (fun r w' => r = some (.int (if rs_nb (rs k) ≠ 0 ∧ rs_bo (rs k) % 2 = 0 then mI 1 else mI 0)) ∧ w' = w) := by
  have hk0 := hm.1
  obtain ⟨h1, h2⟩ := mo_8 hm
  obtain ⟨g1, g2, g3, g4, g5, g6⟩ := hru.2.2 k hk
  have hbd := rs_nb_bd g1
  have hnr := hru.1
  refine mu_ofWA G M_X12_isQuiet [.ref m, .int (mI k)] (by decide) rfl (Nat.le_of_ble_eq_true rfl) ?_
  intro X E
  have B : mu_B X G cX12_isQuiet RX12 2 (mu_rm M_X12_isQuiet) := E.1
  show mu_WA X G 2 _ _ 0 0 0 _ []
  refine mu_al_0 B dX12_isQuiet_0 ?_
  refine mu_il_1 B dX12_isQuiet_1 ?_
  refine mu_eV1 B dX12_isQuiet_2 mX12_158 ⟨⟨by decide, by decide⟩, by decide, by decide⟩ (Nat.le_of_ble_eq_true rfl) (by assumption) (c_X12_isBlocks G hm (k := k) (a := (rs_nb (rs k) : Int)) g4 (by omega) ⟨by omega, by omega⟩) ?_
  refine mu_if_ne (tgt := 23) B dX12_isQuiet_5 (by decide) (fun c5 => ?_) (fun c5 => ?_)
  · have z5 := mu_bt c5
    refine mu_iconst (v := mI 0) B dX12_isQuiet_23 rfl ?_
    refine mu_zret E rfl (by decide) (by decide) dX12_isQuiet_24 (by decide) ?_
    refine ⟨?_, rfl⟩
    first | rw [if_pos ⟨by omega, by omega⟩] | rw [if_neg (fun hh => by have := hh.1; have := hh.2; omega)]
  · have z5 := mu_bf c5
    have g7 := g5 (by omega)
    have g8 := hbd.2 (by omega)
    refine mu_al_0 B dX12_isQuiet_8 ?_
    refine mu_getR B dX12_isQuiet_9 fX12_26 rfl (by assumption) (by assumption) ?_
    refine mu_il_1 B dX12_isQuiet_12 ?_
    refine mu_iald B dX12_isQuiet_13 (by assumption) (mI_inN (by omega) (by omega)) ?_
    rw [mI_clampN (by omega), g7.1]
    refine mu_iconst (v := mI 1) B dX12_isQuiet_14 rfl ?_
    refine mu_iand B dX12_isQuiet_15 ?_
    rw [mI_and _ (m := mI 1) 1 (by decide) (by decide)]
    refine mu_if_ne (tgt := 23) B dX12_isQuiet_16 (by decide) (fun c16 => ?_) (fun c16 => ?_)
    · try rw [mI_eq0 ⟨by omega, by omega⟩] at c16
      refine mu_iconst (v := mI 0) B dX12_isQuiet_23 rfl ?_
      refine mu_zret E rfl (by decide) (by decide) dX12_isQuiet_24 (by decide) ?_
      refine ⟨?_, rfl⟩
      first | rw [if_pos ⟨by omega, by omega⟩] | rw [if_neg (fun hh => by have := hh.1; have := hh.2; omega)]
    · try rw [mI_eq0 ⟨by omega, by omega⟩] at c16
      refine mu_iconst (v := mI 1) B dX12_isQuiet_19 rfl ?_
      refine mu_goto (tgt := 24) B dX12_isQuiet_20 (by decide) ?_
      refine mu_zret E rfl (by decide) (by decide) dX12_isQuiet_24 (by decide) ?_
      refine ⟨?_, rfl⟩
      first | rw [if_pos ⟨by omega, by omega⟩] | rw [if_neg (fun hh => by have := hh.1; have := hh.2; omega)]

set_option maxHeartbeats 4000000 in
set_option maxRecDepth 100000 in
theorem c_X12_blocksOf (G : mu_G) {w : mu_W} {m : Nat} (hm : mo_ok w m) {nr : Nat} {rs : Nat → mu_RS} (hru : MRu w m nr rs) {k : Nat} (hk : k < nr) (h0 : rs_nb (rs k) = 0) : mu_Ct G M_X12_blocksOf [.ref m, .int (mI k)] w (fun r w' => r = some (.int (mI ((rs_S (rs k) * rs_S (rs k) * rs_S (rs k) * rs_S (rs k) : Nat) : Int))) ∧ w' = w) := by
  have hk0 := hm.1
  obtain ⟨h1, h2⟩ := mo_6 hm
  obtain ⟨g1, g2, g3, g4, g5, g6⟩ := hru.2.2 k hk
  have hnr := hru.1
  replace g6 := g6 h0
  refine mu_ofWA G M_X12_blocksOf [.ref m, .int (mI k)] (by decide) rfl (Nat.le_of_ble_eq_true rfl) ?_
  intro X E
  have B : mu_B X G cX12_blocksOf RX12 2 (mu_rm M_X12_blocksOf) := E.1
  show mu_WA X G 2 _ _ 0 0 0 _ []
  refine mu_al_0 B dX12_blocksOf_0 ?_
  refine mu_getR B dX12_blocksOf_1 fX12_20 rfl (by assumption) (by assumption) ?_
  refine mu_il_1 B dX12_blocksOf_4 ?_
  refine mu_iald B dX12_blocksOf_5 (by assumption) (mI_inN (by omega) (by omega)) ?_
  rw [mI_clampN (by omega), g6.1]
  refine mu_al_0 B dX12_blocksOf_6 ?_
  refine mu_getR B dX12_blocksOf_7 fX12_20 rfl (by assumption) (by assumption) ?_
  refine mu_il_1 B dX12_blocksOf_10 ?_
  refine mu_iald B dX12_blocksOf_11 (by assumption) (mI_inN (by omega) (by omega)) ?_
  rw [mI_clampN (by omega), g6.1]
  refine mu_imul B dX12_blocksOf_12 ?_
  try rw [mI_mul]
  refine mu_al_0 B dX12_blocksOf_13 ?_
  refine mu_getR B dX12_blocksOf_14 fX12_20 rfl (by assumption) (by assumption) ?_
  refine mu_il_1 B dX12_blocksOf_17 ?_
  refine mu_iald B dX12_blocksOf_18 (by assumption) (mI_inN (by omega) (by omega)) ?_
  rw [mI_clampN (by omega), g6.1]
  refine mu_imul B dX12_blocksOf_19 ?_
  try rw [mI_mul]
  refine mu_al_0 B dX12_blocksOf_20 ?_
  refine mu_getR B dX12_blocksOf_21 fX12_20 rfl (by assumption) (by assumption) ?_
  refine mu_il_1 B dX12_blocksOf_24 ?_
  refine mu_iald B dX12_blocksOf_25 (by assumption) (mI_inN (by omega) (by omega)) ?_
  rw [mI_clampN (by omega), g6.1]
  refine mu_imul B dX12_blocksOf_26 ?_
  try rw [mI_mul]
  refine mu_iret E rfl (by decide) (by decide) dX12_blocksOf_27 ?_
  exact ⟨by simp only [Int.natCast_mul], rfl⟩

set_option maxHeartbeats 4000000 in
set_option maxRecDepth 100000 in
theorem c_X12_ruleByte (G : mu_G) {w : mu_W} {m : Nat} (hm : mo_ok w m) {nr : Nat} {rs : Nat → mu_RS} (hru : MRu w m nr rs) {z i : Int} (hz : mi_ok z) (hi : mi_ok i) : mu_Ct G M_X12_ruleByte [.ref m, .int (mI z), .int (mI i)] w (fun r w' => r = some (.int (if ¬ (0 ≤ z ∧ z < nr) then mI (-1) else if 0 ≤ i ∧ i < rs_len (rs z.toNat) then mI (rs_tx (rs z.toNat) i.toNat) else mI 0)) ∧ w' = w) := by
  have hk0 := hm.1
  obtain ⟨h1, h2⟩ := mo_5 hm
  obtain ⟨h3, h4⟩ := mo_4 hm
  have hnr := hru.1
  obtain ⟨hz1, hz2⟩ := id hz
  obtain ⟨hi1, hi2⟩ := hi
  refine mu_ofWA G M_X12_ruleByte [.ref m, .int (mI z), .int (mI i)] (by decide) rfl (Nat.le_of_ble_eq_true rfl) ?_
  intro X E
  have B : mu_B X G cX12_ruleByte RX12 3 (mu_rm M_X12_ruleByte) := E.1
  show mu_WA X G 3 _ _ 0 0 0 _ []
  refine mu_al_0 B dX12_ruleByte_0 ?_
  refine mu_il_1 B dX12_ruleByte_1 ?_
  refine mu_eV1 B dX12_ruleByte_2 mX12_161 ⟨⟨by decide, by decide⟩, by decide, by decide⟩ (Nat.le_of_ble_eq_true rfl) (by assumption) (c_X12_isRule G hm (n := nr) hru.2.1 hru.1 hz) ?_
  refine mu_if_ne (tgt := 12) B dX12_ruleByte_5 (by decide) (fun c5 => ?_) (fun c5 => ?_)
  · have z5 := mu_bt c5
    obtain ⟨k, hk⟩ : ∃ k : Nat, z = k := ⟨z.toNat, by omega⟩
    subst hk
    obtain ⟨g1, g2, g3, g4, g5, g6⟩ := hru.2.2 k (by omega)
    have gl := g1.1
    refine mu_il_2 B dX12_ruleByte_12 ?_
    refine mu_if_lt (tgt := 26) B dX12_ruleByte_13 (by decide) (fun c13 => ?_) (fun c13 => ?_)
    · try rw [mI_lt0 ⟨by omega, by omega⟩] at c13
      refine mu_iconst (v := mI 0) B dX12_ruleByte_26 rfl ?_
      refine mu_goto (tgt := 42) B dX12_ruleByte_27 (by decide) ?_
      refine mu_iret E rfl (by decide) (by decide) dX12_ruleByte_42 ?_
      refine ⟨?_, rfl⟩
      first | rw [if_pos z5] | (rw [if_neg (fun hh => hh z5), if_neg (by simp only [Int.toNat_natCast]; omega)]) | (rw [if_neg (fun hh => hh z5), if_pos (by simp only [Int.toNat_natCast]; omega)]; rfl)
    · try rw [mI_lt0 ⟨by omega, by omega⟩] at c13
      refine mu_il_2 B dX12_ruleByte_16 ?_
      refine mu_al_0 B dX12_ruleByte_17 ?_
      refine mu_getR B dX12_ruleByte_18 fX12_17 rfl (by assumption) (by assumption) ?_
      refine mu_il_1 B dX12_ruleByte_21 ?_
      refine mu_iald B dX12_ruleByte_22 (by assumption) (mI_inN (by omega) (by omega)) ?_
      rw [mI_clampN (by omega), g2]
      refine mu_icmp_lt (tgt := 30) B dX12_ruleByte_23 (by decide) (fun c23 => ?_) (fun c23 => ?_)
      · try rw [mI_lt ⟨by omega, by omega⟩ ⟨by omega, by omega⟩] at c23
        refine mu_al_0 B dX12_ruleByte_30 ?_
        refine mu_getR B dX12_ruleByte_31 fX12_13 rfl (by assumption) (by assumption) ?_
        refine mu_sipush (v := mI 2000) B dX12_ruleByte_34 (by decide) ?_
        refine mu_il_1 B dX12_ruleByte_37 ?_
        refine mu_imul B dX12_ruleByte_38 ?_
        try rw [mI_mul]
        refine mu_il_2 B dX12_ruleByte_39 ?_
        refine mu_iadd B dX12_ruleByte_40 ?_
        try rw [mI_add]
        obtain ⟨q, hq⟩ : ∃ q : Nat, i = q := ⟨i.toNat, by omega⟩
        subst hq
        rw [show (2000 : Int) * (k : Int) + (q : Int) = ((2000 * k + q : Nat) : Int) by omega]
        refine mu_bald B dX12_ruleByte_41 (by assumption) (mI_inN (by omega) (by omega)) ?_
        rw [mI_clampN (by omega), g3 q (by omega)]
        refine mu_iret E rfl (by decide) (by decide) dX12_ruleByte_42 ?_
        refine ⟨?_, rfl⟩
        first | rw [if_pos z5] | (rw [if_neg (fun hh => hh z5), if_neg (by simp only [Int.toNat_natCast]; omega)]) | (rw [if_neg (fun hh => hh z5), if_pos (by simp only [Int.toNat_natCast]; omega)]; rfl)
      · try rw [mI_lt ⟨by omega, by omega⟩ ⟨by omega, by omega⟩] at c23
        refine mu_iconst (v := mI 0) B dX12_ruleByte_26 rfl ?_
        refine mu_goto (tgt := 42) B dX12_ruleByte_27 (by decide) ?_
        refine mu_iret E rfl (by decide) (by decide) dX12_ruleByte_42 ?_
        refine ⟨?_, rfl⟩
        first | rw [if_pos z5] | (rw [if_neg (fun hh => hh z5), if_neg (by simp only [Int.toNat_natCast]; omega)]) | (rw [if_neg (fun hh => hh z5), if_pos (by simp only [Int.toNat_natCast]; omega)]; rfl)
  · have z5 := mu_bf c5
    refine mu_iconst (v := mI (-1)) B dX12_ruleByte_8 rfl ?_
    refine mu_goto (tgt := 42) B dX12_ruleByte_9 (by decide) ?_
    refine mu_iret E rfl (by decide) (by decide) dX12_ruleByte_42 ?_
    refine ⟨?_, rfl⟩
    first | rw [if_pos z5] | (rw [if_neg (fun hh => hh z5), if_neg (by simp only [Int.toNat_natCast]; omega)]) | (rw [if_neg (fun hh => hh z5), if_pos (by simp only [Int.toNat_natCast]; omega)]; rfl)

set_option maxHeartbeats 4000000 in
set_option maxRecDepth 100000 in
theorem c_X12_end (G : mu_G) {w : mu_W} {m : Nat} (hm : mo_ok w m) {n : Nat} {tp : Nat → Nat} (ht : MT w m n tp) {z : Int} (hz : mi_ok z) : mu_Ct G M_X12_end [.ref m, .int (mI z)] w (fun r w' => r = some (.int (if 0 ≤ z ∧ z ≤ n then mI z else mI (-1))) ∧ w' = if 0 ≤ z ∧ z ≤ n then mu_si w m 2 (mI z) else w) := by
  have hk0 := hm.1
  obtain ⟨hz1, hz2⟩ := hz
  have hn2 := ht.1.1
  refine mu_ofWA G M_X12_end [.ref m, .int (mI z)] (by decide) rfl (Nat.le_of_ble_eq_true rfl) ?_
  intro X E
  have B : mu_B X G cX12_end RX12 2 (mu_rm M_X12_end) := E.1
  show mu_WA X G 2 _ _ 0 0 0 _ []
  refine mu_il_1 B dX12_end_0 ?_
  refine mu_if_lt (tgt := 12) B dX12_end_1 (by decide) (fun c1 => ?_) (fun c1 => ?_)
  · try rw [mI_lt0 ⟨by omega, by omega⟩] at c1
    refine mu_iconst (v := mI (-1)) B dX12_end_12 rfl ?_
    refine mu_iret E rfl (by decide) (by decide) dX12_end_13 ?_
    first | exact ⟨by rw [if_pos (by omega)], by rw [if_pos (by omega)]⟩ | exact ⟨by rw [if_neg (by omega)], by rw [if_neg (by omega)]⟩
  · try rw [mI_lt0 ⟨by omega, by omega⟩] at c1
    refine mu_il_1 B dX12_end_4 ?_
    refine mu_al_0 B dX12_end_5 ?_
    refine mu_getI B dX12_end_6 fX12_128 rfl (by assumption) ?_
    rw [ht.2.1]
    refine mu_icmp_le (tgt := 14) B dX12_end_9 (by decide) (fun c9 => ?_) (fun c9 => ?_)
    · try rw [mI_le ⟨by omega, by omega⟩ ⟨by omega, by omega⟩] at c9
      refine mu_al_0 B dX12_end_14 ?_
      refine mu_il_1 B dX12_end_15 ?_
      refine mu_putI B dX12_end_16 fX12_128 fwX12_2 rfl (by assumption) ?_
      refine mu_il_1 B dX12_end_19 ?_
      refine mu_iret E rfl (by decide) (by decide) dX12_end_20 ?_
      first | exact ⟨by rw [if_pos (by omega)], by rw [if_pos (by omega)]⟩ | exact ⟨by rw [if_neg (by omega)], by rw [if_neg (by omega)]⟩
    · try rw [mI_le ⟨by omega, by omega⟩ ⟨by omega, by omega⟩] at c9
      refine mu_iconst (v := mI (-1)) B dX12_end_12 rfl ?_
      refine mu_iret E rfl (by decide) (by decide) dX12_end_13 ?_
      first | exact ⟨by rw [if_pos (by omega)], by rw [if_pos (by omega)]⟩ | exact ⟨by rw [if_neg (by omega)], by rw [if_neg (by omega)]⟩

set_option maxHeartbeats 4000000 in
set_option maxRecDepth 100000 in
theorem c_X12_shift (G : mu_G) {w : mu_W} {m : Nat} (hm : mo_ok w m) {z : Int} (hz : mi_ok z) : mu_Ct G M_X12_shift [.ref m, .int (mI z)] w (fun r w' => r = some (.int (if z = 0 then mu_iv w m 36 else if z = 1 then mu_iv w m 37 else mI (-1))) ∧ w' = w) := by
  have hk0 := hm.1
  obtain ⟨hz1, hz2⟩ := hz
  refine mu_ofWA G M_X12_shift [.ref m, .int (mI z)] (by decide) rfl (Nat.le_of_ble_eq_true rfl) ?_
  intro X E
  have B : mu_B X G cX12_shift RX12 2 (mu_rm M_X12_shift) := E.1
  show mu_WA X G 2 _ _ 0 0 0 _ []
  refine mu_il_1 B dX12_shift_0 ?_
  refine mu_if_ne (tgt := 11) B dX12_shift_1 (by decide) (fun c1 => ?_) (fun c1 => ?_)
  · try rw [mI_eq0 ⟨by omega, by omega⟩] at c1
    refine mu_il_1 B dX12_shift_11 ?_
    refine mu_iconst (v := mI 1) B dX12_shift_12 rfl ?_
    refine mu_icmp_ne (tgt := 23) B dX12_shift_13 (by decide) (fun c13 => ?_) (fun c13 => ?_)
    · try rw [mI_eq ⟨by omega, by omega⟩ ⟨by omega, by omega⟩] at c13
      refine mu_iconst (v := mI (-1)) B dX12_shift_23 rfl ?_
      refine mu_iret E rfl (by decide) (by decide) dX12_shift_24 ?_
      refine ⟨?_, rfl⟩
      first | rw [if_pos c1] | rw [if_neg c1, if_pos c13] | rw [if_neg c1, if_neg c13]
    · try rw [mI_eq ⟨by omega, by omega⟩ ⟨by omega, by omega⟩] at c13
      refine mu_al_0 B dX12_shift_16 ?_
      refine mu_getI B dX12_shift_17 fX12_270 rfl (by assumption) ?_
      refine mu_goto (tgt := 24) B dX12_shift_20 (by decide) ?_
      refine mu_iret E rfl (by decide) (by decide) dX12_shift_24 ?_
      refine ⟨?_, rfl⟩
      first | rw [if_pos c1] | rw [if_neg c1, if_pos c13] | rw [if_neg c1, if_neg c13]
  · try rw [mI_eq0 ⟨by omega, by omega⟩] at c1
    refine mu_al_0 B dX12_shift_4 ?_
    refine mu_getI B dX12_shift_5 fX12_267 rfl (by assumption) ?_
    refine mu_goto (tgt := 24) B dX12_shift_8 (by decide) ?_
    refine mu_iret E rfl (by decide) (by decide) dX12_shift_24 ?_
    refine ⟨?_, rfl⟩
    first | rw [if_pos c1] | rw [if_neg c1, if_pos c13] | rw [if_neg c1, if_neg c13]

set_option maxHeartbeats 4000000 in
set_option maxRecDepth 100000 in
theorem c_X12_found (G : mu_G) {w : mu_W} {m : Nat} (hm : mo_ok w m) {n : Nat} (hn : mu_iv w m 43 = mI n) (hn2 : n ≤ 65536) {z : Int} (hz : mi_ok z) : mu_Ct G M_X12_found [.ref m, .int (mI z)] w (fun r w' => r = some (.int (if 0 ≤ z ∧ z < n then mu_iv w (m + 25) z.toNat else mI (-1))) ∧ w' = w) := by
  have hk0 := hm.1
  obtain ⟨hz1, hz2⟩ := hz
  obtain ⟨h1, h2⟩ := mo_44 hm
  refine mu_ofWA G M_X12_found [.ref m, .int (mI z)] (by decide) rfl (Nat.le_of_ble_eq_true rfl) ?_
  intro X E
  have B : mu_B X G cX12_found RX12 2 (mu_rm M_X12_found) := E.1
  show mu_WA X G 2 _ _ 0 0 0 _ []
  refine mu_il_1 B dX12_found_0 ?_
  refine mu_if_lt (tgt := 12) B dX12_found_1 (by decide) (fun c1 => ?_) (fun c1 => ?_)
  · try rw [mI_lt0 ⟨by omega, by omega⟩] at c1
    refine mu_iconst (v := mI (-1)) B dX12_found_12 rfl ?_
    refine mu_goto (tgt := 22) B dX12_found_13 (by decide) ?_
    refine mu_iret E rfl (by decide) (by decide) dX12_found_22 ?_
    refine ⟨?_, rfl⟩
    first | rw [if_pos (by omega)] | rw [if_neg (by omega)]
  · try rw [mI_lt0 ⟨by omega, by omega⟩] at c1
    refine mu_il_1 B dX12_found_4 ?_
    refine mu_al_0 B dX12_found_5 ?_
    refine mu_getI B dX12_found_6 fX12_282 rfl (by assumption) ?_
    rw [hn]
    refine mu_icmp_lt (tgt := 16) B dX12_found_9 (by decide) (fun c9 => ?_) (fun c9 => ?_)
    · try rw [mI_lt ⟨by omega, by omega⟩ ⟨by omega, by omega⟩] at c9
      refine mu_al_0 B dX12_found_16 ?_
      refine mu_getR B dX12_found_17 fX12_86 rfl (by assumption) (by assumption) ?_
      refine mu_il_1 B dX12_found_20 ?_
      refine mu_iald B dX12_found_21 (by assumption) (mI_in (by omega) (by omega) (by decide)) ?_
      rw [mI_clamp ⟨by omega, by omega⟩]
      refine mu_iret E rfl (by decide) (by decide) dX12_found_22 ?_
      refine ⟨?_, rfl⟩
      first | rw [if_pos (by omega)] | rw [if_neg (by omega)]
    · try rw [mI_lt ⟨by omega, by omega⟩ ⟨by omega, by omega⟩] at c9
      refine mu_iconst (v := mI (-1)) B dX12_found_12 rfl ?_
      refine mu_goto (tgt := 22) B dX12_found_13 (by decide) ?_
      refine mu_iret E rfl (by decide) (by decide) dX12_found_22 ?_
      refine ⟨?_, rfl⟩
      first | rw [if_pos (by omega)] | rw [if_neg (by omega)]

set_option maxHeartbeats 4000000 in
set_option maxRecDepth 100000 in
theorem c_X12_count (G : mu_G) {w : mu_W} {m : Nat} (hm : mo_ok w m) {z : Int} (hz : mi_ok z) : mu_Ct G M_X12_count [.ref m, .int (mI z)] w (fun r w' => r = some (.int (if z = 0 then mu_iv w m 3 else if z = 1 then mu_iv w m 13 else if z = 2 then mu_iv w m 46 else if z = 3 then mu_iv w m 42 else if z = 4 then mu_iv w m 43 else if z = 5 then mu_iv w m 2 else mI (-1))) ∧ w' = w) := by
  have hk0 := hm.1
  obtain ⟨hz1, hz2⟩ := hz
  refine mu_ofWA G M_X12_count [.ref m, .int (mI z)] (by decide) rfl (Nat.le_of_ble_eq_true rfl) ?_
  intro X E
  have B : mu_B X G cX12_count RX12 2 (mu_rm M_X12_count) := E.1
  show mu_WA X G 2 _ _ 0 0 0 _ []
  refine mu_il_1 B dX12_count_0 ?_
  by_cases t1_0 : z = 0
  · rw [t1_0]
    refine mu_tabIn (tgt := 40) (off := 39) B dX12_count_1 (by decide) (by decide) (by decide) (by decide) ?_
    refine mu_al_0 B dX12_count_40 ?_
    refine mu_getI B dX12_count_41 fX12_148 rfl (by assumption) ?_
    refine mu_iret E rfl (by decide) (by decide) dX12_count_44 ?_
    refine ⟨?_, rfl⟩
    simp [*]
  by_cases t1_1 : z = 1
  · rw [t1_1]
    refine mu_tabIn (tgt := 45) (off := 44) B dX12_count_1 (by decide) (by decide) (by decide) (by decide) ?_
    refine mu_al_0 B dX12_count_45 ?_
    refine mu_getI B dX12_count_46 fX12_172 rfl (by assumption) ?_
    refine mu_iret E rfl (by decide) (by decide) dX12_count_49 ?_
    refine ⟨?_, rfl⟩
    simp [*]
  by_cases t1_2 : z = 2
  · rw [t1_2]
    refine mu_tabIn (tgt := 50) (off := 49) B dX12_count_1 (by decide) (by decide) (by decide) (by decide) ?_
    refine mu_al_0 B dX12_count_50 ?_
    refine mu_getI B dX12_count_51 fX12_313 rfl (by assumption) ?_
    refine mu_iret E rfl (by decide) (by decide) dX12_count_54 ?_
    refine ⟨?_, rfl⟩
    simp [*]
  by_cases t1_3 : z = 3
  · rw [t1_3]
    refine mu_tabIn (tgt := 55) (off := 54) B dX12_count_1 (by decide) (by decide) (by decide) (by decide) ?_
    refine mu_al_0 B dX12_count_55 ?_
    refine mu_getI B dX12_count_56 fX12_279 rfl (by assumption) ?_
    refine mu_iret E rfl (by decide) (by decide) dX12_count_59 ?_
    refine ⟨?_, rfl⟩
    simp [*]
  by_cases t1_4 : z = 4
  · rw [t1_4]
    refine mu_tabIn (tgt := 60) (off := 59) B dX12_count_1 (by decide) (by decide) (by decide) (by decide) ?_
    refine mu_al_0 B dX12_count_60 ?_
    refine mu_getI B dX12_count_61 fX12_282 rfl (by assumption) ?_
    refine mu_iret E rfl (by decide) (by decide) dX12_count_64 ?_
    refine ⟨?_, rfl⟩
    simp [*]
  by_cases t1_5 : z = 5
  · rw [t1_5]
    refine mu_tabIn (tgt := 65) (off := 64) B dX12_count_1 (by decide) (by decide) (by decide) (by decide) ?_
    refine mu_al_0 B dX12_count_65 ?_
    refine mu_getI B dX12_count_66 fX12_128 rfl (by assumption) ?_
    refine mu_iret E rfl (by decide) (by decide) dX12_count_69 ?_
    refine ⟨?_, rfl⟩
    simp [*]
  refine mu_tabOut (tgt := 70) B dX12_count_1 (by rw [mI_toInt ⟨by omega, by omega⟩]; omega) (by decide) ?_
  refine mu_iconst (v := mI (-1)) B dX12_count_70 rfl ?_
  refine mu_iret E rfl (by decide) (by decide) dX12_count_71 ?_
  refine ⟨?_, rfl⟩
  simp [*]

/-- a cell of a board W wide and H high, dead outside -/
def sp_al (W H : Nat) (c : Nat → Nat → Nat) (x y : Int) : Nat := if 0 ≤ x ∧ 0 ≤ y ∧ x < W ∧ y < H then c x.toNat y.toNat else 0
def sp_ne (W H : Nat) (c : Nat → Nat → Nat) (nb : Nat) (x y : Int) : Nat := sp_al W H c (x - 1) y + sp_al W H c (x + 1) y + sp_al W H c x (y - 1) + sp_al W H c x (y + 1) + (if 4 < nb then sp_al W H c (x - 1) (y - 1) + sp_al W H c (x + 1) (y + 1) else 0) + (if 6 < nb then sp_al W H c (x + 1) (y - 1) + sp_al W H c (x - 1) (y + 1) else 0)
def sp_af (W H : Nat) (c : Nat → Nat → Nat) (nb bo st : Nat) (x y : Int) : Nat := (if sp_al W H c x y = 1 then st else bo) / 2 ^ sp_ne W H c nb x y % 2
/-- the board stands in an array of bytes -/
def Bd (w : mu_W) (a N fr W H : Nat) (c : Nat → Nat → Nat) : Prop := mu_kd w a = some (102, N) ∧ N ≤ 1000000 ∧ fr + W * H ≤ N ∧ (∀ i j, i < W → j < H → mu_iv w a (fr + W * j + i) = mI (c i j)) ∧ ∀ i j, c i j ≤ 1
theorem sp_al_le {W H : Nat} {c : Nat → Nat → Nat} (h : ∀ i j, c i j ≤ 1) (x y : Int) : sp_al W H c x y ≤ 1 := by
  unfold sp_al
  by_cases hh : 0 ≤ x ∧ 0 ≤ y ∧ x < W ∧ y < H
  · rw [if_pos hh]; exact h _ _
  · rw [if_neg hh]; omega
theorem Bd.ix {w : mu_W} {a N fr W H : Nat} {c : Nat → Nat → Nat} (h : Bd w a N fr W H c) {i j : Nat} (hi : i < W) (hj : j < H) : fr + W * j + i < N := by
  have h1 := h.2.2.1
  have h2 : W * j + W ≤ W * H := by
    have := Nat.mul_le_mul_left W (show j + 1 ≤ H from hj)
    rw [Nat.mul_add] at this
    omega
  omega

set_option maxHeartbeats 4000000 in
set_option maxRecDepth 100000 in
theorem c_X12_alive (G : mu_G) {w : mu_W} {a N fr W H : Nat} {c : Nat → Nat → Nat} (hB : Bd w a N fr W H c) (hW : W ≤ 1000) (hH : H ≤ 1000) {x y : Int} (hx : -100000 ≤ x ∧ x ≤ 100000) (hy : -100000 ≤ y ∧ y ≤ 100000) : mu_Ct G M_X12_alive [.ref a, .int (mI fr), .int (mI W), .int (mI H), .int (mI x), .int (mI y)] w (fun r w' => r = some (.int (mI (sp_al W H c x y))) ∧ w' = w) := by
  have hk := hB.1
  have hN := hB.2.1
  refine mu_ofWA G M_X12_alive [.ref a, .int (mI fr), .int (mI W), .int (mI H), .int (mI x), .int (mI y)] (by decide) rfl (Nat.le_of_ble_eq_true rfl) ?_
  intro X E
  have B : mu_B X G cX12_alive RX12 6 (mu_rm M_X12_alive) := E.1
  show mu_WA X G 6 _ _ 0 0 0 _ []
  refine mu_il_4 B dX12_alive_0 ?_
  refine mu_if_lt (tgt := 22) B dX12_alive_2 (by decide) (fun c2 => ?_) (fun c2 => ?_)
  · try rw [mI_lt0 ⟨by omega, by omega⟩] at c2
    refine mu_iconst (v := mI 0) B dX12_alive_22 rfl ?_
    refine mu_goto (tgt := 37) B dX12_alive_23 (by decide) ?_
    refine mu_iret E rfl (by decide) (by decide) dX12_alive_37 ?_
    refine ⟨?_, rfl⟩
    unfold sp_al
    first | rw [if_neg (by omega)]; rfl | rw [if_pos (by omega)]; rfl
  · try rw [mI_lt0 ⟨by omega, by omega⟩] at c2
    refine mu_il_5 B dX12_alive_5 ?_
    refine mu_if_lt (tgt := 22) B dX12_alive_7 (by decide) (fun c7 => ?_) (fun c7 => ?_)
    · try rw [mI_lt0 ⟨by omega, by omega⟩] at c7
      refine mu_iconst (v := mI 0) B dX12_alive_22 rfl ?_
      refine mu_goto (tgt := 37) B dX12_alive_23 (by decide) ?_
      refine mu_iret E rfl (by decide) (by decide) dX12_alive_37 ?_
      refine ⟨?_, rfl⟩
      unfold sp_al
      first | rw [if_neg (by omega)]; rfl | rw [if_pos (by omega)]; rfl
    · try rw [mI_lt0 ⟨by omega, by omega⟩] at c7
      refine mu_il_4 B dX12_alive_10 ?_
      refine mu_il_2 B dX12_alive_12 ?_
      refine mu_icmp_ge (tgt := 22) B dX12_alive_13 (by decide) (fun c13 => ?_) (fun c13 => ?_)
      · try rw [mI_le ⟨by omega, by omega⟩ ⟨by omega, by omega⟩] at c13
        refine mu_iconst (v := mI 0) B dX12_alive_22 rfl ?_
        refine mu_goto (tgt := 37) B dX12_alive_23 (by decide) ?_
        refine mu_iret E rfl (by decide) (by decide) dX12_alive_37 ?_
        refine ⟨?_, rfl⟩
        unfold sp_al
        first | rw [if_neg (by omega)]; rfl | rw [if_pos (by omega)]; rfl
      · try rw [mI_le ⟨by omega, by omega⟩ ⟨by omega, by omega⟩] at c13
        refine mu_il_5 B dX12_alive_16 ?_
        refine mu_il_3 B dX12_alive_18 ?_
        refine mu_icmp_lt (tgt := 26) B dX12_alive_19 (by decide) (fun c19 => ?_) (fun c19 => ?_)
        · try rw [mI_lt ⟨by omega, by omega⟩ ⟨by omega, by omega⟩] at c19
          refine mu_al_0 B dX12_alive_26 ?_
          refine mu_il_1 B dX12_alive_27 ?_
          refine mu_il_2 B dX12_alive_28 ?_
          refine mu_il_5 B dX12_alive_29 ?_
          refine mu_imul B dX12_alive_31 ?_
          try rw [mI_mul]
          refine mu_iadd B dX12_alive_32 ?_
          try rw [mI_add]
          refine mu_il_4 B dX12_alive_33 ?_
          refine mu_iadd B dX12_alive_35 ?_
          try rw [mI_add]
          obtain ⟨i, hi⟩ : ∃ i : Nat, x = i := ⟨x.toNat, by omega⟩
          obtain ⟨j, hj⟩ : ∃ j : Nat, y = j := ⟨y.toNat, by omega⟩
          subst hi
          subst hj
          have hix := hB.ix (i := i) (j := j) (by omega) (by omega)
          rw [show (fr : Int) + (W : Int) * (j : Int) + (i : Int) = ((fr + W * j + i : Nat) : Int) by simp only [Int.natCast_add, Int.natCast_mul]]
          refine mu_bald B dX12_alive_36 (by assumption) (mI_inN hix (by omega)) ?_
          rw [mI_clampN (by omega), hB.2.2.2.1 i j (by omega) (by omega)]
          refine mu_iret E rfl (by decide) (by decide) dX12_alive_37 ?_
          refine ⟨?_, rfl⟩
          unfold sp_al
          first | rw [if_neg (by omega)]; rfl | rw [if_pos (by omega)]; rfl
        · try rw [mI_lt ⟨by omega, by omega⟩ ⟨by omega, by omega⟩] at c19
          refine mu_iconst (v := mI 0) B dX12_alive_22 rfl ?_
          refine mu_goto (tgt := 37) B dX12_alive_23 (by decide) ?_
          refine mu_iret E rfl (by decide) (by decide) dX12_alive_37 ?_
          refine ⟨?_, rfl⟩
          unfold sp_al
          first | rw [if_neg (by omega)]; rfl | rw [if_pos (by omega)]; rfl

set_option maxHeartbeats 4000000 in
set_option maxRecDepth 100000 in
theorem c_X12_neighbours (G : mu_G) {w : mu_W} {a N fr W H : Nat} {c : Nat → Nat → Nat} (hB : Bd w a N fr W H c) (hW : W ≤ 1000) (hH : H ≤ 1000) {x y : Int} (hx : -99999 ≤ x ∧ x ≤ 99999) (hy : -99999 ≤ y ∧ y ≤ 99999) {nb : Nat} (hnb : nb ≤ 8) : mu_Ct G M_X12_neighbours [.ref a, .int (mI fr), .int (mI W), .int (mI H), .int (mI x), .int (mI y), .int (mI nb)] w (fun r w' => r = some (.int (mI (sp_ne W H c nb x y))) ∧ w' = w) := by
  refine mu_ofWA G M_X12_neighbours [.ref a, .int (mI fr), .int (mI W), .int (mI H), .int (mI x), .int (mI y), .int (mI nb), mu_no] (by decide) rfl (Nat.le_of_ble_eq_true rfl) ?_
  intro X E
  have B : mu_B X G cX12_neighbours RX12 8 (mu_rm M_X12_neighbours) := E.1
  show mu_WA X G 8 _ _ 0 0 0 _ []
  refine mu_al_0 B dX12_neighbours_0 ?_
  refine mu_il_1 B dX12_neighbours_1 ?_
  refine mu_il_2 B dX12_neighbours_2 ?_
  refine mu_il_3 B dX12_neighbours_3 ?_
  refine mu_il_4 B dX12_neighbours_4 ?_
  refine mu_iconst (v := mI 1) B dX12_neighbours_6 rfl ?_
  refine mu_isub B dX12_neighbours_7 ?_
  try rw [mI_sub]
  refine mu_il_5 B dX12_neighbours_8 ?_
  refine mu_eS6 B dX12_neighbours_10 mX12_164 ⟨⟨by decide, by decide⟩, by decide, by decide⟩ (Nat.le_of_ble_eq_true rfl) (c_X12_alive G hB hW hH (x := x - 1) (y := y) (by omega) (by omega)) ?_
  refine mu_al_0 B dX12_neighbours_13 ?_
  refine mu_il_1 B dX12_neighbours_14 ?_
  refine mu_il_2 B dX12_neighbours_15 ?_
  refine mu_il_3 B dX12_neighbours_16 ?_
  refine mu_il_4 B dX12_neighbours_17 ?_
  refine mu_iconst (v := mI 1) B dX12_neighbours_19 rfl ?_
  refine mu_iadd B dX12_neighbours_20 ?_
  try rw [mI_add]
  refine mu_il_5 B dX12_neighbours_21 ?_
  refine mu_eS6 B dX12_neighbours_23 mX12_164 ⟨⟨by decide, by decide⟩, by decide, by decide⟩ (Nat.le_of_ble_eq_true rfl) (c_X12_alive G hB hW hH (x := x + 1) (y := y) (by omega) (by omega)) ?_
  refine mu_iadd B dX12_neighbours_26 ?_
  try rw [mI_add]
  refine mu_al_0 B dX12_neighbours_27 ?_
  refine mu_il_1 B dX12_neighbours_28 ?_
  refine mu_il_2 B dX12_neighbours_29 ?_
  refine mu_il_3 B dX12_neighbours_30 ?_
  refine mu_il_4 B dX12_neighbours_31 ?_
  refine mu_il_5 B dX12_neighbours_33 ?_
  refine mu_iconst (v := mI 1) B dX12_neighbours_35 rfl ?_
  refine mu_isub B dX12_neighbours_36 ?_
  try rw [mI_sub]
  refine mu_eS6 B dX12_neighbours_37 mX12_164 ⟨⟨by decide, by decide⟩, by decide, by decide⟩ (Nat.le_of_ble_eq_true rfl) (c_X12_alive G hB hW hH (x := x) (y := y - 1) (by omega) (by omega)) ?_
  refine mu_iadd B dX12_neighbours_40 ?_
  try rw [mI_add]
  refine mu_al_0 B dX12_neighbours_41 ?_
  refine mu_il_1 B dX12_neighbours_42 ?_
  refine mu_il_2 B dX12_neighbours_43 ?_
  refine mu_il_3 B dX12_neighbours_44 ?_
  refine mu_il_4 B dX12_neighbours_45 ?_
  refine mu_il_5 B dX12_neighbours_47 ?_
  refine mu_iconst (v := mI 1) B dX12_neighbours_49 rfl ?_
  refine mu_iadd B dX12_neighbours_50 ?_
  try rw [mI_add]
  refine mu_eS6 B dX12_neighbours_51 mX12_164 ⟨⟨by decide, by decide⟩, by decide, by decide⟩ (Nat.le_of_ble_eq_true rfl) (c_X12_alive G hB hW hH (x := x) (y := y + 1) (by omega) (by omega)) ?_
  refine mu_iadd B dX12_neighbours_54 ?_
  try rw [mI_add]
  refine mu_is_7 B dX12_neighbours_55 (by decide) rfl ?_
  refine mu_il_6 B dX12_neighbours_57 ?_
  refine mu_iconst (v := mI 4) B dX12_neighbours_59 rfl ?_
  refine mu_icmp_le (tgt := 99) B dX12_neighbours_60 (by decide) (fun c60 => ?_) (fun c60 => ?_)
  · try rw [mI_le ⟨by omega, by omega⟩ ⟨by omega, by omega⟩] at c60
    refine mu_il_6 B dX12_neighbours_99 ?_
    refine mu_bipush (v := mI 6) B dX12_neighbours_101 (by decide) ?_
    refine mu_icmp_le (tgt := 142) B dX12_neighbours_103 (by decide) (fun c103 => ?_) (fun c103 => ?_)
    · try rw [mI_le ⟨by omega, by omega⟩ ⟨by omega, by omega⟩] at c103
      refine mu_il_7 B dX12_neighbours_142 ?_
      refine mu_iret E rfl (by decide) (by decide) dX12_neighbours_144 ?_
      refine ⟨?_, rfl⟩
      unfold sp_ne
      first | rw [if_pos (by omega), if_pos (by omega)] | rw [if_pos (by omega), if_neg (by omega)] | rw [if_neg (by omega), if_neg (by omega)]
      congr 2
      all_goals congr 1
      all_goals omega
    · try rw [mI_le ⟨by omega, by omega⟩ ⟨by omega, by omega⟩] at c103
      refine mu_il_7 B dX12_neighbours_106 ?_
      refine mu_al_0 B dX12_neighbours_108 ?_
      refine mu_il_1 B dX12_neighbours_109 ?_
      refine mu_il_2 B dX12_neighbours_110 ?_
      refine mu_il_3 B dX12_neighbours_111 ?_
      refine mu_il_4 B dX12_neighbours_112 ?_
      refine mu_iconst (v := mI 1) B dX12_neighbours_114 rfl ?_
      refine mu_iadd B dX12_neighbours_115 ?_
      try rw [mI_add]
      refine mu_il_5 B dX12_neighbours_116 ?_
      refine mu_iconst (v := mI 1) B dX12_neighbours_118 rfl ?_
      refine mu_isub B dX12_neighbours_119 ?_
      try rw [mI_sub]
      refine mu_eS6 B dX12_neighbours_120 mX12_164 ⟨⟨by decide, by decide⟩, by decide, by decide⟩ (Nat.le_of_ble_eq_true rfl) (c_X12_alive G hB hW hH (x := x + 1) (y := y - 1) (by omega) (by omega)) ?_
      refine mu_al_0 B dX12_neighbours_123 ?_
      refine mu_il_1 B dX12_neighbours_124 ?_
      refine mu_il_2 B dX12_neighbours_125 ?_
      refine mu_il_3 B dX12_neighbours_126 ?_
      refine mu_il_4 B dX12_neighbours_127 ?_
      refine mu_iconst (v := mI 1) B dX12_neighbours_129 rfl ?_
      refine mu_isub B dX12_neighbours_130 ?_
      try rw [mI_sub]
      refine mu_il_5 B dX12_neighbours_131 ?_
      refine mu_iconst (v := mI 1) B dX12_neighbours_133 rfl ?_
      refine mu_iadd B dX12_neighbours_134 ?_
      try rw [mI_add]
      refine mu_eS6 B dX12_neighbours_135 mX12_164 ⟨⟨by decide, by decide⟩, by decide, by decide⟩ (Nat.le_of_ble_eq_true rfl) (c_X12_alive G hB hW hH (x := x - 1) (y := y + 1) (by omega) (by omega)) ?_
      refine mu_iadd B dX12_neighbours_138 ?_
      try rw [mI_add]
      refine mu_iadd B dX12_neighbours_139 ?_
      try rw [mI_add]
      refine mu_is_7 B dX12_neighbours_140 (by decide) rfl ?_
      refine mu_il_7 B dX12_neighbours_142 ?_
      refine mu_iret E rfl (by decide) (by decide) dX12_neighbours_144 ?_
      refine ⟨?_, rfl⟩
      unfold sp_ne
      first | rw [if_pos (by omega), if_pos (by omega)] | rw [if_pos (by omega), if_neg (by omega)] | rw [if_neg (by omega), if_neg (by omega)]
      congr 2
      all_goals congr 1
      all_goals omega
  · try rw [mI_le ⟨by omega, by omega⟩ ⟨by omega, by omega⟩] at c60
    refine mu_il_7 B dX12_neighbours_63 ?_
    refine mu_al_0 B dX12_neighbours_65 ?_
    refine mu_il_1 B dX12_neighbours_66 ?_
    refine mu_il_2 B dX12_neighbours_67 ?_
    refine mu_il_3 B dX12_neighbours_68 ?_
    refine mu_il_4 B dX12_neighbours_69 ?_
    refine mu_iconst (v := mI 1) B dX12_neighbours_71 rfl ?_
    refine mu_isub B dX12_neighbours_72 ?_
    try rw [mI_sub]
    refine mu_il_5 B dX12_neighbours_73 ?_
    refine mu_iconst (v := mI 1) B dX12_neighbours_75 rfl ?_
    refine mu_isub B dX12_neighbours_76 ?_
    try rw [mI_sub]
    refine mu_eS6 B dX12_neighbours_77 mX12_164 ⟨⟨by decide, by decide⟩, by decide, by decide⟩ (Nat.le_of_ble_eq_true rfl) (c_X12_alive G hB hW hH (x := x - 1) (y := y - 1) (by omega) (by omega)) ?_
    refine mu_al_0 B dX12_neighbours_80 ?_
    refine mu_il_1 B dX12_neighbours_81 ?_
    refine mu_il_2 B dX12_neighbours_82 ?_
    refine mu_il_3 B dX12_neighbours_83 ?_
    refine mu_il_4 B dX12_neighbours_84 ?_
    refine mu_iconst (v := mI 1) B dX12_neighbours_86 rfl ?_
    refine mu_iadd B dX12_neighbours_87 ?_
    try rw [mI_add]
    refine mu_il_5 B dX12_neighbours_88 ?_
    refine mu_iconst (v := mI 1) B dX12_neighbours_90 rfl ?_
    refine mu_iadd B dX12_neighbours_91 ?_
    try rw [mI_add]
    refine mu_eS6 B dX12_neighbours_92 mX12_164 ⟨⟨by decide, by decide⟩, by decide, by decide⟩ (Nat.le_of_ble_eq_true rfl) (c_X12_alive G hB hW hH (x := x + 1) (y := y + 1) (by omega) (by omega)) ?_
    refine mu_iadd B dX12_neighbours_95 ?_
    try rw [mI_add]
    refine mu_iadd B dX12_neighbours_96 ?_
    try rw [mI_add]
    refine mu_is_7 B dX12_neighbours_97 (by decide) rfl ?_
    refine mu_il_6 B dX12_neighbours_99 ?_
    refine mu_bipush (v := mI 6) B dX12_neighbours_101 (by decide) ?_
    refine mu_icmp_le (tgt := 142) B dX12_neighbours_103 (by decide) (fun c103 => ?_) (fun c103 => ?_)
    · try rw [mI_le ⟨by omega, by omega⟩ ⟨by omega, by omega⟩] at c103
      refine mu_il_7 B dX12_neighbours_142 ?_
      refine mu_iret E rfl (by decide) (by decide) dX12_neighbours_144 ?_
      refine ⟨?_, rfl⟩
      unfold sp_ne
      first | rw [if_pos (by omega), if_pos (by omega)] | rw [if_pos (by omega), if_neg (by omega)] | rw [if_neg (by omega), if_neg (by omega)]
      congr 2
      all_goals congr 1
      all_goals omega
    · try rw [mI_le ⟨by omega, by omega⟩ ⟨by omega, by omega⟩] at c103
      refine mu_il_7 B dX12_neighbours_106 ?_
      refine mu_al_0 B dX12_neighbours_108 ?_
      refine mu_il_1 B dX12_neighbours_109 ?_
      refine mu_il_2 B dX12_neighbours_110 ?_
      refine mu_il_3 B dX12_neighbours_111 ?_
      refine mu_il_4 B dX12_neighbours_112 ?_
      refine mu_iconst (v := mI 1) B dX12_neighbours_114 rfl ?_
      refine mu_iadd B dX12_neighbours_115 ?_
      try rw [mI_add]
      refine mu_il_5 B dX12_neighbours_116 ?_
      refine mu_iconst (v := mI 1) B dX12_neighbours_118 rfl ?_
      refine mu_isub B dX12_neighbours_119 ?_
      try rw [mI_sub]
      refine mu_eS6 B dX12_neighbours_120 mX12_164 ⟨⟨by decide, by decide⟩, by decide, by decide⟩ (Nat.le_of_ble_eq_true rfl) (c_X12_alive G hB hW hH (x := x + 1) (y := y - 1) (by omega) (by omega)) ?_
      refine mu_al_0 B dX12_neighbours_123 ?_
      refine mu_il_1 B dX12_neighbours_124 ?_
      refine mu_il_2 B dX12_neighbours_125 ?_
      refine mu_il_3 B dX12_neighbours_126 ?_
      refine mu_il_4 B dX12_neighbours_127 ?_
      refine mu_iconst (v := mI 1) B dX12_neighbours_129 rfl ?_
      refine mu_isub B dX12_neighbours_130 ?_
      try rw [mI_sub]
      refine mu_il_5 B dX12_neighbours_131 ?_
      refine mu_iconst (v := mI 1) B dX12_neighbours_133 rfl ?_
      refine mu_iadd B dX12_neighbours_134 ?_
      try rw [mI_add]
      refine mu_eS6 B dX12_neighbours_135 mX12_164 ⟨⟨by decide, by decide⟩, by decide, by decide⟩ (Nat.le_of_ble_eq_true rfl) (c_X12_alive G hB hW hH (x := x - 1) (y := y + 1) (by omega) (by omega)) ?_
      refine mu_iadd B dX12_neighbours_138 ?_
      try rw [mI_add]
      refine mu_iadd B dX12_neighbours_139 ?_
      try rw [mI_add]
      refine mu_is_7 B dX12_neighbours_140 (by decide) rfl ?_
      refine mu_il_7 B dX12_neighbours_142 ?_
      refine mu_iret E rfl (by decide) (by decide) dX12_neighbours_144 ?_
      refine ⟨?_, rfl⟩
      unfold sp_ne
      first | rw [if_pos (by omega), if_pos (by omega)] | rw [if_pos (by omega), if_neg (by omega)] | rw [if_neg (by omega), if_neg (by omega)]
      congr 2
      all_goals congr 1
      all_goals omega

theorem sp_ne_le {W H : Nat} {c : Nat → Nat → Nat} (h : ∀ i j, c i j ≤ 1) (nb : Nat) (x y : Int) : sp_ne W H c nb x y ≤ 8 := by
  unfold sp_ne
  have h1 := sp_al_le (W := W) (H := H) h (x - 1) y
  have h2 := sp_al_le (W := W) (H := H) h (x + 1) y
  have h3 := sp_al_le (W := W) (H := H) h x (y - 1)
  have h4 := sp_al_le (W := W) (H := H) h x (y + 1)
  have h5 := sp_al_le (W := W) (H := H) h (x - 1) (y - 1)
  have h6 := sp_al_le (W := W) (H := H) h (x + 1) (y + 1)
  have h7 := sp_al_le (W := W) (H := H) h (x + 1) (y - 1)
  have h8 := sp_al_le (W := W) (H := H) h (x - 1) (y + 1)
  by_cases c4 : 4 < nb
  · by_cases c6 : 6 < nb
    · rw [if_pos c4, if_pos c6]; omega
    · rw [if_pos c4, if_neg c6]; omega
  · by_cases c6 : 6 < nb
    · rw [if_neg c4, if_pos c6]; omega
    · rw [if_neg c4, if_neg c6]; omega

set_option maxHeartbeats 4000000 in
set_option maxRecDepth 100000 in
theorem c_X12_after (G : mu_G) {w : mu_W} {m : Nat} (hm : mo_ok w m) {nr : Nat} {rs : Nat → mu_RS} (hru : MRu w m nr rs) {k : Nat} (hk : k < nr) (hq : rs_nb (rs k) ≠ 0) {a N fr W H : Nat} {c : Nat → Nat → Nat} (hB : Bd w a N fr W H c) (hW : W ≤ 1000) (hH : H ≤ 1000) {x y : Int} (hx : -99999 ≤ x ∧ x ≤ 99999) (hy : -99999 ≤ y ∧ y ≤ 99999) : mu_Ct G M_X12_after [.ref m, .int (mI k), .ref a, .int (mI fr), .int (mI W), .int (mI H), .int (mI x), .int (mI y)] w (fun r w' => r = some (.int (mI (sp_af W H c (rs_nb (rs k)) (rs_bo (rs k)) (rs_st (rs k)) x y))) ∧ w' = w) := by
  have hk0 := hm.1
  obtain ⟨h1, h2⟩ := mo_7 hm
  obtain ⟨h3, h4⟩ := mo_8 hm
  obtain ⟨h5, h6⟩ := mo_9 hm
  obtain ⟨g1, g2, g3, g4, g5, g6⟩ := hru.2.2 k hk
  have hnr := hru.1
  have hbd := rs_nb_bd g1
  have hb9 := hbd.2 hq
  have hne := sp_ne_le (W := W) (H := H) hB.2.2.2.2 (rs_nb (rs k)) x y
  have hal := sp_al_le (W := W) (H := H) hB.2.2.2.2 x y
  refine mu_ofWA G M_X12_after [.ref m, .int (mI k), .ref a, .int (mI fr), .int (mI W), .int (mI H), .int (mI x), .int (mI y), mu_no, mu_no] (by decide) rfl (Nat.le_of_ble_eq_true rfl) ?_
  intro X E
  have B : mu_B X G cX12_after RX12 10 (mu_rm M_X12_after) := E.1
  show mu_WA X G 10 _ _ 0 0 0 _ []
  refine mu_al_2 B dX12_after_0 ?_
  refine mu_il_3 B dX12_after_1 ?_
  refine mu_il_4 B dX12_after_2 ?_
  refine mu_il_5 B dX12_after_4 ?_
  refine mu_il_6 B dX12_after_6 ?_
  refine mu_il_7 B dX12_after_8 ?_
  refine mu_al_0 B dX12_after_10 ?_
  refine mu_getR B dX12_after_11 fX12_23 rfl (by assumption) (by assumption) ?_
  refine mu_il_1 B dX12_after_14 ?_
  refine mu_iald B dX12_after_15 (by assumption) (mI_inN (by omega) (by omega)) ?_
  rw [mI_clampN (by omega), g4]
  refine mu_eS7 B dX12_after_16 mX12_168 ⟨⟨by decide, by decide⟩, by decide, by decide⟩ (Nat.le_of_ble_eq_true rfl) (c_X12_neighbours G hB hW hH hx hy (nb := rs_nb (rs k)) hbd.1) ?_
  refine mu_is_8 B dX12_after_19 (by decide) rfl ?_
  refine mu_al_2 B dX12_after_21 ?_
  refine mu_il_3 B dX12_after_22 ?_
  refine mu_il_4 B dX12_after_23 ?_
  refine mu_il_5 B dX12_after_25 ?_
  refine mu_il_6 B dX12_after_27 ?_
  refine mu_il_7 B dX12_after_29 ?_
  refine mu_eS6 B dX12_after_31 mX12_164 ⟨⟨by decide, by decide⟩, by decide, by decide⟩ (Nat.le_of_ble_eq_true rfl) (c_X12_alive G hB hW hH (x := x) (y := y) (by omega) (by omega)) ?_
  refine mu_is_9 B dX12_after_34 (by decide) rfl ?_
  refine mu_il_9 B dX12_after_36 ?_
  refine mu_iconst (v := mI 1) B dX12_after_38 rfl ?_
  refine mu_icmp_ne (tgt := 51) B dX12_after_39 (by decide) (fun c39 => ?_) (fun c39 => ?_)
  · try rw [mI_eq ⟨by omega, by omega⟩ ⟨by omega, by omega⟩] at c39
    refine mu_al_0 B dX12_after_51 ?_
    refine mu_getR B dX12_after_52 fX12_26 rfl (by assumption) (by assumption) ?_
    refine mu_il_1 B dX12_after_55 ?_
    refine mu_iald B dX12_after_56 (by assumption) (mI_inN (by omega) (by omega)) ?_
    rw [mI_clampN (by omega), (g5 hq).1]
    refine mu_il_8 B dX12_after_57 ?_
    refine mu_ishr B dX12_after_59 ?_
    rw [mI_shr _ ⟨by omega, by omega⟩ _ (by omega)]
    refine mu_iconst (v := mI 1) B dX12_after_60 rfl ?_
    refine mu_iand B dX12_after_61 ?_
    rw [mI_and _ (m := mI 1) 1 (by decide) (by decide)]
    refine mu_iret E rfl (by decide) (by decide) dX12_after_62 ?_
    refine ⟨?_, rfl⟩
    unfold sp_af
    first | (rw [if_pos (by omega)]; simp) | (rw [if_neg (by omega)]; simp)
  · try rw [mI_eq ⟨by omega, by omega⟩ ⟨by omega, by omega⟩] at c39
    refine mu_al_0 B dX12_after_42 ?_
    refine mu_getR B dX12_after_43 fX12_29 rfl (by assumption) (by assumption) ?_
    refine mu_il_1 B dX12_after_46 ?_
    refine mu_iald B dX12_after_47 (by assumption) (mI_inN (by omega) (by omega)) ?_
    rw [mI_clampN (by omega), (g5 hq).2]
    refine mu_goto (tgt := 57) B dX12_after_48 (by decide) ?_
    refine mu_il_8 B dX12_after_57 ?_
    refine mu_ishr B dX12_after_59 ?_
    rw [mI_shr _ ⟨by omega, by omega⟩ _ (by omega)]
    refine mu_iconst (v := mI 1) B dX12_after_60 rfl ?_
    refine mu_iand B dX12_after_61 ?_
    rw [mI_and _ (m := mI 1) 1 (by decide) (by decide)]
    refine mu_iret E rfl (by decide) (by decide) dX12_after_62 ?_
    refine ⟨?_, rfl⟩
    unfold sp_af
    first | (rw [if_pos (by omega)]; simp) | (rw [if_neg (by omega)]; simp)

set_option maxHeartbeats 4000000 in
set_option maxRecDepth 100000 in
theorem c_X12_gridPlace (G : mu_G) {w : mu_W} {m : Nat} (hm : mo_ok w m) {g i j R C : Nat} (hg : g < 8) (hr : mu_iv w (m + 28) g = mI R) (hc : mu_iv w (m + 29) g = mI C) (hR : 0 < R ∧ R ≤ 16) (hC : 0 < C ∧ C ≤ 16) (hi : i < 1000) (hj : j < 1000) : mu_Ct G M_X12_gridPlace [.ref m, .int (mI g), .int (mI i), .int (mI j)] w (fun r w' => r = some (.int (mI ((256 * g + C * (i % R) + j % C : Nat) : Int))) ∧ w' = w) := by
  have hk0 := hm.1
  obtain ⟨h1, h2⟩ := mo_48 hm
  obtain ⟨h3, h4⟩ := mo_49 hm
  refine mu_ofWA G M_X12_gridPlace [.ref m, .int (mI g), .int (mI i), .int (mI j)] (by decide) rfl (Nat.le_of_ble_eq_true rfl) ?_
  intro X E
  have B : mu_B X G cX12_gridPlace RX12 4 (mu_rm M_X12_gridPlace) := E.1
  show mu_WA X G 4 _ _ 0 0 0 _ []
  refine mu_sipush (v := mI 256) B dX12_gridPlace_0 (by decide) ?_
  refine mu_il_1 B dX12_gridPlace_3 ?_
  refine mu_imul B dX12_gridPlace_4 ?_
  try rw [mI_mul]
  refine mu_al_0 B dX12_gridPlace_5 ?_
  refine mu_getR B dX12_gridPlace_6 fX12_99 rfl (by assumption) (by assumption) ?_
  refine mu_il_1 B dX12_gridPlace_9 ?_
  refine mu_iald B dX12_gridPlace_10 (by assumption) (mI_inN (by omega) (by omega)) ?_
  rw [mI_clampN (by omega), hc]
  refine mu_il_2 B dX12_gridPlace_11 ?_
  refine mu_al_0 B dX12_gridPlace_12 ?_
  refine mu_getR B dX12_gridPlace_13 fX12_96 rfl (by assumption) (by assumption) ?_
  refine mu_il_1 B dX12_gridPlace_16 ?_
  refine mu_iald B dX12_gridPlace_17 (by assumption) (mI_inN (by omega) (by omega)) ?_
  rw [mI_clampN (by omega), hr]
  refine mu_irem B dX12_gridPlace_18 ?_ ?_
  · exact mu_ne (by omega) (by omega)
  rw [mI_rem (by omega) (by omega) (by omega) (by omega)]
  refine mu_imul B dX12_gridPlace_19 ?_
  try rw [mI_mul]
  refine mu_iadd B dX12_gridPlace_20 ?_
  try rw [mI_add]
  refine mu_il_3 B dX12_gridPlace_21 ?_
  refine mu_al_0 B dX12_gridPlace_22 ?_
  refine mu_getR B dX12_gridPlace_23 fX12_99 rfl (by assumption) (by assumption) ?_
  refine mu_il_1 B dX12_gridPlace_26 ?_
  refine mu_iald B dX12_gridPlace_27 (by assumption) (mI_inN (by omega) (by omega)) ?_
  rw [mI_clampN (by omega), hc]
  refine mu_irem B dX12_gridPlace_28 ?_ ?_
  · exact mu_ne (by omega) (by omega)
  rw [mI_rem (by omega) (by omega) (by omega) (by omega)]
  refine mu_iadd B dX12_gridPlace_29 ?_
  try rw [mI_add]
  refine mu_iret E rfl (by decide) (by decide) dX12_gridPlace_30 ?_
  exact ⟨by simp only [Int.natCast_add, Int.natCast_mul, Int.natCast_emod]; rfl, rfl⟩

set_option maxHeartbeats 4000000 in
set_option maxRecDepth 100000 in
theorem c_X12_areDone (G : mu_G) {w : mu_W} {m : Nat} (hm : mo_ok w m) {L R U D M k : Int} (h19 : mu_iv w m 19 = mI L) (h20 : mu_iv w m 20 = mI R) (h21 : mu_iv w m 21 = mI U) (h22 : mu_iv w m 22 = mI D) (h23 : mu_iv w m 23 = mI M) (hb : -1 ≤ L ∧ L ≤ 256 ∧ -1 ≤ R ∧ R ≤ 256 ∧ -1 ≤ U ∧ U ≤ 256 ∧ -1 ≤ D ∧ D ≤ 256 ∧ 0 ≤ M ∧ M ≤ 65536) (hk : 0 ≤ k ∧ k ≤ 1000) : mu_Ct G M_X12_areDone [.ref m, .int (mI k)] w (fun r w' => r = some (.int (if M = 0 ∨ (0 ≤ L - k ∧ 0 ≤ U - k ∧ R + k < 256 ∧ D + k < 256) then mI 1 else mI 0)) ∧ w' = w) := by
  have hk0 := hm.1
  refine mu_ofWA G M_X12_areDone [.ref m, .int (mI k)] (by decide) rfl (Nat.le_of_ble_eq_true rfl) ?_
  intro X E
  have B : mu_B X G cX12_areDone RX12 2 (mu_rm M_X12_areDone) := E.1
  show mu_WA X G 2 _ _ 0 0 0 _ []
  refine mu_al_0 B dX12_areDone_0 ?_
  refine mu_getI B dX12_areDone_1 fX12_201 rfl (by assumption) ?_
  rw [h23]
  refine mu_if_eq (tgt := 49) B dX12_areDone_4 (by decide) (fun c4 => ?_) (fun c4 => ?_)
  · try rw [mI_eq0 ⟨by omega, by omega⟩] at c4
    refine mu_iconst (v := mI 1) B dX12_areDone_49 rfl ?_
    refine mu_goto (tgt := 54) B dX12_areDone_50 (by decide) ?_
    refine mu_zret E rfl (by decide) (by decide) dX12_areDone_54 (by decide) ?_
    refine ⟨?_, rfl⟩
    first | rw [if_pos (by omega)] | rw [if_neg (by omega)]
  · try rw [mI_eq0 ⟨by omega, by omega⟩] at c4
    refine mu_al_0 B dX12_areDone_7 ?_
    refine mu_getI B dX12_areDone_8 fX12_189 rfl (by assumption) ?_
    rw [h19]
    refine mu_il_1 B dX12_areDone_11 ?_
    refine mu_isub B dX12_areDone_12 ?_
    try rw [mI_sub]
    refine mu_if_lt (tgt := 53) B dX12_areDone_13 (by decide) (fun c13 => ?_) (fun c13 => ?_)
    · try rw [mI_lt0 ⟨by omega, by omega⟩] at c13
      refine mu_iconst (v := mI 0) B dX12_areDone_53 rfl ?_
      refine mu_zret E rfl (by decide) (by decide) dX12_areDone_54 (by decide) ?_
      refine ⟨?_, rfl⟩
      first | rw [if_pos (by omega)] | rw [if_neg (by omega)]
    · try rw [mI_lt0 ⟨by omega, by omega⟩] at c13
      refine mu_al_0 B dX12_areDone_16 ?_
      refine mu_getI B dX12_areDone_17 fX12_195 rfl (by assumption) ?_
      rw [h21]
      refine mu_il_1 B dX12_areDone_20 ?_
      refine mu_isub B dX12_areDone_21 ?_
      try rw [mI_sub]
      refine mu_if_lt (tgt := 53) B dX12_areDone_22 (by decide) (fun c22 => ?_) (fun c22 => ?_)
      · try rw [mI_lt0 ⟨by omega, by omega⟩] at c22
        refine mu_iconst (v := mI 0) B dX12_areDone_53 rfl ?_
        refine mu_zret E rfl (by decide) (by decide) dX12_areDone_54 (by decide) ?_
        refine ⟨?_, rfl⟩
        first | rw [if_pos (by omega)] | rw [if_neg (by omega)]
      · try rw [mI_lt0 ⟨by omega, by omega⟩] at c22
        refine mu_al_0 B dX12_areDone_25 ?_
        refine mu_getI B dX12_areDone_26 fX12_192 rfl (by assumption) ?_
        rw [h20]
        refine mu_il_1 B dX12_areDone_29 ?_
        refine mu_iadd B dX12_areDone_30 ?_
        try rw [mI_add]
        refine mu_sipush (v := mI 256) B dX12_areDone_31 (by decide) ?_
        refine mu_icmp_ge (tgt := 53) B dX12_areDone_34 (by decide) (fun c34 => ?_) (fun c34 => ?_)
        · try rw [mI_le ⟨by omega, by omega⟩ ⟨by omega, by omega⟩] at c34
          refine mu_iconst (v := mI 0) B dX12_areDone_53 rfl ?_
          refine mu_zret E rfl (by decide) (by decide) dX12_areDone_54 (by decide) ?_
          refine ⟨?_, rfl⟩
          first | rw [if_pos (by omega)] | rw [if_neg (by omega)]
        · try rw [mI_le ⟨by omega, by omega⟩ ⟨by omega, by omega⟩] at c34
          refine mu_al_0 B dX12_areDone_37 ?_
          refine mu_getI B dX12_areDone_38 fX12_198 rfl (by assumption) ?_
          rw [h22]
          refine mu_il_1 B dX12_areDone_41 ?_
          refine mu_iadd B dX12_areDone_42 ?_
          try rw [mI_add]
          refine mu_sipush (v := mI 256) B dX12_areDone_43 (by decide) ?_
          refine mu_icmp_ge (tgt := 53) B dX12_areDone_46 (by decide) (fun c46 => ?_) (fun c46 => ?_)
          · try rw [mI_le ⟨by omega, by omega⟩ ⟨by omega, by omega⟩] at c46
            refine mu_iconst (v := mI 0) B dX12_areDone_53 rfl ?_
            refine mu_zret E rfl (by decide) (by decide) dX12_areDone_54 (by decide) ?_
            refine ⟨?_, rfl⟩
            first | rw [if_pos (by omega)] | rw [if_neg (by omega)]
          · try rw [mI_le ⟨by omega, by omega⟩ ⟨by omega, by omega⟩] at c46
            refine mu_iconst (v := mI 1) B dX12_areDone_49 rfl ?_
            refine mu_goto (tgt := 54) B dX12_areDone_50 (by decide) ?_
            refine mu_zret E rfl (by decide) (by decide) dX12_areDone_54 (by decide) ?_
            refine ⟨?_, rfl⟩
            first | rw [if_pos (by omega)] | rw [if_neg (by omega)]

def sp_fd (a b c d e : Int32) (j : Nat) : Nat := mu_by (if j < 4 then a else if j < 8 then b else if j < 12 then c else if j < 16 then d else e) (j % 4)
def sp_tape (n : Nat) (tp : Nat → Nat) (a b c d e : Int32) : Nat → Nat := fun j => if j < n then tp j else sp_fd a b c d e (j - n)

set_option maxHeartbeats 4000000 in
set_option maxRecDepth 100000 in
theorem c_X12_feed (G : mu_G) {w : mu_W} {m : Nat} (hm : mo_ok w m) {n : Nat} {tp : Nat → Nat} (ht : MT w m n tp) {a b c d e : Int32} : mu_Ct G M_X12_feed [.ref m, .int a, .int b, .int c, .int d, .int e] w (fun r w' => if n + 20 ≤ 2000 then r = some (.int (mI ((n + 20 : Nat) : Int))) ∧ mo_ok w' m ∧ MT w' m (n + 20) (sp_tape n tp a b c d e) ∧ mu_Fi (fun q j => (q = m ∧ j = 2) ∨ q = m + 1) w w' else r = some (.int (mI (-3))) ∧ w' = w) := by
  have hk0 := hm.1
  have hn2 := ht.1.1
  refine mu_ofWA G M_X12_feed [.ref m, .int a, .int b, .int c, .int d, .int e, mu_no, mu_no] (by decide) rfl (Nat.le_of_ble_eq_true rfl) ?_
  intro X E
  have B : mu_B X G cX12_feed RX12 8 (mu_rm M_X12_feed) := E.1
  have LF : n + 20 ≤ 2000 → ∀ k (s : mu_W × Value), k ≤ 20 → (mo_ok s.1 m ∧ mu_iv s.1 m 2 = mI ((n + k : Nat) : Int) ∧ (∀ j, j < n + k → mu_iv s.1 (m + 1) j = mI (sp_tape n tp a b c d e j)) ∧ mu_Fi (fun q j => (q = m ∧ j = 2) ∨ q = m + 1) w s.1) → mu_WA X G 8 (mu_Q X G M_X12_feed (fun r w' => if n + 20 ≤ 2000 then r = some (.int (mI ((n + 20 : Nat) : Int))) ∧ mo_ok w' m ∧ MT w' m (n + 20) (sp_tape n tp a b c d e) ∧ mu_Fi (fun q j => (q = m ∧ j = 2) ∨ q = m + 1) w w' else r = some (.int (mI (-3))) ∧ w' = w)) s.1 0 0 19 [.ref m, .int a, .int b, .int c, .int d, .int e, .int (mI k), s.2] [] := by
    intro hn20
    refine mu_ind 20 (fun k (s : mu_W × Value) => mu_WA X G 8 (mu_Q X G M_X12_feed (fun r w' => if n + 20 ≤ 2000 then r = some (.int (mI ((n + 20 : Nat) : Int))) ∧ mo_ok w' m ∧ MT w' m (n + 20) (sp_tape n tp a b c d e) ∧ mu_Fi (fun q j => (q = m ∧ j = 2) ∨ q = m + 1) w w' else r = some (.int (mI (-3))) ∧ w' = w)) s.1 0 0 19 [.ref m, .int a, .int b, .int c, .int d, .int e, .int (mI k), s.2] []) (fun k s => mo_ok s.1 m ∧ mu_iv s.1 m 2 = mI ((n + k : Nat) : Int) ∧ (∀ j, j < n + k → mu_iv s.1 (m + 1) j = mI (sp_tape n tp a b c d e j)) ∧ mu_Fi (fun q j => (q = m ∧ j = 2) ∨ q = m + 1) w s.1) ?_
    rintro k ⟨w1, u7⟩ hk ⟨h1, h2, h3, h4⟩ ih
    dsimp only at h1 h2 h3 h4 ⊢
    have hk1 := h1.1
    obtain ⟨r1, k1⟩ := mo_1 h1
    have hS : ∀ v : Int32, v = (if k < 4 then a else if k < 8 then b else if k < 12 then c else if k < 16 then d else e) → k < 20 → mu_WA X G 8 (mu_Q X G M_X12_feed (fun r w' => if n + 20 ≤ 2000 then r = some (.int (mI ((n + 20 : Nat) : Int))) ∧ mo_ok w' m ∧ MT w' m (n + 20) (sp_tape n tp a b c d e) ∧ mu_Fi (fun q j => (q = m ∧ j = 2) ∨ q = m + 1) w w' else r = some (.int (mI (-3))) ∧ w' = w)) w1 0 0 72 [.ref m, .int a, .int b, .int c, .int d, .int e, .int (mI k), u7] [.int v] := by
      intro v hv hk20
      refine mu_is_7 B dX12_feed_72 (by decide) rfl ?_
      refine mu_al_0 B dX12_feed_74 ?_
      refine mu_getR B dX12_feed_75 fX12_7 rfl (by assumption) (by assumption) ?_
      refine mu_al_0 B dX12_feed_78 ?_
      refine mu_getI B dX12_feed_79 fX12_128 rfl (by assumption) ?_
      rw [h2]
      refine mu_il_7 B dX12_feed_82 ?_
      refine mu_bipush (v := mI 24) B dX12_feed_84 (by decide) ?_
      refine mu_bipush (v := mI 8) B dX12_feed_86 (by decide) ?_
      refine mu_il_6 B dX12_feed_88 ?_
      refine mu_iconst (v := mI 4) B dX12_feed_90 rfl ?_
      refine mu_irem B dX12_feed_91 ?_ ?_
      · exact mu_ne (by decide) (by decide)
      rw [mI_rem (by omega) (by omega) (by omega) (by omega)]
      refine mu_imul B dX12_feed_92 ?_
      try rw [mI_mul]
      refine mu_isub B dX12_feed_93 ?_
      try rw [mI_sub]
      refine mu_iushr B dX12_feed_94 rfl ?_
      refine mu_sipush (v := mI 255) B dX12_feed_95 (by decide) ?_
      refine mu_iand B dX12_feed_98 ?_
      rw [mu_by_and v (k := k % 4) (by omega) (by omega)]
      refine mu_iast B dX12_feed_99 (by assumption) (mI_inN (by omega) (by omega)) ?_
      rw [mI_clampN (by omega)]
      refine mu_al_0 B dX12_feed_100 ?_
      refine mu_dup B dX12_feed_101 rfl ?_
      refine mu_getI B dX12_feed_102 fX12_128 rfl (by assumption) ?_
      rw [mu_iv_oth _ _ (by omega), h2]
      refine mu_iconst (v := mI 1) B dX12_feed_105 rfl ?_
      refine mu_iadd B dX12_feed_106 ?_
      try rw [mI_add]
      refine mu_putI B dX12_feed_107 fX12_128 fwX12_2 rfl (by assumption) ?_
      refine mu_inc_6 (c := mI 1) B dX12_feed_110 rfl (by decide) rfl ?_
      try rw [mI_add]
      refine mu_goto (tgt := 19) B dX12_feed_113 (by decide) ?_
      refine mu_to (ih (mu_si (mu_si w1 (m + 1) (n + k) (mI (mu_by v (k % 4)))) m 2 (mI (((n + k : Nat) : Int) + 1)), .int v) (by omega) ⟨h1, by rw [mu_iv_same]; rfl, fun j hj => ?_, (h4.si (Or.inr rfl)).si (Or.inl ⟨rfl, rfl⟩)⟩) rfl (by rw [show ((k + 1 : Nat) : Int) = (k : Int) + 1 by omega])
      show mu_iv (mu_si (mu_si w1 (m + 1) (n + k) (mI (mu_by v (k % 4)))) m 2 (mI (((n + k : Nat) : Int) + 1))) (m + 1) j = _
      rw [mu_iv_oth _ _ (by omega)]
      by_cases e9 : j = n + k
      · rw [e9, mu_iv_same]
        unfold sp_tape sp_fd
        rw [if_neg (by omega), show n + k - n = k by omega, ← hv]
      · rw [mu_iv_oth _ _ (by omega)]; exact h3 j (by omega)
    refine mu_il_6 B dX12_feed_19 ?_
    refine mu_bipush (v := mI 20) B dX12_feed_21 (by decide) ?_
    refine mu_icmp_ge (tgt := 116) B dX12_feed_23 (by decide) (fun c23 => ?_) (fun c23 => ?_)
    · try rw [mI_le ⟨by omega, by omega⟩ ⟨by omega, by omega⟩] at c23
      obtain rfl : k = 20 := by omega
      refine mu_al_0 B dX12_feed_116 ?_
      refine mu_getI B dX12_feed_117 fX12_128 rfl (by assumption) ?_
      rw [h2]
      refine mu_iret E rfl (by decide) (by decide) dX12_feed_120 ?_
      rw [if_pos (by omega)]
      exact ⟨rfl, h1, ⟨⟨by omega, fun j hj => by unfold sp_tape; by_cases q : j < n <;> simp only [q, if_true, if_false]; exact ht.1.2 j q; exact mu_by_lt _ _⟩, h2, h3⟩, h4⟩
    · try rw [mI_le ⟨by omega, by omega⟩ ⟨by omega, by omega⟩] at c23
      refine mu_il_6 B dX12_feed_26 ?_
      refine mu_iconst (v := mI 4) B dX12_feed_28 rfl ?_
      refine mu_icmp_ge (tgt := 36) B dX12_feed_29 (by decide) (fun c29 => ?_) (fun c29 => ?_)
      · try rw [mI_le ⟨by omega, by omega⟩ ⟨by omega, by omega⟩] at c29
        refine mu_il_6 B dX12_feed_36 ?_
        refine mu_bipush (v := mI 8) B dX12_feed_38 (by decide) ?_
        refine mu_icmp_ge (tgt := 47) B dX12_feed_40 (by decide) (fun c40 => ?_) (fun c40 => ?_)
        · try rw [mI_le ⟨by omega, by omega⟩ ⟨by omega, by omega⟩] at c40
          refine mu_il_6 B dX12_feed_47 ?_
          refine mu_bipush (v := mI 12) B dX12_feed_49 (by decide) ?_
          refine mu_icmp_ge (tgt := 58) B dX12_feed_51 (by decide) (fun c51 => ?_) (fun c51 => ?_)
          · try rw [mI_le ⟨by omega, by omega⟩ ⟨by omega, by omega⟩] at c51
            refine mu_il_6 B dX12_feed_58 ?_
            refine mu_bipush (v := mI 16) B dX12_feed_60 (by decide) ?_
            refine mu_icmp_ge (tgt := 70) B dX12_feed_62 (by decide) (fun c62 => ?_) (fun c62 => ?_)
            · try rw [mI_le ⟨by omega, by omega⟩ ⟨by omega, by omega⟩] at c62
              refine mu_il_5 B dX12_feed_70 ?_
              first | exact hS _ (by rw [if_pos (by omega)]) (by omega) | exact hS _ (by rw [if_neg (by omega), if_pos (by omega)]) (by omega) | exact hS _ (by rw [if_neg (by omega), if_neg (by omega), if_pos (by omega)]) (by omega) | exact hS _ (by rw [if_neg (by omega), if_neg (by omega), if_neg (by omega), if_pos (by omega)]) (by omega) | exact hS _ (by rw [if_neg (by omega), if_neg (by omega), if_neg (by omega), if_neg (by omega)]) (by omega)
            · try rw [mI_le ⟨by omega, by omega⟩ ⟨by omega, by omega⟩] at c62
              refine mu_il_4 B dX12_feed_65 ?_
              refine mu_goto (tgt := 72) B dX12_feed_67 (by decide) ?_
              first | exact hS _ (by rw [if_pos (by omega)]) (by omega) | exact hS _ (by rw [if_neg (by omega), if_pos (by omega)]) (by omega) | exact hS _ (by rw [if_neg (by omega), if_neg (by omega), if_pos (by omega)]) (by omega) | exact hS _ (by rw [if_neg (by omega), if_neg (by omega), if_neg (by omega), if_pos (by omega)]) (by omega) | exact hS _ (by rw [if_neg (by omega), if_neg (by omega), if_neg (by omega), if_neg (by omega)]) (by omega)
          · try rw [mI_le ⟨by omega, by omega⟩ ⟨by omega, by omega⟩] at c51
            refine mu_il_3 B dX12_feed_54 ?_
            refine mu_goto (tgt := 72) B dX12_feed_55 (by decide) ?_
            first | exact hS _ (by rw [if_pos (by omega)]) (by omega) | exact hS _ (by rw [if_neg (by omega), if_pos (by omega)]) (by omega) | exact hS _ (by rw [if_neg (by omega), if_neg (by omega), if_pos (by omega)]) (by omega) | exact hS _ (by rw [if_neg (by omega), if_neg (by omega), if_neg (by omega), if_pos (by omega)]) (by omega) | exact hS _ (by rw [if_neg (by omega), if_neg (by omega), if_neg (by omega), if_neg (by omega)]) (by omega)
        · try rw [mI_le ⟨by omega, by omega⟩ ⟨by omega, by omega⟩] at c40
          refine mu_il_2 B dX12_feed_43 ?_
          refine mu_goto (tgt := 72) B dX12_feed_44 (by decide) ?_
          first | exact hS _ (by rw [if_pos (by omega)]) (by omega) | exact hS _ (by rw [if_neg (by omega), if_pos (by omega)]) (by omega) | exact hS _ (by rw [if_neg (by omega), if_neg (by omega), if_pos (by omega)]) (by omega) | exact hS _ (by rw [if_neg (by omega), if_neg (by omega), if_neg (by omega), if_pos (by omega)]) (by omega) | exact hS _ (by rw [if_neg (by omega), if_neg (by omega), if_neg (by omega), if_neg (by omega)]) (by omega)
      · try rw [mI_le ⟨by omega, by omega⟩ ⟨by omega, by omega⟩] at c29
        refine mu_il_1 B dX12_feed_32 ?_
        refine mu_goto (tgt := 72) B dX12_feed_33 (by decide) ?_
        first | exact hS _ (by rw [if_pos (by omega)]) (by omega) | exact hS _ (by rw [if_neg (by omega), if_pos (by omega)]) (by omega) | exact hS _ (by rw [if_neg (by omega), if_neg (by omega), if_pos (by omega)]) (by omega) | exact hS _ (by rw [if_neg (by omega), if_neg (by omega), if_neg (by omega), if_pos (by omega)]) (by omega) | exact hS _ (by rw [if_neg (by omega), if_neg (by omega), if_neg (by omega), if_neg (by omega)]) (by omega)
  show mu_WA X G 8 _ _ 0 0 0 _ []
  refine mu_al_0 B dX12_feed_0 ?_
  refine mu_getI B dX12_feed_1 fX12_128 rfl (by assumption) ?_
  rw [ht.2.1]
  refine mu_bipush (v := mI 20) B dX12_feed_4 (by decide) ?_
  refine mu_iadd B dX12_feed_6 ?_
  try rw [mI_add]
  refine mu_sipush (v := mI 2000) B dX12_feed_7 (by decide) ?_
  refine mu_icmp_le (tgt := 16) B dX12_feed_10 (by decide) (fun c10 => ?_) (fun c10 => ?_)
  · try rw [mI_le ⟨by omega, by omega⟩ ⟨by omega, by omega⟩] at c10
    refine mu_iconst (v := mI 0) B dX12_feed_16 rfl ?_
    refine mu_is_6 B dX12_feed_17 (by decide) rfl ?_
    exact LF (by omega) 0 (w, mu_no) (by decide) ⟨hm, ht.2.1, fun j hj => by unfold sp_tape; rw [if_pos (by omega)]; exact ht.2.2 j (by omega), mu_Fi.refl w⟩
  · try rw [mI_le ⟨by omega, by omega⟩ ⟨by omega, by omega⟩] at c10
    refine mu_bipush (v := mI (-3)) B dX12_feed_13 (by decide) ?_
    refine mu_iret E rfl (by decide) (by decide) dX12_feed_15 ?_
    rw [if_neg (by omega)]
    exact ⟨rfl, rfl⟩
