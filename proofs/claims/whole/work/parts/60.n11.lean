/-! ===== the stepper: those of wanted numbers ===== -/
theorem an1 : ∀ n, n < 9 → (mI ((n : Nat) : Int) &&& mI 1 = 0 ↔ n % 2 = 0) := by decide +kernel
theorem an2 : ∀ n, n < 9 → (mI ((n : Nat) : Int) &&& mI 2 = 0 ↔ n / 2 % 2 = 0) := by decide +kernel
theorem an4 : ∀ n, n < 9 → (mI ((n : Nat) : Int) &&& mI 4 = 0 ↔ n / 4 % 2 = 0) := by decide +kernel
theorem an8 : ∀ n, n < 9 → (mI ((n : Nat) : Int) &&& mI 8 = 0 ↔ n / 8 % 2 = 0) := by decide +kernel
theorem anS {s n : Nat} (hs : s ≤ 1000000) (hn : n < 9) : (mI (s : Int) >>> (mI (n : Int) &&& 31)) &&& mI 1 = 0 ↔ s.testBit n = false := by
  rw [mI_shr _ ⟨by omega, by omega⟩ n (by omega), mI_and _ (m := mI 1) 1 (by decide) (by decide)]
  have e : (s : Int) / 2 ^ n % 2 ^ 1 = ((s / 2 ^ n % 2 : Nat) : Int) := by
    rw [Int.natCast_emod, Int.natCast_ediv, Int.natCast_pow]; rfl
  rw [e, show (0 : Int32) = mI 0 from rfl, mI_eq ⟨by omega, by omega⟩ ⟨by omega, by omega⟩, Nat.testBit_eq_decide_div_mod_eq]
  constructor
  · exact fun h => decide_eq_false (by omega)
  · exact fun h => by have := of_decide_eq_false h; omega
theorem nb_eq (m n : Nat) (hm : m ≤ 8) (hn : n < 9) : (m % 2 = n % 2 ∧ m / 2 % 2 = n / 2 % 2 ∧ m / 4 % 2 = n / 4 % 2 ∧ m / 8 % 2 = n / 8 % 2) ↔ m = n := by omega

set_option maxHeartbeats 4000000 in
set_option maxRecDepth 100000 in
theorem c_X9_thoseIn (G : mu_G) {w : mu_W} {b kb : Nat} (hkb : mu_kd w b = some (9, kb)) {N : Nat → Nat} (hT : TD w b N) {s : Nat} (hs : s ≤ 1000000) : mu_Ct G M_X9_thoseIn [.ref b, .int (mI s)] w (fun r w' => (∃ d, r = some (.long d) ∧ ∀ i, i < 64 → lb d i = s.testBit (N i)) ∧ w' = w) := by
  refine mu_ofWA G M_X9_thoseIn [.ref b, .int (mI s), mu_no, mu_no, mu_no] (by decide) rfl (Nat.le_of_ble_eq_true rfl) ?_
  intro X E
  have B : mu_B X G cX9_thoseIn RX9 5 (mu_rm M_X9_thoseIn) := E.1
  have LT : ∀ n (d : Int64), n ≤ (9 : Nat) → (∀ i, i < 64 → lb d i = (decide (N i < n) && s.testBit (N i))) → mu_WA X G 5 (mu_Q X G M_X9_thoseIn (fun r w' => (∃ d, r = some (.long d) ∧ ∀ i, i < 64 → lb d i = s.testBit (N i)) ∧ w' = w)) w 0 0 5 [.ref b, .int (mI s), .long d, mu_no, .int (mI n)] [] := by
    refine mu_ind ((9 : Nat)) (fun n (d : Int64) => mu_WA X G 5 (mu_Q X G M_X9_thoseIn (fun r w' => (∃ d, r = some (.long d) ∧ ∀ i, i < 64 → lb d i = s.testBit (N i)) ∧ w' = w)) w 0 0 5 [.ref b, .int (mI s), .long d, mu_no, .int (mI n)] []) (fun n (d : Int64) => ∀ i, i < 64 → lb d i = (decide (N i < n) && s.testBit (N i))) ?_
    intro n d hn hd ih
    refine mu_il_4 B dX9_thoseIn_5 ?_
    refine mu_bipush (v := mI 8) B dX9_thoseIn_7 (by decide) ?_
    refine mu_icmp_gt (tgt := 122) B dX9_thoseIn_9 (by decide) (fun c9 => ?_) (fun c9 => ?_)
    · try rw [mI_lt ⟨by omega, by omega⟩ ⟨by omega, by omega⟩] at c9
      try rw [mI_lt ⟨by omega, by omega⟩ ⟨by omega, by omega⟩] at c9
      obtain rfl : 9 = n := by omega
      refine mu_ll_2 B dX9_thoseIn_122 ?_
      refine mu_lret E rfl (by decide) (by decide) dX9_thoseIn_123 ?_
      exact ⟨⟨d, rfl, fun i hi => by rw [hd i hi, decide_eq_true (by have := (hT i hi).1; omega), Bool.true_and]⟩, rfl⟩
    · try rw [mI_lt ⟨by omega, by omega⟩ ⟨by omega, by omega⟩] at c9
      refine mu_il_1 B dX9_thoseIn_12 ?_
      refine mu_il_4 B dX9_thoseIn_13 ?_
      refine mu_ishr B dX9_thoseIn_15 ?_
      refine mu_iconst (v := mI 1) B dX9_thoseIn_16 rfl ?_
      refine mu_iand B dX9_thoseIn_17 ?_
      refine mu_if_eq (tgt := 116) B dX9_thoseIn_18 (by decide) (fun c18 => ?_) (fun c18 => ?_)
      · rw [anS (by omega) (by omega)] at c18
        refine mu_inc_4 (c := mI 1) B dX9_thoseIn_116 rfl (by decide) rfl ?_
        try rw [mI_add]
        refine mu_goto (tgt := 5) B dX9_thoseIn_119 (by decide) ?_
        refine mu_to (ih _ (by omega) (fun i hi => ?_)) rfl (by rw [show ((n + 1 : Nat) : Int) = (n : Int) + 1 by omega])
        rw [hd i hi]
        by_cases e9 : N i = n
        · rw [e9, c18, Bool.and_false, Bool.and_false]
        · congr 1
          exact decide_eq_decide.mpr (by omega)
      · rw [anS (by omega) (by omega)] at c18
        have hbit : s.testBit n = true := by cases h9 : s.testBit n with | true => rfl | false => exact absurd h9 c18
        have K113 : ∀ m e, (∀ i, i < 64 → lb m i = ((decide (N i % 2 = n % 2) && decide (N i / 2 % 2 = n / 2 % 2)) && decide (N i / 4 % 2 = n / 4 % 2))) → (∀ i, i < 64 → lb e i = decide (N i / 8 % 2 = n / 8 % 2)) → mu_WA X G 5 (mu_Q X G M_X9_thoseIn (fun r w' => (∃ d, r = some (.long d) ∧ ∀ i, i < 64 → lb d i = s.testBit (N i)) ∧ w' = w)) w 0 0 113 [.ref b, .int (mI s), .long d, mu_no, .int (mI n)] [.long e, .long m, .long d] := by
          intro m e hm he
          refine mu_land B dX9_thoseIn_113 ?_
          refine mu_lor B dX9_thoseIn_114 ?_
          refine mu_ls_2 B dX9_thoseIn_115 (by decide) rfl ?_
          refine mu_inc_4 (c := mI 1) B dX9_thoseIn_116 rfl (by decide) rfl ?_
          try rw [mI_add]
          refine mu_goto (tgt := 5) B dX9_thoseIn_119 (by decide) ?_
          refine mu_to (ih _ (by omega) (fun i hi => ?_)) rfl (by rw [show ((n + 1 : Nat) : Int) = (n : Int) + 1 by omega])
          have h8 := (hT i hi).1
          rw [lb_or, lb_and, hd i hi, hm i hi, he i hi]
          by_cases e9 : N i = n
          · rw [e9, decide_eq_false (Nat.lt_irrefl n), decide_eq_true (Nat.lt_succ_self n), hbit]; simp
          · have e8 : ¬ (N i % 2 = n % 2 ∧ N i / 2 % 2 = n / 2 % 2 ∧ N i / 4 % 2 = n / 4 % 2 ∧ N i / 8 % 2 = n / 8 % 2) := fun q => e9 ((nb_eq _ _ h8 (by omega)).mp q)
            have e7 : ((((decide (N i % 2 = n % 2) && decide (N i / 2 % 2 = n / 2 % 2)) && decide (N i / 4 % 2 = n / 4 % 2))) && decide (N i / 8 % 2 = n / 8 % 2)) = false := by
              refine Bool.eq_false_iff.mpr (fun q => e8 ?_)
              simp only [Bool.and_eq_true, decide_eq_true_eq] at q
              exact ⟨q.1.1.1, q.1.1.2, q.1.2, q.2⟩
            rw [e7, Bool.or_false]
            congr 1
            exact decide_eq_decide.mpr (by omega)
        have K89 : ∀ m f, (∀ i, i < 64 → lb m i = (decide (N i % 2 = n % 2) && decide (N i / 2 % 2 = n / 2 % 2))) → (∀ i, i < 64 → lb f i = decide (N i / 4 % 2 = n / 4 % 2)) → mu_WA X G 5 (mu_Q X G M_X9_thoseIn (fun r w' => (∃ d, r = some (.long d) ∧ ∀ i, i < 64 → lb d i = s.testBit (N i)) ∧ w' = w)) w 0 0 89 [.ref b, .int (mI s), .long d, mu_no, .int (mI n)] [.long f, .long m, .long d] := by
          intro m f hm hf
          refine mu_land B dX9_thoseIn_89 ?_
          refine mu_il_4 B dX9_thoseIn_90 ?_
          refine mu_bipush (v := mI 8) B dX9_thoseIn_92 (by decide) ?_
          refine mu_iand B dX9_thoseIn_94 ?_
          refine mu_if_eq (tgt := 105) B dX9_thoseIn_95 (by decide) (fun c95 => ?_) (fun c95 => ?_)
          · rw [an8 n (by omega)] at c95
            refine mu_al_0 B dX9_thoseIn_105 ?_
            refine mu_getL B dX9_thoseIn_106 fX9_80 rfl (by assumption) ?_
            refine mu_ldc2 B kX9_106 dX9_thoseIn_109 ?_
            refine mu_lxor B dX9_thoseIn_112 ?_
            refine K113 _ _ (fun i hi => by rw [lb_and, hm i hi, hf i hi]) (fun i hi => ?_)
            first
              | (rw [(hT i hi).2.2.2.2]; exact decide_eq_decide.mpr (by omega))
              | (rw [lb_xor, lb_m1 i hi, (hT i hi).2.2.2.2, Bool.xor_true, ← decide_not]; exact decide_eq_decide.mpr (by omega))
          · rw [an8 n (by omega)] at c95
            refine mu_al_0 B dX9_thoseIn_98 ?_
            refine mu_getL B dX9_thoseIn_99 fX9_80 rfl (by assumption) ?_
            refine mu_goto (tgt := 113) B dX9_thoseIn_102 (by decide) ?_
            refine K113 _ _ (fun i hi => by rw [lb_and, hm i hi, hf i hi]) (fun i hi => ?_)
            first
              | (rw [(hT i hi).2.2.2.2]; exact decide_eq_decide.mpr (by omega))
              | (rw [lb_xor, lb_m1 i hi, (hT i hi).2.2.2.2, Bool.xor_true, ← decide_not]; exact decide_eq_decide.mpr (by omega))
        have K66 : ∀ m f, (∀ i, i < 64 → lb m i = decide (N i % 2 = n % 2)) → (∀ i, i < 64 → lb f i = decide (N i / 2 % 2 = n / 2 % 2)) → mu_WA X G 5 (mu_Q X G M_X9_thoseIn (fun r w' => (∃ d, r = some (.long d) ∧ ∀ i, i < 64 → lb d i = s.testBit (N i)) ∧ w' = w)) w 0 0 66 [.ref b, .int (mI s), .long d, mu_no, .int (mI n)] [.long f, .long m, .long d] := by
          intro m f hm hf
          refine mu_land B dX9_thoseIn_66 ?_
          refine mu_il_4 B dX9_thoseIn_67 ?_
          refine mu_iconst (v := mI 4) B dX9_thoseIn_69 rfl ?_
          refine mu_iand B dX9_thoseIn_70 ?_
          refine mu_if_eq (tgt := 81) B dX9_thoseIn_71 (by decide) (fun c71 => ?_) (fun c71 => ?_)
          · rw [an4 n (by omega)] at c71
            refine mu_al_0 B dX9_thoseIn_81 ?_
            refine mu_getL B dX9_thoseIn_82 fX9_77 rfl (by assumption) ?_
            refine mu_ldc2 B kX9_106 dX9_thoseIn_85 ?_
            refine mu_lxor B dX9_thoseIn_88 ?_
            refine K89 _ _ (fun i hi => by rw [lb_and, hm i hi, hf i hi]) (fun i hi => ?_)
            first
              | (rw [(hT i hi).2.2.2.1]; exact decide_eq_decide.mpr (by omega))
              | (rw [lb_xor, lb_m1 i hi, (hT i hi).2.2.2.1, Bool.xor_true, ← decide_not]; exact decide_eq_decide.mpr (by omega))
          · rw [an4 n (by omega)] at c71
            refine mu_al_0 B dX9_thoseIn_74 ?_
            refine mu_getL B dX9_thoseIn_75 fX9_77 rfl (by assumption) ?_
            refine mu_goto (tgt := 89) B dX9_thoseIn_78 (by decide) ?_
            refine K89 _ _ (fun i hi => by rw [lb_and, hm i hi, hf i hi]) (fun i hi => ?_)
            first
              | (rw [(hT i hi).2.2.2.1]; exact decide_eq_decide.mpr (by omega))
              | (rw [lb_xor, lb_m1 i hi, (hT i hi).2.2.2.1, Bool.xor_true, ← decide_not]; exact decide_eq_decide.mpr (by omega))
        have K44 : ∀ m, (∀ i, i < 64 → lb m i = decide (N i % 2 = n % 2)) → mu_WA X G 5 (mu_Q X G M_X9_thoseIn (fun r w' => (∃ d, r = some (.long d) ∧ ∀ i, i < 64 → lb d i = s.testBit (N i)) ∧ w' = w)) w 0 0 44 [.ref b, .int (mI s), .long d, mu_no, .int (mI n)] [.long m, .long d] := by
          intro m hm
          refine mu_il_4 B dX9_thoseIn_44 ?_
          refine mu_iconst (v := mI 2) B dX9_thoseIn_46 rfl ?_
          refine mu_iand B dX9_thoseIn_47 ?_
          refine mu_if_eq (tgt := 58) B dX9_thoseIn_48 (by decide) (fun c48 => ?_) (fun c48 => ?_)
          · rw [an2 n (by omega)] at c48
            refine mu_al_0 B dX9_thoseIn_58 ?_
            refine mu_getL B dX9_thoseIn_59 fX9_74 rfl (by assumption) ?_
            refine mu_ldc2 B kX9_106 dX9_thoseIn_62 ?_
            refine mu_lxor B dX9_thoseIn_65 ?_
            refine K66 _ _ hm (fun i hi => ?_)
            first
              | (rw [(hT i hi).2.2.1]; exact decide_eq_decide.mpr (by omega))
              | (rw [lb_xor, lb_m1 i hi, (hT i hi).2.2.1, Bool.xor_true, ← decide_not]; exact decide_eq_decide.mpr (by omega))
          · rw [an2 n (by omega)] at c48
            refine mu_al_0 B dX9_thoseIn_51 ?_
            refine mu_getL B dX9_thoseIn_52 fX9_74 rfl (by assumption) ?_
            refine mu_goto (tgt := 66) B dX9_thoseIn_55 (by decide) ?_
            refine K66 _ _ hm (fun i hi => ?_)
            first
              | (rw [(hT i hi).2.2.1]; exact decide_eq_decide.mpr (by omega))
              | (rw [lb_xor, lb_m1 i hi, (hT i hi).2.2.1, Bool.xor_true, ← decide_not]; exact decide_eq_decide.mpr (by omega))
        refine mu_ll_2 B dX9_thoseIn_21 ?_
        refine mu_il_4 B dX9_thoseIn_22 ?_
        refine mu_iconst (v := mI 1) B dX9_thoseIn_24 rfl ?_
        refine mu_iand B dX9_thoseIn_25 ?_
        refine mu_if_eq (tgt := 36) B dX9_thoseIn_26 (by decide) (fun c26 => ?_) (fun c26 => ?_)
        · rw [an1 n (by omega)] at c26
          refine mu_al_0 B dX9_thoseIn_36 ?_
          refine mu_getL B dX9_thoseIn_37 fX9_70 rfl (by assumption) ?_
          refine mu_ldc2 B kX9_106 dX9_thoseIn_40 ?_
          refine mu_lxor B dX9_thoseIn_43 ?_
          refine K44 _ (fun i hi => ?_)
          first
            | (rw [(hT i hi).2.1]; exact decide_eq_decide.mpr (by omega))
            | (rw [lb_xor, lb_m1 i hi, (hT i hi).2.1, Bool.xor_true, ← decide_not]; exact decide_eq_decide.mpr (by omega))
        · rw [an1 n (by omega)] at c26
          refine mu_al_0 B dX9_thoseIn_29 ?_
          refine mu_getL B dX9_thoseIn_30 fX9_70 rfl (by assumption) ?_
          refine mu_goto (tgt := 44) B dX9_thoseIn_33 (by decide) ?_
          refine K44 _ (fun i hi => ?_)
          first
            | (rw [(hT i hi).2.1]; exact decide_eq_decide.mpr (by omega))
            | (rw [lb_xor, lb_m1 i hi, (hT i hi).2.1, Bool.xor_true, ← decide_not]; exact decide_eq_decide.mpr (by omega))
  show mu_WA X G 5 _ _ 0 0 0 _ []
  refine mu_lconst (v := mL 0) B dX9_thoseIn_0 rfl ?_
  refine mu_ls_2 B dX9_thoseIn_1 (by decide) rfl ?_
  refine mu_iconst (v := mI 0) B dX9_thoseIn_2 rfl ?_
  refine mu_is_4 B dX9_thoseIn_3 (by decide) rfl ?_
  exact LT 0 (mL 0) (by decide) (fun i hi => by rw [show mL 0 = 0 from rfl, lb_0]; simp)
