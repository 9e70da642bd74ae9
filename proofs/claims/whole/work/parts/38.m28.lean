def ab_v (f : mu_FS) (k : Int) (v : Int32) : Prop := ∃ (L R U D : Int) (M : Nat), LKP (fs_c f) 256 0 L R U D M ∧ (k = 0 → v = mI M) ∧ (k = 1 → v = if M = 0 then mI 0 else mI (L - 128)) ∧ (k = 2 → v = if M = 0 then mI 0 else mI (U - 128)) ∧ (k = 3 → v = if M = 0 then mI 0 else mI (R - 128)) ∧ (k = 4 → v = if M = 0 then mI 0 else mI (D - 128)) ∧ (k = 5 → v = fs_g f) ∧ (k = 6 → v = mI (fs_r f)) ∧ (k = 7 → ∃ S, DTOT (fs_c f) 8 S ∧ v = mI (S : Nat))
def ab_S (m : Nat) : Nat → Nat → Prop := fun q j => (q = m ∧ ((19 ≤ j ∧ j ≤ 23) ∨ j = 35)) ∨ (m + 17 ≤ q ∧ q ≤ m + 22)
def ab_post (w : mu_W) (m nf : Nat) (fs : Nat → mu_FS) (z k : Int) (r : Option Value) (w' : mu_W) : Prop :=
  if (0 ≤ z ∧ z < nf) ∧ 0 ≤ k ∧ k ≤ 7 then mu_Fi (ab_S m) w w' ∧ ∃ v, r = some (.int v) ∧ ab_v (fs z.toNat) k v else r = some (.int (mI (-1))) ∧ w' = w

set_option maxHeartbeats 4000000 in
set_option maxRecDepth 100000 in
theorem c_X12_about (G : mu_G) {w : mu_W} {m : Nat} (hm : mo_ok w m) {nr : Nat} {rs : Nat → mu_RS} {nf : Nat} {fs : Nat → mu_FS} (hfi : MFi w m nr rs nf fs) {z k : Int} (hz : mi_ok z) (hk : mi_ok k) : mu_Ct G M_X12_about [.ref m, .int (mI z), .int (mI k)] w (fun r w' => ab_post w m nf fs z k r w') := by
  have hk0 := hm.1
  obtain ⟨hz1, hz2⟩ := id hz
  obtain ⟨hk1, hk2⟩ := hk
  have hnf := hfi.1
  obtain ⟨r14, k14⟩ := mo_14 hm
  refine mu_ofWA G M_X12_about [.ref m, .int (mI z), .int (mI k)] (by decide) rfl (Nat.le_of_ble_eq_true rfl) ?_
  intro X E
  have B : mu_B X G cX12_about RX12 3 (mu_rm M_X12_about) := E.1
  show mu_WA X G 3 _ _ 0 0 0 _ []
  refine mu_al_0 B dX12_about_0 ?_
  refine mu_il_1 B dX12_about_1 ?_
  refine mu_eV1 B dX12_about_2 mX12_178 ⟨⟨by decide, by decide⟩, by decide, by decide⟩ (Nat.le_of_ble_eq_true rfl) (by assumption) (c_X12_isField G hm (n := nf) hfi.2.1 hfi.1 hz) ?_
  refine mu_if_eq (tgt := 18) B dX12_about_5 (by decide) (fun c5 => ?_) (fun c5 => ?_)
  · have z5 := mu_bf c5
    refine mu_iconst (v := mI (-1)) B dX12_about_18 rfl ?_
    refine mu_iret E rfl (by decide) (by decide) dX12_about_19 ?_
    unfold ab_post
    first | (rw [if_neg (fun hh => z5 hh.1)]; exact ⟨rfl, rfl⟩) | (rw [if_neg (fun hh => by have := hh.2; omega)]; exact ⟨rfl, rfl⟩)
  · have z5 := mu_bt c5
    refine mu_il_2 B dX12_about_8 ?_
    refine mu_if_lt (tgt := 18) B dX12_about_9 (by decide) (fun c9 => ?_) (fun c9 => ?_)
    · try rw [mI_lt0 ⟨by omega, by omega⟩] at c9
      refine mu_iconst (v := mI (-1)) B dX12_about_18 rfl ?_
      refine mu_iret E rfl (by decide) (by decide) dX12_about_19 ?_
      unfold ab_post
      first | (rw [if_neg (fun hh => z5 hh.1)]; exact ⟨rfl, rfl⟩) | (rw [if_neg (fun hh => by have := hh.2; omega)]; exact ⟨rfl, rfl⟩)
    · try rw [mI_lt0 ⟨by omega, by omega⟩] at c9
      refine mu_il_2 B dX12_about_12 ?_
      refine mu_bipush (v := mI 7) B dX12_about_13 (by decide) ?_
      refine mu_icmp_le (tgt := 20) B dX12_about_15 (by decide) (fun c15 => ?_) (fun c15 => ?_)
      · try rw [mI_le ⟨by omega, by omega⟩ ⟨by omega, by omega⟩] at c15
        obtain ⟨f, hf⟩ : ∃ f : Nat, z = f := ⟨z.toNat, by omega⟩
        subst hf
        have hf8 : f < nf := by omega
        refine mu_al_0 B dX12_about_20 ?_
        refine mu_al_0 B dX12_about_21 ?_
        refine mu_getR B dX12_about_22 fX12_36 rfl (by assumption) (by assumption) ?_
        refine mu_ldc B kX12_45 dX12_about_25 ?_
        refine mu_il_1 B dX12_about_27 ?_
        refine mu_imul B dX12_about_28 ?_
        try rw [mI_mul]
        try rw [mI_mul]
        rw [show (65536 : Int) * (f : Int) = ((65536 * f : Nat) : Int) by omega]
        refine mu_cV2 B dX12_about_29 mX12_204 ⟨⟨by decide, by decide⟩, by decide, by decide⟩ (Nat.le_of_ble_eq_true rfl) (by assumption) (c_X12_look G hm (hfi.bd hm hf8)) (fun r29 w29 q29 => ?_)
        obtain ⟨rfl, L, R, U, D, M, hLKP, hlk, hFl⟩ := q29
        have hF : mu_Fi (ab_S m) w w29 := hFl.mono (fun q j hh => by unfold lk_S at hh; unfold ab_S; omega)
        have hm1 := hm.fi hF
        have hk1 := hm1.1
        obtain ⟨r15, k15⟩ := mo_15 hm1
        obtain ⟨r16, k16⟩ := mo_16 hm1
        have hbd := hLKP.bd
        have hMb : M ≤ 65536 := by rw [cntR_of hLKP]; have := cntR_le (c := fs_c (fs f)) (hfi.2.2 f hf8).1.2.2.2 256; omega
        have g11 := hFl.iv (by unfold lk_S; omega) (hfi.2.2 f hf8).2.2.1
        have g10 := hFl.iv (by unfold lk_S; omega) (hfi.2.2 f hf8).2.1
        show mu_WA X G 3 _ w29 0 0 32 _ []
        refine mu_il_2 B dX12_about_32 ?_
        by_cases t33_0 : k = 0
        · rw [t33_0]
          refine mu_tabIn (tgt := 76) (off := 43) B dX12_about_33 (by decide) (by decide) (by decide) (by decide) ?_
          refine mu_al_0 B dX12_about_76 ?_
          refine mu_getI B dX12_about_77 fX12_201 rfl (by assumption) ?_
          rw [hlk.2.2.2.2]
          refine mu_iret E rfl (by decide) (by decide) dX12_about_80 ?_
          subst t33_0
          unfold ab_post
          rw [if_pos ⟨by omega, by omega, by omega⟩, Int.toNat_natCast]
          refine ⟨hF, _, rfl, L, R, U, D, M, hLKP, ?_⟩
          refine ⟨fun _ => ?_, fun hh => absurd hh (by decide), fun hh => absurd hh (by decide), fun hh => absurd hh (by decide), fun hh => absurd hh (by decide), fun hh => absurd hh (by decide), fun hh => absurd hh (by decide), fun hh => absurd hh (by decide)⟩
          rfl
        by_cases t33_1 : k = 1
        · rw [t33_1]
          refine mu_tabIn (tgt := 81) (off := 48) B dX12_about_33 (by decide) (by decide) (by decide) (by decide) ?_
          refine mu_al_0 B dX12_about_81 ?_
          refine mu_getI B dX12_about_82 fX12_201 rfl (by assumption) ?_
          rw [hlk.2.2.2.2]
          refine mu_if_ne (tgt := 92) B dX12_about_85 (by decide) (fun c85 => ?_) (fun c85 => ?_)
          · try rw [mI_eq0 ⟨by omega, by omega⟩] at c85
            refine mu_al_0 B dX12_about_92 ?_
            refine mu_getI B dX12_about_93 fX12_189 rfl (by assumption) ?_
            rw [hlk.1]
            refine mu_sipush (v := mI 128) B dX12_about_96 (by decide) ?_
            refine mu_isub B dX12_about_99 ?_
            try rw [mI_sub]
            refine mu_iret E rfl (by decide) (by decide) dX12_about_100 ?_
            subst t33_1
            unfold ab_post
            rw [if_pos ⟨by omega, by omega, by omega⟩, Int.toNat_natCast]
            refine ⟨hF, _, rfl, L, R, U, D, M, hLKP, ?_⟩
            refine ⟨fun hh => absurd hh (by decide), fun _ => ?_, fun hh => absurd hh (by decide), fun hh => absurd hh (by decide), fun hh => absurd hh (by decide), fun hh => absurd hh (by decide), fun hh => absurd hh (by decide), fun hh => absurd hh (by decide)⟩
            first | rw [if_pos (by omega)] | (rw [if_neg (by omega)])
          · try rw [mI_eq0 ⟨by omega, by omega⟩] at c85
            refine mu_iconst (v := mI 0) B dX12_about_88 rfl ?_
            refine mu_goto (tgt := 100) B dX12_about_89 (by decide) ?_
            refine mu_iret E rfl (by decide) (by decide) dX12_about_100 ?_
            subst t33_1
            unfold ab_post
            rw [if_pos ⟨by omega, by omega, by omega⟩, Int.toNat_natCast]
            refine ⟨hF, _, rfl, L, R, U, D, M, hLKP, ?_⟩
            refine ⟨fun hh => absurd hh (by decide), fun _ => ?_, fun hh => absurd hh (by decide), fun hh => absurd hh (by decide), fun hh => absurd hh (by decide), fun hh => absurd hh (by decide), fun hh => absurd hh (by decide), fun hh => absurd hh (by decide)⟩
            first | rw [if_pos (by omega)] | (rw [if_neg (by omega)])
        by_cases t33_2 : k = 2
        · rw [t33_2]
          refine mu_tabIn (tgt := 101) (off := 68) B dX12_about_33 (by decide) (by decide) (by decide) (by decide) ?_
          refine mu_al_0 B dX12_about_101 ?_
          refine mu_getI B dX12_about_102 fX12_201 rfl (by assumption) ?_
          rw [hlk.2.2.2.2]
          refine mu_if_ne (tgt := 112) B dX12_about_105 (by decide) (fun c105 => ?_) (fun c105 => ?_)
          · try rw [mI_eq0 ⟨by omega, by omega⟩] at c105
            refine mu_al_0 B dX12_about_112 ?_
            refine mu_getI B dX12_about_113 fX12_195 rfl (by assumption) ?_
            rw [hlk.2.2.1]
            refine mu_sipush (v := mI 128) B dX12_about_116 (by decide) ?_
            refine mu_isub B dX12_about_119 ?_
            try rw [mI_sub]
            refine mu_iret E rfl (by decide) (by decide) dX12_about_120 ?_
            subst t33_2
            unfold ab_post
            rw [if_pos ⟨by omega, by omega, by omega⟩, Int.toNat_natCast]
            refine ⟨hF, _, rfl, L, R, U, D, M, hLKP, ?_⟩
            refine ⟨fun hh => absurd hh (by decide), fun hh => absurd hh (by decide), fun _ => ?_, fun hh => absurd hh (by decide), fun hh => absurd hh (by decide), fun hh => absurd hh (by decide), fun hh => absurd hh (by decide), fun hh => absurd hh (by decide)⟩
            first | rw [if_pos (by omega)] | (rw [if_neg (by omega)])
          · try rw [mI_eq0 ⟨by omega, by omega⟩] at c105
            refine mu_iconst (v := mI 0) B dX12_about_108 rfl ?_
            refine mu_goto (tgt := 120) B dX12_about_109 (by decide) ?_
            refine mu_iret E rfl (by decide) (by decide) dX12_about_120 ?_
            subst t33_2
            unfold ab_post
            rw [if_pos ⟨by omega, by omega, by omega⟩, Int.toNat_natCast]
            refine ⟨hF, _, rfl, L, R, U, D, M, hLKP, ?_⟩
            refine ⟨fun hh => absurd hh (by decide), fun hh => absurd hh (by decide), fun _ => ?_, fun hh => absurd hh (by decide), fun hh => absurd hh (by decide), fun hh => absurd hh (by decide), fun hh => absurd hh (by decide), fun hh => absurd hh (by decide)⟩
            first | rw [if_pos (by omega)] | (rw [if_neg (by omega)])
        by_cases t33_3 : k = 3
        · rw [t33_3]
          refine mu_tabIn (tgt := 121) (off := 88) B dX12_about_33 (by decide) (by decide) (by decide) (by decide) ?_
          refine mu_al_0 B dX12_about_121 ?_
          refine mu_getI B dX12_about_122 fX12_201 rfl (by assumption) ?_
          rw [hlk.2.2.2.2]
          refine mu_if_ne (tgt := 132) B dX12_about_125 (by decide) (fun c125 => ?_) (fun c125 => ?_)
          · try rw [mI_eq0 ⟨by omega, by omega⟩] at c125
            refine mu_al_0 B dX12_about_132 ?_
            refine mu_getI B dX12_about_133 fX12_192 rfl (by assumption) ?_
            rw [hlk.2.1]
            refine mu_sipush (v := mI 128) B dX12_about_136 (by decide) ?_
            refine mu_isub B dX12_about_139 ?_
            try rw [mI_sub]
            refine mu_iret E rfl (by decide) (by decide) dX12_about_140 ?_
            subst t33_3
            unfold ab_post
            rw [if_pos ⟨by omega, by omega, by omega⟩, Int.toNat_natCast]
            refine ⟨hF, _, rfl, L, R, U, D, M, hLKP, ?_⟩
            refine ⟨fun hh => absurd hh (by decide), fun hh => absurd hh (by decide), fun hh => absurd hh (by decide), fun _ => ?_, fun hh => absurd hh (by decide), fun hh => absurd hh (by decide), fun hh => absurd hh (by decide), fun hh => absurd hh (by decide)⟩
            first | rw [if_pos (by omega)] | (rw [if_neg (by omega)])
          · try rw [mI_eq0 ⟨by omega, by omega⟩] at c125
            refine mu_iconst (v := mI 0) B dX12_about_128 rfl ?_
            refine mu_goto (tgt := 140) B dX12_about_129 (by decide) ?_
            refine mu_iret E rfl (by decide) (by decide) dX12_about_140 ?_
            subst t33_3
            unfold ab_post
            rw [if_pos ⟨by omega, by omega, by omega⟩, Int.toNat_natCast]
            refine ⟨hF, _, rfl, L, R, U, D, M, hLKP, ?_⟩
            refine ⟨fun hh => absurd hh (by decide), fun hh => absurd hh (by decide), fun hh => absurd hh (by decide), fun _ => ?_, fun hh => absurd hh (by decide), fun hh => absurd hh (by decide), fun hh => absurd hh (by decide), fun hh => absurd hh (by decide)⟩
            first | rw [if_pos (by omega)] | (rw [if_neg (by omega)])
        by_cases t33_4 : k = 4
        · rw [t33_4]
          refine mu_tabIn (tgt := 141) (off := 108) B dX12_about_33 (by decide) (by decide) (by decide) (by decide) ?_
          refine mu_al_0 B dX12_about_141 ?_
          refine mu_getI B dX12_about_142 fX12_201 rfl (by assumption) ?_
          rw [hlk.2.2.2.2]
          refine mu_if_ne (tgt := 152) B dX12_about_145 (by decide) (fun c145 => ?_) (fun c145 => ?_)
          · try rw [mI_eq0 ⟨by omega, by omega⟩] at c145
            refine mu_al_0 B dX12_about_152 ?_
            refine mu_getI B dX12_about_153 fX12_198 rfl (by assumption) ?_
            rw [hlk.2.2.2.1]
            refine mu_sipush (v := mI 128) B dX12_about_156 (by decide) ?_
            refine mu_isub B dX12_about_159 ?_
            try rw [mI_sub]
            refine mu_iret E rfl (by decide) (by decide) dX12_about_160 ?_
            subst t33_4
            unfold ab_post
            rw [if_pos ⟨by omega, by omega, by omega⟩, Int.toNat_natCast]
            refine ⟨hF, _, rfl, L, R, U, D, M, hLKP, ?_⟩
            refine ⟨fun hh => absurd hh (by decide), fun hh => absurd hh (by decide), fun hh => absurd hh (by decide), fun hh => absurd hh (by decide), fun _ => ?_, fun hh => absurd hh (by decide), fun hh => absurd hh (by decide), fun hh => absurd hh (by decide)⟩
            first | rw [if_pos (by omega)] | (rw [if_neg (by omega)])
          · try rw [mI_eq0 ⟨by omega, by omega⟩] at c145
            refine mu_iconst (v := mI 0) B dX12_about_148 rfl ?_
            refine mu_goto (tgt := 160) B dX12_about_149 (by decide) ?_
            refine mu_iret E rfl (by decide) (by decide) dX12_about_160 ?_
            subst t33_4
            unfold ab_post
            rw [if_pos ⟨by omega, by omega, by omega⟩, Int.toNat_natCast]
            refine ⟨hF, _, rfl, L, R, U, D, M, hLKP, ?_⟩
            refine ⟨fun hh => absurd hh (by decide), fun hh => absurd hh (by decide), fun hh => absurd hh (by decide), fun hh => absurd hh (by decide), fun _ => ?_, fun hh => absurd hh (by decide), fun hh => absurd hh (by decide), fun hh => absurd hh (by decide)⟩
            first | rw [if_pos (by omega)] | (rw [if_neg (by omega)])
        by_cases t33_5 : k = 5
        · rw [t33_5]
          refine mu_tabIn (tgt := 161) (off := 128) B dX12_about_33 (by decide) (by decide) (by decide) (by decide) ?_
          refine mu_al_0 B dX12_about_161 ?_
          refine mu_getR B dX12_about_162 fX12_42 rfl (by assumption) (by assumption) ?_
          refine mu_il_1 B dX12_about_165 ?_
          refine mu_iald B dX12_about_166 (by assumption) (mI_inN (by omega) (by decide)) ?_
          rw [mI_clampN (by omega), g11]
          refine mu_iret E rfl (by decide) (by decide) dX12_about_167 ?_
          subst t33_5
          unfold ab_post
          rw [if_pos ⟨by omega, by omega, by omega⟩, Int.toNat_natCast]
          refine ⟨hF, _, rfl, L, R, U, D, M, hLKP, ?_⟩
          refine ⟨fun hh => absurd hh (by decide), fun hh => absurd hh (by decide), fun hh => absurd hh (by decide), fun hh => absurd hh (by decide), fun hh => absurd hh (by decide), fun _ => ?_, fun hh => absurd hh (by decide), fun hh => absurd hh (by decide)⟩
          rfl
        by_cases t33_6 : k = 6
        · rw [t33_6]
          refine mu_tabIn (tgt := 168) (off := 135) B dX12_about_33 (by decide) (by decide) (by decide) (by decide) ?_
          refine mu_al_0 B dX12_about_168 ?_
          refine mu_getR B dX12_about_169 fX12_39 rfl (by assumption) (by assumption) ?_
          refine mu_il_1 B dX12_about_172 ?_
          refine mu_iald B dX12_about_173 (by assumption) (mI_inN (by omega) (by decide)) ?_
          rw [mI_clampN (by omega), g10]
          refine mu_iret E rfl (by decide) (by decide) dX12_about_174 ?_
          subst t33_6
          unfold ab_post
          rw [if_pos ⟨by omega, by omega, by omega⟩, Int.toNat_natCast]
          refine ⟨hF, _, rfl, L, R, U, D, M, hLKP, ?_⟩
          refine ⟨fun hh => absurd hh (by decide), fun hh => absurd hh (by decide), fun hh => absurd hh (by decide), fun hh => absurd hh (by decide), fun hh => absurd hh (by decide), fun hh => absurd hh (by decide), fun _ => ?_, fun hh => absurd hh (by decide)⟩
          rfl
        refine mu_tabOut (tgt := 175) B dX12_about_33 (by rw [mI_toInt ⟨by omega, by omega⟩]; omega) (by decide) ?_
        refine mu_al_0 B dX12_about_175 ?_
        refine mu_il_1 B dX12_about_176 ?_
        refine mu_cV1 B dX12_about_177 mX12_261 ⟨⟨by decide, by decide⟩, by decide, by decide⟩ (Nat.le_of_ble_eq_true rfl) (by assumption) (c_X12_differentBlocks G hm1 (f := f) (by omega) ((hfi.bd hm hf8).fi hFl (fun j => by unfold lk_S; omega))) (fun r177 w177 q177 => ?_)
        obtain ⟨hFd, S, hS, rfl⟩ := q177
        show mu_WA X G 3 _ w177 0 0 180 _ [.int (mI (S : Nat))]
        refine mu_iret E rfl (by decide) (by decide) dX12_about_180 ?_
        obtain rfl : 7 = k := by omega
        unfold ab_post
        rw [if_pos ⟨by omega, by omega, by omega⟩, Int.toNat_natCast]
        refine ⟨hF.trans (hFd.mono (fun q j hh => by unfold db_S at hh; unfold ab_S; omega)), _, rfl, L, R, U, D, M, hLKP, ?_⟩
        refine ⟨fun hh => absurd hh (by decide), fun hh => absurd hh (by decide), fun hh => absurd hh (by decide), fun hh => absurd hh (by decide), fun hh => absurd hh (by decide), fun hh => absurd hh (by decide), fun hh => absurd hh (by decide), fun _ => ⟨S, hS, rfl⟩⟩
      · try rw [mI_le ⟨by omega, by omega⟩ ⟨by omega, by omega⟩] at c15
        refine mu_iconst (v := mI (-1)) B dX12_about_18 rfl ?_
        refine mu_iret E rfl (by decide) (by decide) dX12_about_19 ?_
        unfold ab_post
        first | (rw [if_neg (fun hh => z5 hh.1)]; exact ⟨rfl, rfl⟩) | (rw [if_neg (fun hh => by have := hh.2; omega)]; exact ⟨rfl, rfl⟩)
