/-! ===== forgetting locals ===== -/
def mu_sub : List Value → List Value → Prop
  | [], [] => True
  | v' :: r', v :: r => (v' = v ∨ v' = mu_no) ∧ mu_sub r' r
  | _, _ => False
theorem mu_sub.prs : ∀ (lv' lv : List Value) (j : Nat), mu_sub lv' lv → ∀ q ∈ mu_prs j lv', q ∈ mu_prs j lv
  | [], [], _, _, q, hq => hq
  | v' :: r', v :: r, j, h, q, hq => by
    have ih := mu_sub.prs r' r (j + 1) h.2 q
    rcases h.1 with e | e
    · subst e
      rw [mu_prs] at hq ⊢
      cases hd : mu_dd v' with
      | true => rw [hd] at hq; exact ih hq
      | false =>
        rw [hd] at hq
        rcases List.mem_cons.mp hq with h3 | h3
        · exact List.mem_cons.mpr (Or.inl h3)
        · exact List.mem_cons.mpr (Or.inr (ih h3))
    · subst e
      have h3 := ih hq
      rw [mu_prs]
      cases hd : mu_dd v with
      | true => exact h3
      | false => exact List.mem_cons.mpr (Or.inr h3)
  | [], _ :: _, _, h, _, _ => absurd h (fun h => h)
  | _ :: _, [], _, h, _, _ => absurd h (fun h => h)
theorem mu_fg {X : mu_X} {G : mu_G} {nL k n pc : Nat} {Qf : State → Prop} {w w' : mu_W} {lv lv' st : List Value} (h : mu_WA X G nL Qf w k n pc lv st) (hw : w' = w) (hl : mu_sub lv lv') : mu_WA X G nL Qf w' k n pc lv' st := by
  rw [hw]
  intro H locs ls h1 h2 h3
  exact h H locs ls h1 h2 ⟨h3.1, h3.2.1, fun q hq => h3.2.2 q (mu_sub.prs lv lv' 0 hl q hq)⟩
/-! ===== turned patterns ===== -/
def sp_ta (w : Int) (t : Nat) (i : Int) : Int := if t % 2 = 1 then w - i else i
def sp_tb (h : Int) (t : Nat) (j : Int) : Int := if t / 2 % 2 = 1 then h - j else j
def sp_tx (w h : Int) (t : Nat) (i j : Int) : Int := if 4 ≤ t then sp_tb h t j else sp_ta w t i
def sp_ty (w h : Int) (t : Nat) (i j : Int) : Int := if 4 ≤ t then sp_ta w t i else sp_tb h t j
def sp_tm (c d : Nat → Nat → Nat) (L R U D L' R' U' D' : Int) (t : Nat) : Prop := R' - L' = (if 4 ≤ t then D - U else R - L) ∧ D' - U' = (if 4 ≤ t then R - L else D - U) ∧
  ∀ i j : Nat, (i : Int) ≤ R - L → (j : Int) ≤ D - U → c (L.toNat + i) (U.toNat + j) = d (L' + sp_tx (R - L) (D - U) t i j).toNat (U' + sp_ty (R - L) (D - U) t i j).toNat
def sp_cg (c d : Nat → Nat → Nat) : Prop := ∃ (L R U D L' R' U' D' : Int) (M : Nat), LKP c 256 0 L R U D M ∧ LKP d 256 0 L' R' U' D' M ∧ (M = 0 ∨ ∃ t, t < 8 ∧ sp_tm c d L R U D L' R' U' D' t)
theorem cg_no {c d : Nat → Nat → Nat} {L R U D L' R' U' D' : Int} {M M' : Nat} (h : LKP c 256 0 L R U D M) (h' : LKP d 256 0 L' R' U' D' M') (hn : M' ≠ M ∨ (M ≠ 0 ∧ ∀ t, t < 8 → ¬ sp_tm c d L R U D L' R' U' D' t)) : ¬ sp_cg c d := by
  rintro ⟨a1, a2, a3, a4, b1, b2, b3, b4, N, hc, hd, hh⟩
  obtain ⟨e0, e1, e2, e3, e4⟩ := h.uniq hc
  obtain ⟨f0, f1, f2, f3, f4⟩ := h'.uniq hd
  subst e1; subst e2; subst e3; subst e4; subst f1; subst f2; subst f3; subst f4
  rcases hn with hn | ⟨hn0, hn⟩
  · omega
  · rcases hh with g0 | ⟨t, g1, g2⟩
    · omega
    · exact hn t g1 g2
def cg_post (w : mu_W) (m nf : Nat) (fs : Nat → mu_FS) (z y : Int) (r : Option Value) (w' : mu_W) : Prop :=
  if (0 ≤ z ∧ z < nf) ∧ (0 ≤ y ∧ y < nf) then mu_Fi (lk_S m) w w' ∧ (sp_cg (fs_c (fs z.toNat)) (fs_c (fs y.toNat)) → r = some (.int (mI 1))) ∧ (¬ sp_cg (fs_c (fs z.toNat)) (fs_c (fs y.toNat)) → r = some (.int (mI 0))) else r = some (.int (mI (-1))) ∧ w' = w
theorem cg_4 : ∀ t : Nat, t < 8 → (mI t &&& mI 4 = 0 ↔ t < 4) := by decide +kernel
theorem cg_1 : ∀ t : Nat, t < 8 → (mI t &&& mI 1 = 0 ↔ t % 2 = 0) := by decide +kernel
theorem cg_2 : ∀ t : Nat, t < 8 → (mI t &&& mI 2 = 0 ↔ t / 2 % 2 = 0) := by decide +kernel

set_option maxHeartbeats 4000000 in
set_option maxRecDepth 100000 in
theorem c_X12_congruent (G : mu_G) {w : mu_W} {m : Nat} (hm : mo_ok w m) {nr : Nat} {rs : Nat → mu_RS} {nf : Nat} {fs : Nat → mu_FS} (hfi : MFi w m nr rs nf fs) {z y : Int} (hz : mi_ok z) (hy : mi_ok y) : mu_Ct G M_X12_congruent [.ref m, .int (mI z), .int (mI y)] w (fun r w' => cg_post w m nf fs z y r w') := by
  have hk0 := hm.1
  have hnf := hfi.1
  obtain ⟨hz1, hz2⟩ := id hz
  obtain ⟨hy1, hy2⟩ := id hy
  refine mu_ofWA G M_X12_congruent [.ref m, .int (mI z), .int (mI y), mu_no, mu_no, mu_no, mu_no, mu_no, mu_no, mu_no, mu_no, mu_no, mu_no, mu_no, mu_no, mu_no, mu_no] (by decide) rfl (Nat.le_of_ble_eq_true rfl) ?_
  intro X E
  have B : mu_B X G cX12_congruent RX12 17 (mu_rm M_X12_congruent) := E.1
  show mu_WA X G 17 _ _ 0 0 0 _ []
  refine mu_al_0 B dX12_congruent_0 ?_
  refine mu_il_1 B dX12_congruent_1 ?_
  refine mu_eV1 B dX12_congruent_2 mX12_178 ⟨⟨by decide, by decide⟩, by decide, by decide⟩ (Nat.le_of_ble_eq_true rfl) (by assumption) (c_X12_isField G hm (n := nf) hfi.2.1 hfi.1 hz) ?_
  refine mu_if_eq (tgt := 16) B dX12_congruent_5 (by decide) (fun c5 => ?_) (fun c5 => ?_)
  · have z5 := mu_bf c5
    refine mu_iconst (v := mI (-1)) B dX12_congruent_16 rfl ?_
    refine mu_iret E rfl (by decide) (by decide) dX12_congruent_17 ?_
    unfold cg_post
    first | (rw [if_neg (fun hh => z5 hh.1)]; exact ⟨rfl, rfl⟩) | (rw [if_neg (fun hh => z13 hh.2)]; exact ⟨rfl, rfl⟩)
  · have z5 := mu_bt c5
    refine mu_al_0 B dX12_congruent_8 ?_
    refine mu_il_2 B dX12_congruent_9 ?_
    refine mu_eV1 B dX12_congruent_10 mX12_178 ⟨⟨by decide, by decide⟩, by decide, by decide⟩ (Nat.le_of_ble_eq_true rfl) (by assumption) (c_X12_isField G hm (n := nf) hfi.2.1 hfi.1 hy) ?_
    refine mu_if_ne (tgt := 18) B dX12_congruent_13 (by decide) (fun c13 => ?_) (fun c13 => ?_)
    · have z13 := mu_bt c13
      obtain ⟨f, hf⟩ : ∃ f : Nat, z = f := ⟨z.toNat, by omega⟩
      subst hf
      obtain ⟨g, hg⟩ : ∃ g : Nat, y = g := ⟨y.toNat, by omega⟩
      subst hg
      have hBf := hfi.bd hm (f := f) (by omega)
      have hBg := hfi.bd hm (f := g) (by omega)
      obtain ⟨r14a, k14a⟩ := mo_14 hm
      refine mu_al_0 B dX12_congruent_18 ?_
      refine mu_al_0 B dX12_congruent_19 ?_
      refine mu_getR B dX12_congruent_20 fX12_36 rfl (by assumption) (by assumption) ?_
      refine mu_ldc B kX12_45 dX12_congruent_23 ?_
      refine mu_il_1 B dX12_congruent_25 ?_
      refine mu_imul B dX12_congruent_26 ?_
      try rw [mI_mul]
      rw [show (65536 : Int) * (f : Int) = ((65536 * f : Nat) : Int) by omega]
      refine mu_cV2 B dX12_congruent_27 mX12_204 ⟨⟨by decide, by decide⟩, by decide, by decide⟩ (Nat.le_of_ble_eq_true rfl) (by assumption) (c_X12_look G hm hBf) (fun r27 w27 q27 => ?_)
      obtain ⟨rfl, L, R, U, D, M, hlk, ⟨h19, h20, h21, h22, h23⟩, hF1⟩ := q27
      have hm1 := hm.fi hF1
      have hk1 := hm1.1
      obtain ⟨r14b, k14b⟩ := mo_14 hm1
      have hbd := hlk.bd
      have hMb : M ≤ 65536 := by rw [hlk.1]; have := cntR_le hBf.2.2.2.2 256; have := cntX_le hBf.2.2.2.2 256 0; omega
      have hBg1 := hBg.fi hF1 (fun j hj => by unfold lk_S at hj; omega)
      refine mu_al_0 B dX12_congruent_30 ?_
      refine mu_getI B dX12_congruent_31 fX12_189 rfl (by assumption) ?_
      first | rw [k19] | rw [h19]
      refine mu_is_3 B dX12_congruent_34 (by decide) rfl ?_
      refine mu_al_0 B dX12_congruent_35 ?_
      refine mu_getI B dX12_congruent_36 fX12_195 rfl (by assumption) ?_
      first | rw [k21] | rw [h21]
      refine mu_is_4 B dX12_congruent_39 (by decide) rfl ?_
      refine mu_al_0 B dX12_congruent_41 ?_
      refine mu_getI B dX12_congruent_42 fX12_192 rfl (by assumption) ?_
      first | rw [k20] | rw [h20]
      refine mu_al_0 B dX12_congruent_45 ?_
      refine mu_getI B dX12_congruent_46 fX12_189 rfl (by assumption) ?_
      first | rw [k19] | rw [h19]
      refine mu_isub B dX12_congruent_49 ?_
      try rw [mI_sub]
      refine mu_is_5 B dX12_congruent_50 (by decide) rfl ?_
      refine mu_al_0 B dX12_congruent_52 ?_
      refine mu_getI B dX12_congruent_53 fX12_198 rfl (by assumption) ?_
      first | rw [k22] | rw [h22]
      refine mu_al_0 B dX12_congruent_56 ?_
      refine mu_getI B dX12_congruent_57 fX12_195 rfl (by assumption) ?_
      first | rw [k21] | rw [h21]
      refine mu_isub B dX12_congruent_60 ?_
      try rw [mI_sub]
      refine mu_is_6 B dX12_congruent_61 (by decide) rfl ?_
      refine mu_al_0 B dX12_congruent_63 ?_
      refine mu_getI B dX12_congruent_64 fX12_201 rfl (by assumption) ?_
      first | rw [k23] | rw [h23]
      refine mu_is_7 B dX12_congruent_67 (by decide) rfl ?_
      refine mu_al_0 B dX12_congruent_69 ?_
      refine mu_al_0 B dX12_congruent_70 ?_
      refine mu_getR B dX12_congruent_71 fX12_36 rfl (by assumption) (by assumption) ?_
      refine mu_ldc B kX12_45 dX12_congruent_74 ?_
      refine mu_il_2 B dX12_congruent_76 ?_
      refine mu_imul B dX12_congruent_77 ?_
      try rw [mI_mul]
      rw [show (65536 : Int) * (g : Int) = ((65536 * g : Nat) : Int) by omega]
      refine mu_cV2 B dX12_congruent_78 mX12_204 ⟨⟨by decide, by decide⟩, by decide, by decide⟩ (Nat.le_of_ble_eq_true rfl) (by assumption) (c_X12_look G hm1 hBg1) (fun r78 w78 q78 => ?_)
      obtain ⟨rfl, L', R', U', D', M', hlk2, ⟨k19, k20, k21, k22, k23⟩, hF1b⟩ := q78
      have hF2 : mu_Fi (lk_S m) w w78 := hF1.trans hF1b
      have hBf2 := hBf.fi hF2 (fun j hj => by unfold lk_S at hj; omega)
      have hBg2 := hBg1.fi hF1b (fun j hj => by unfold lk_S at hj; omega)
      have hm2 := hm1.fi hF1b
      clear h19 h20 h21 h22 h23
      generalize w78 = w2 at *
      have hk2 := hm2.1
      have hbd2 := hlk2.bd
      have hMb2 : M' ≤ 65536 := by rw [hlk2.1]; have := cntR_le hBg.2.2.2.2 256; have := cntX_le hBg.2.2.2.2 256 0; omega
      refine mu_al_0 B dX12_congruent_81 ?_
      refine mu_getI B dX12_congruent_82 fX12_201 rfl (by assumption) ?_
      first | rw [k23] | rw [h23]
      refine mu_il_7 B dX12_congruent_85 ?_
      refine mu_icmp_eq (tgt := 92) B dX12_congruent_87 (by decide) (fun c87 => ?_) (fun c87 => ?_)
      · try rw [mI_eq ⟨by omega, by omega⟩ ⟨by omega, by omega⟩] at c87
        refine mu_il_7 B dX12_congruent_92 ?_
        refine mu_if_ne (tgt := 99) B dX12_congruent_94 (by decide) (fun c94 => ?_) (fun c94 => ?_)
        · try rw [mI_eq0 ⟨by omega, by omega⟩] at c94
          have hMM : M' = M := by omega
          have hM0 : M ≠ 0 := by omega
          have hbx := (hlk.2.2.2 hM0).1
          have hbx2 := (hlk2.2.2.2 (by omega)).1
          obtain ⟨r14, k14⟩ := mo_14 hm2
          obtain ⟨wd, hwd⟩ : ∃ q : Nat, R - L = q := ⟨(R - L).toNat, by omega⟩
          obtain ⟨hgt, hhgt⟩ : ∃ q : Nat, D - U = q := ⟨(D - U).toNat, by omega⟩
          have hyes : ∀ t, t < 8 → sp_tm (fs_c (fs f)) (fs_c (fs g)) L R U D L' R' U' D' t → cg_post w m nf fs (f : Int) (g : Int) (some (.int (mI 1))) w2 := by
            intro t ht htm
            unfold cg_post
            rw [if_pos ⟨⟨by omega, by omega⟩, by omega, by omega⟩]
            exact ⟨hF2, fun _ => rfl, fun hh9 => absurd ⟨L, R, U, D, L', R', U', D', M, hlk, by rw [← hMM]; exact hlk2, Or.inr ⟨t, ht, htm⟩⟩ hh9⟩
          have LT : ∀ t (s : Unit), t ≤ 8 → (∀ q, q < t → ¬ sp_tm (fs_c (fs f)) (fs_c (fs g)) L R U D L' R' U' D' q) → mu_WA X G 17 (mu_Q X G M_X12_congruent (cg_post w m nf fs (f : Int) (g : Int))) w2 0 0 102 [.ref m, .int (mI f), .int (mI g), .int (mI L), .int (mI U), .int (mI (R - L)), .int (mI (D - U)), .int (mI (M : Int)), .int (mI t), mu_no, mu_no, mu_no, mu_no, mu_no, mu_no, mu_no, mu_no] [] := by
            refine mu_ind (8) (fun t (s : Unit) => mu_WA X G 17 (mu_Q X G M_X12_congruent (cg_post w m nf fs (f : Int) (g : Int))) w2 0 0 102 [.ref m, .int (mI f), .int (mI g), .int (mI L), .int (mI U), .int (mI (R - L)), .int (mI (D - U)), .int (mI (M : Int)), .int (mI t), mu_no, mu_no, mu_no, mu_no, mu_no, mu_no, mu_no, mu_no] []) (fun t (s : Unit) => ∀ q, q < t → ¬ sp_tm (fs_c (fs f)) (fs_c (fs g)) L R U D L' R' U' D' q) ?_
            intro t s htt hP iht
            refine mu_il_8 B dX12_congruent_102 ?_
            refine mu_bipush (v := mI 8) B dX12_congruent_104 (by decide) ?_
            refine mu_icmp_ge (tgt := 361) B dX12_congruent_106 (by decide) (fun c106 => ?_) (fun c106 => ?_)
            · try rw [mI_le ⟨by omega, by omega⟩ ⟨by omega, by omega⟩] at c106
              obtain rfl : t = 8 := by omega
              refine mu_iconst (v := mI 0) B dX12_congruent_361 rfl ?_
              refine mu_iret E rfl (by decide) (by decide) dX12_congruent_362 ?_
              unfold cg_post
              rw [if_pos ⟨⟨by omega, by omega⟩, by omega, by omega⟩]
              exact ⟨hF2, fun hh9 => absurd hh9 (cg_no hlk hlk2 (Or.inr ⟨hM0, hP⟩)), fun _ => rfl⟩
            · try rw [mI_le ⟨by omega, by omega⟩ ⟨by omega, by omega⟩] at c106
              have ht : t < 8 := by omega
              have KN : ¬ sp_tm (fs_c (fs f)) (fs_c (fs g)) L R U D L' R' U' D' t → ∀ (u9 u10 u11 u12 u13 u14 u15 u16 : Value), mu_WA X G 17 (mu_Q X G M_X12_congruent (cg_post w m nf fs (f : Int) (g : Int))) w2 0 0 355 [.ref m, .int (mI f), .int (mI g), .int (mI L), .int (mI U), .int (mI (R - L)), .int (mI (D - U)), .int (mI (M : Int)), .int (mI t), u9, u10, u11, u12, u13, u14, u15, u16] [] := by
                intro hno u9 u10 u11 u12 u13 u14 u15 u16
                refine mu_inc_8 (c := mI 1) B dX12_congruent_355 rfl (by decide) rfl ?_
                rw [mI_add]
                refine mu_goto (tgt := 102) B dX12_congruent_358 (by decide) ?_
                refine mu_fg (iht () (by omega) (fun q hq => ?_)) rfl (by rw [show ((t + 1 : Nat) : Int) = (t : Int) + 1 by omega]; exact ⟨Or.inl rfl, Or.inl rfl, Or.inl rfl, Or.inl rfl, Or.inl rfl, Or.inl rfl, Or.inl rfl, Or.inl rfl, Or.inl rfl, Or.inr rfl, Or.inr rfl, Or.inr rfl, Or.inr rfl, Or.inr rfl, Or.inr rfl, Or.inr rfl, Or.inr rfl, trivial⟩)
                by_cases e9 : q = t
                · rw [e9]; exact hno
                · exact hP q (by omega)
              have KA : ∀ ac : Int, (t < 4 ∧ ac = 0 ∨ 4 ≤ t ∧ ac = 1) → mu_WA X G 17 (mu_Q X G M_X12_congruent (cg_post w m nf fs (f : Int) (g : Int))) w2 0 0 123 [.ref m, .int (mI f), .int (mI g), .int (mI L), .int (mI U), .int (mI (R - L)), .int (mI (D - U)), .int (mI (M : Int)), .int (mI t), .int (mI ac), mu_no, mu_no, mu_no, mu_no, mu_no, mu_no, mu_no] [] := by
                intro ac hac
                refine mu_al_0 B dX12_congruent_123 ?_
                refine mu_getI B dX12_congruent_124 fX12_192 rfl (by assumption) ?_
                rw [k20]
                refine mu_al_0 B dX12_congruent_127 ?_
                refine mu_getI B dX12_congruent_128 fX12_189 rfl (by assumption) ?_
                rw [k19]
                refine mu_isub B dX12_congruent_131 ?_
                try rw [mI_sub]
                refine mu_il_9 B dX12_congruent_132 ?_
                refine mu_if_eq (tgt := 142) B dX12_congruent_134 (by decide) (fun c134 => ?_) (fun c134 => ?_)
                · try rw [mI_eq0 ⟨by omega, by omega⟩] at c134
                  refine mu_il_5 B dX12_congruent_142 ?_
                  refine mu_icmp_ne (tgt := 355) B dX12_congruent_144 (by decide) (fun c144 => ?_) (fun c144 => ?_)
                  · try rw [mI_eq ⟨by omega, by omega⟩ ⟨by omega, by omega⟩] at c144
                    first | (exfalso; omega) | exact KN (fun hh9 => by have h91 := hh9.1; have h92 := hh9.2.1; by_cases q1 : 4 ≤ t <;> simp only [q1, if_true, if_false] at h91 h92 <;> omega) _ _ _ _ _ _ _ _
                  · try rw [mI_eq ⟨by omega, by omega⟩ ⟨by omega, by omega⟩] at c144
                    refine mu_al_0 B dX12_congruent_147 ?_
                    refine mu_getI B dX12_congruent_148 fX12_198 rfl (by assumption) ?_
                    rw [k22]
                    refine mu_al_0 B dX12_congruent_151 ?_
                    refine mu_getI B dX12_congruent_152 fX12_195 rfl (by assumption) ?_
                    rw [k21]
                    refine mu_isub B dX12_congruent_155 ?_
                    try rw [mI_sub]
                    refine mu_il_9 B dX12_congruent_156 ?_
                    refine mu_if_eq (tgt := 166) B dX12_congruent_158 (by decide) (fun c158 => ?_) (fun c158 => ?_)
                    · try rw [mI_eq0 ⟨by omega, by omega⟩] at c158
                      refine mu_il_6 B dX12_congruent_166 ?_
                      refine mu_icmp_eq (tgt := 174) B dX12_congruent_168 (by decide) (fun c168 => ?_) (fun c168 => ?_)
                      · try rw [mI_eq ⟨by omega, by omega⟩ ⟨by omega, by omega⟩] at c168
                        refine mu_iconst (v := mI 1) B dX12_congruent_174 rfl ?_
                        refine mu_is_10 B dX12_congruent_175 (by decide) rfl ?_
                        refine mu_iconst (v := mI 0) B dX12_congruent_177 rfl ?_
                        refine mu_is_11 B dX12_congruent_178 (by decide) rfl ?_
                        first
                          | (exfalso; omega)
                          | have hw : R' - L' = (if 4 ≤ t then D - U else R - L) := by by_cases q1 : 4 ≤ t <;> simp only [q1, if_true, if_false] <;> omega
                            have hh : D' - U' = (if 4 ≤ t then R - L else D - U) := by by_cases q1 : 4 ≤ t <;> simp only [q1, if_true, if_false] <;> omega
                            have LY : ∀ y (s : Int), y ≤ hgt + 1 → ((s = 1 ∧ ∀ i j : Nat, (i : Int) ≤ R - L → j < y → fs_c (fs f) (L.toNat + i) (U.toNat + j) = fs_c (fs g) (L' + sp_tx (R - L) (D - U) t i j).toNat (U' + sp_ty (R - L) (D - U) t i j).toNat) ∨ (s = 0 ∧ ∃ i j : Nat, (i : Int) ≤ R - L ∧ (j : Int) ≤ D - U ∧ ¬ (fs_c (fs f) (L.toNat + i) (U.toNat + j) = fs_c (fs g) (L' + sp_tx (R - L) (D - U) t i j).toNat (U' + sp_ty (R - L) (D - U) t i j).toNat))) → mu_WA X G 17 (mu_Q X G M_X12_congruent (cg_post w m nf fs (f : Int) (g : Int))) w2 0 0 180 [.ref m, .int (mI f), .int (mI g), .int (mI L), .int (mI U), .int (mI (R - L)), .int (mI (D - U)), .int (mI (M : Int)), .int (mI t), .int (mI ac), .int (mI s), .int (mI y), mu_no, mu_no, mu_no, mu_no, mu_no] [] := by
                              refine mu_ind (hgt + 1) (fun y (s : Int) => mu_WA X G 17 (mu_Q X G M_X12_congruent (cg_post w m nf fs (f : Int) (g : Int))) w2 0 0 180 [.ref m, .int (mI f), .int (mI g), .int (mI L), .int (mI U), .int (mI (R - L)), .int (mI (D - U)), .int (mI (M : Int)), .int (mI t), .int (mI ac), .int (mI s), .int (mI y), mu_no, mu_no, mu_no, mu_no, mu_no] []) (fun y (s : Int) => (s = 1 ∧ ∀ i j : Nat, (i : Int) ≤ R - L → j < y → fs_c (fs f) (L.toNat + i) (U.toNat + j) = fs_c (fs g) (L' + sp_tx (R - L) (D - U) t i j).toNat (U' + sp_ty (R - L) (D - U) t i j).toNat) ∨ (s = 0 ∧ ∃ i j : Nat, (i : Int) ≤ R - L ∧ (j : Int) ≤ D - U ∧ ¬ (fs_c (fs f) (L.toNat + i) (U.toNat + j) = fs_c (fs g) (L' + sp_tx (R - L) (D - U) t i j).toNat (U' + sp_ty (R - L) (D - U) t i j).toNat))) ?_
                              intro y s hy hP ihy
                              have hs : s = 0 ∨ s = 1 := by rcases hP with h9 | h9 <;> omega
                              refine mu_il_11 B dX12_congruent_180 ?_
                              refine mu_il_6 B dX12_congruent_182 ?_
                              refine mu_icmp_gt (tgt := 348) B dX12_congruent_184 (by decide) (fun c184 => ?_) (fun c184 => ?_)
                              · try rw [mI_lt ⟨by omega, by omega⟩ ⟨by omega, by omega⟩] at c184
                                obtain rfl : y = hgt + 1 := by omega
                                refine mu_il_10 B dX12_congruent_348 ?_
                                refine mu_if_eq (tgt := 355) B dX12_congruent_350 (by decide) (fun c350 => ?_) (fun c350 => ?_)
                                · rw [mI_eq0 ⟨by omega, by omega⟩] at c350
                                  refine KN (fun hh9 => ?_) _ _ _ _ _ _ _ _
                                  rcases hP with h9 | ⟨-, i, j, h1, h2, h3⟩
                                  · omega
                                  · exact h3 (hh9.2.2 i j h1 h2)
                                · rw [mI_eq0 ⟨by omega, by omega⟩] at c350
                                  refine mu_iconst (v := mI 1) B dX12_congruent_353 rfl ?_
                                  refine mu_iret E rfl (by decide) (by decide) dX12_congruent_354 ?_
                                  refine hyes t ht ⟨hw, hh, fun i j h1 h2 => ?_⟩
                                  rcases hP with h9 | h9
                                  · first | exact h9.2 i j h1 (by omega) | (exfalso; omega)
                                  · omega
                              · try rw [mI_lt ⟨by omega, by omega⟩ ⟨by omega, by omega⟩] at c184
                                refine mu_il_10 B dX12_congruent_187 ?_
                                refine mu_if_eq (tgt := 348) B dX12_congruent_189 (by decide) (fun c189 => ?_) (fun c189 => ?_)
                                · try rw [mI_eq0 ⟨by omega, by omega⟩] at c189
                                  refine mu_il_10 B dX12_congruent_348 ?_
                                  refine mu_if_eq (tgt := 355) B dX12_congruent_350 (by decide) (fun c350 => ?_) (fun c350 => ?_)
                                  · rw [mI_eq0 ⟨by omega, by omega⟩] at c350
                                    refine KN (fun hh9 => ?_) _ _ _ _ _ _ _ _
                                    rcases hP with h9 | ⟨-, i, j, h1, h2, h3⟩
                                    · omega
                                    · exact h3 (hh9.2.2 i j h1 h2)
                                  · rw [mI_eq0 ⟨by omega, by omega⟩] at c350
                                    refine mu_iconst (v := mI 1) B dX12_congruent_353 rfl ?_
                                    refine mu_iret E rfl (by decide) (by decide) dX12_congruent_354 ?_
                                    refine hyes t ht ⟨hw, hh, fun i j h1 h2 => ?_⟩
                                    rcases hP with h9 | h9
                                    · first | exact h9.2 i j h1 (by omega) | (exfalso; omega)
                                    · omega
                                · try rw [mI_eq0 ⟨by omega, by omega⟩] at c189
                                  obtain ⟨rfl, hpre⟩ : s = 1 ∧ ∀ i j : Nat, (i : Int) ≤ R - L → j < y → fs_c (fs f) (L.toNat + i) (U.toNat + j) = fs_c (fs g) (L' + sp_tx (R - L) (D - U) t i j).toNat (U' + sp_ty (R - L) (D - U) t i j).toNat := by
                                    rcases hP with h9 | h9
                                    · exact h9
                                    · exact absurd h9.1 (by omega)
                                  refine mu_iconst (v := mI 0) B dX12_congruent_192 rfl ?_
                                  refine mu_is_12 B dX12_congruent_193 (by decide) rfl ?_
                                  have LX : ∀ x (s : Int), x ≤ wd + 1 → ((s = 1 ∧ ∀ i j : Nat, (i : Int) ≤ R - L → (j < y ∨ (j = y ∧ i < x)) → fs_c (fs f) (L.toNat + i) (U.toNat + j) = fs_c (fs g) (L' + sp_tx (R - L) (D - U) t i j).toNat (U' + sp_ty (R - L) (D - U) t i j).toNat) ∨ (s = 0 ∧ ∃ i j : Nat, (i : Int) ≤ R - L ∧ (j : Int) ≤ D - U ∧ ¬ (fs_c (fs f) (L.toNat + i) (U.toNat + j) = fs_c (fs g) (L' + sp_tx (R - L) (D - U) t i j).toNat (U' + sp_ty (R - L) (D - U) t i j).toNat))) → mu_WA X G 17 (mu_Q X G M_X12_congruent (cg_post w m nf fs (f : Int) (g : Int))) w2 0 0 195 [.ref m, .int (mI f), .int (mI g), .int (mI L), .int (mI U), .int (mI (R - L)), .int (mI (D - U)), .int (mI (M : Int)), .int (mI t), .int (mI ac), .int (mI s), .int (mI y), .int (mI x), mu_no, mu_no, mu_no, mu_no] [] := by
                                    refine mu_ind (wd + 1) (fun x (s : Int) => mu_WA X G 17 (mu_Q X G M_X12_congruent (cg_post w m nf fs (f : Int) (g : Int))) w2 0 0 195 [.ref m, .int (mI f), .int (mI g), .int (mI L), .int (mI U), .int (mI (R - L)), .int (mI (D - U)), .int (mI (M : Int)), .int (mI t), .int (mI ac), .int (mI s), .int (mI y), .int (mI x), mu_no, mu_no, mu_no, mu_no] []) (fun x (s : Int) => (s = 1 ∧ ∀ i j : Nat, (i : Int) ≤ R - L → (j < y ∨ (j = y ∧ i < x)) → fs_c (fs f) (L.toNat + i) (U.toNat + j) = fs_c (fs g) (L' + sp_tx (R - L) (D - U) t i j).toNat (U' + sp_ty (R - L) (D - U) t i j).toNat) ∨ (s = 0 ∧ ∃ i j : Nat, (i : Int) ≤ R - L ∧ (j : Int) ≤ D - U ∧ ¬ (fs_c (fs f) (L.toNat + i) (U.toNat + j) = fs_c (fs g) (L' + sp_tx (R - L) (D - U) t i j).toNat (U' + sp_ty (R - L) (D - U) t i j).toNat))) ?_
                                    intro x s hx hP ih
                                    have hs : s = 0 ∨ s = 1 := by rcases hP with h9 | h9 <;> omega
                                    refine mu_il_12 B dX12_congruent_195 ?_
                                    refine mu_il_5 B dX12_congruent_197 ?_
                                    refine mu_icmp_gt (tgt := 342) B dX12_congruent_199 (by decide) (fun c199 => ?_) (fun c199 => ?_)
                                    · try rw [mI_lt ⟨by omega, by omega⟩ ⟨by omega, by omega⟩] at c199
                                      obtain rfl : x = wd + 1 := by omega
                                      refine mu_inc_11 (c := mI 1) B dX12_congruent_342 rfl (by decide) rfl ?_
                                      rw [mI_add]
                                      refine mu_goto (tgt := 180) B dX12_congruent_345 (by decide) ?_
                                      refine mu_fg (ihy s (by omega) ?_) rfl (by rw [show ((y + 1 : Nat) : Int) = (y : Int) + 1 by omega]; exact ⟨Or.inl rfl, Or.inl rfl, Or.inl rfl, Or.inl rfl, Or.inl rfl, Or.inl rfl, Or.inl rfl, Or.inl rfl, Or.inl rfl, Or.inl rfl, Or.inl rfl, Or.inl rfl, Or.inr rfl, Or.inr rfl, Or.inr rfl, Or.inr rfl, Or.inr rfl, trivial⟩)
                                      rcases hP with h9 | h9
                                      · first | (exfalso; omega) | exact Or.inl ⟨h9.1, fun i j h1 h2 => h9.2 i j h1 (by omega)⟩
                                      · exact Or.inr h9
                                    · try rw [mI_lt ⟨by omega, by omega⟩ ⟨by omega, by omega⟩] at c199
                                      refine mu_il_10 B dX12_congruent_202 ?_
                                      refine mu_if_eq (tgt := 342) B dX12_congruent_204 (by decide) (fun c204 => ?_) (fun c204 => ?_)
                                      · try rw [mI_eq0 ⟨by omega, by omega⟩] at c204
                                        refine mu_inc_11 (c := mI 1) B dX12_congruent_342 rfl (by decide) rfl ?_
                                        rw [mI_add]
                                        refine mu_goto (tgt := 180) B dX12_congruent_345 (by decide) ?_
                                        refine mu_fg (ihy s (by omega) ?_) rfl (by rw [show ((y + 1 : Nat) : Int) = (y : Int) + 1 by omega]; exact ⟨Or.inl rfl, Or.inl rfl, Or.inl rfl, Or.inl rfl, Or.inl rfl, Or.inl rfl, Or.inl rfl, Or.inl rfl, Or.inl rfl, Or.inl rfl, Or.inl rfl, Or.inl rfl, Or.inr rfl, Or.inr rfl, Or.inr rfl, Or.inr rfl, Or.inr rfl, trivial⟩)
                                        rcases hP with h9 | h9
                                        · first | (exfalso; omega) | exact Or.inl ⟨h9.1, fun i j h1 h2 => h9.2 i j h1 (by omega)⟩
                                        · exact Or.inr h9
                                      · try rw [mI_eq0 ⟨by omega, by omega⟩] at c204
                                        obtain ⟨rfl, hpre⟩ : s = 1 ∧ ∀ i j : Nat, (i : Int) ≤ R - L → (j < y ∨ (j = y ∧ i < x)) → fs_c (fs f) (L.toNat + i) (U.toNat + j) = fs_c (fs g) (L' + sp_tx (R - L) (D - U) t i j).toNat (U' + sp_ty (R - L) (D - U) t i j).toNat := by
                                          rcases hP with h9 | h9
                                          · exact h9
                                          · exact absurd h9.1 (by omega)
                                        have K273 : ∀ (gx gy : Int) (u13 u14 : Value), gx = sp_tx (R - L) (D - U) t x y → gy = sp_ty (R - L) (D - U) t x y → mu_WA X G 17 (mu_Q X G M_X12_congruent (cg_post w m nf fs (f : Int) (g : Int))) w2 0 0 273 [.ref m, .int (mI f), .int (mI g), .int (mI L), .int (mI U), .int (mI (R - L)), .int (mI (D - U)), .int (mI (M : Int)), .int (mI t), .int (mI ac), .int (mI 1), .int (mI y), .int (mI x), u13, u14, .int (mI gx), .int (mI gy)] [] := by
                                          intro gx gy u13 u14 hgx hgy
                                          have hgb : 0 ≤ gx ∧ gx ≤ R' - L' ∧ 0 ≤ gy ∧ gy ≤ D' - U' := by
                                            rw [hgx, hgy, hw, hh]
                                            unfold sp_tx sp_ty sp_ta sp_tb
                                            by_cases q1 : 4 ≤ t <;> by_cases q2 : t % 2 = 1 <;> by_cases q3 : t / 2 % 2 = 1 <;> simp only [q1, q2, q3, if_true, if_false] <;> omega
                                          refine mu_al_0 B dX12_congruent_273 ?_
                                          refine mu_getR B dX12_congruent_274 fX12_36 rfl (by assumption) (by assumption) ?_
                                          refine mu_ldc B kX12_45 dX12_congruent_277 ?_
                                          refine mu_il_1 B dX12_congruent_279 ?_
                                          refine mu_imul B dX12_congruent_280 ?_
                                          try rw [mI_mul]
                                          refine mu_sipush (v := mI 256) B dX12_congruent_281 (by decide) ?_
                                          refine mu_il_4 B dX12_congruent_284 ?_
                                          refine mu_il_11 B dX12_congruent_286 ?_
                                          refine mu_iadd B dX12_congruent_288 ?_
                                          try rw [mI_add]
                                          refine mu_imul B dX12_congruent_289 ?_
                                          try rw [mI_mul]
                                          refine mu_iadd B dX12_congruent_290 ?_
                                          try rw [mI_add]
                                          refine mu_il_3 B dX12_congruent_291 ?_
                                          refine mu_iadd B dX12_congruent_292 ?_
                                          try rw [mI_add]
                                          refine mu_il_12 B dX12_congruent_293 ?_
                                          refine mu_iadd B dX12_congruent_295 ?_
                                          try rw [mI_add]
                                          rw [show (65536 : Int) * (f : Int) + 256 * (U + (y : Int)) + L + (x : Int) = ((65536 * f + 256 * (U.toNat + y) + (L.toNat + x) : Nat) : Int) by omega]
                                          refine mu_bald B dX12_congruent_296 (by assumption) (mI_inN (by omega) (by decide)) ?_
                                          rw [mI_clampN (by omega), hBf2.2.2.2.1 (L.toNat + x) (U.toNat + y) (by omega) (by omega)]
                                          refine mu_al_0 B dX12_congruent_297 ?_
                                          refine mu_getR B dX12_congruent_298 fX12_36 rfl (by assumption) (by assumption) ?_
                                          refine mu_ldc B kX12_45 dX12_congruent_301 ?_
                                          refine mu_il_2 B dX12_congruent_303 ?_
                                          refine mu_imul B dX12_congruent_304 ?_
                                          try rw [mI_mul]
                                          refine mu_sipush (v := mI 256) B dX12_congruent_305 (by decide) ?_
                                          refine mu_al_0 B dX12_congruent_308 ?_
                                          refine mu_getI B dX12_congruent_309 fX12_195 rfl (by assumption) ?_
                                          rw [k21]
                                          refine mu_il_16 B dX12_congruent_312 ?_
                                          refine mu_iadd B dX12_congruent_314 ?_
                                          try rw [mI_add]
                                          refine mu_imul B dX12_congruent_315 ?_
                                          try rw [mI_mul]
                                          refine mu_iadd B dX12_congruent_316 ?_
                                          try rw [mI_add]
                                          refine mu_al_0 B dX12_congruent_317 ?_
                                          refine mu_getI B dX12_congruent_318 fX12_189 rfl (by assumption) ?_
                                          rw [k19]
                                          refine mu_iadd B dX12_congruent_321 ?_
                                          try rw [mI_add]
                                          refine mu_il_15 B dX12_congruent_322 ?_
                                          refine mu_iadd B dX12_congruent_324 ?_
                                          try rw [mI_add]
                                          rw [show (65536 : Int) * (g : Int) + 256 * (U' + gy) + L' + gx = ((65536 * g + 256 * (U' + gy).toNat + (L' + gx).toNat : Nat) : Int) by omega]
                                          refine mu_bald B dX12_congruent_325 (by assumption) (mI_inN (by omega) (by decide)) ?_
                                          rw [mI_clampN (by omega), hBg2.2.2.2.1 (L' + gx).toNat (U' + gy).toNat (by omega) (by omega)]
                                          have q1 := hBf.2.2.2.2 (L.toNat + x) (U.toNat + y)
                                          have q2 := hBg.2.2.2.2 (L' + gx).toNat (U' + gy).toNat
                                          refine mu_icmp_ne (tgt := 333) B dX12_congruent_326 (by decide) (fun c326 => ?_) (fun c326 => ?_)
                                          · try rw [mI_eq ⟨by omega, by omega⟩ ⟨by omega, by omega⟩] at c326
                                            refine mu_iconst (v := mI 0) B dX12_congruent_333 rfl ?_
                                            refine mu_is_10 B dX12_congruent_334 (by decide) rfl ?_
                                            refine mu_inc_12 (c := mI 1) B dX12_congruent_336 rfl (by decide) rfl ?_
                                            rw [mI_add]
                                            refine mu_goto (tgt := 195) B dX12_congruent_339 (by decide) ?_
                                            refine mu_fg (ih 0 (by omega) (Or.inr ⟨rfl, x, y, by omega, by omega, fun e9 => ?_⟩)) rfl (by rw [show ((x + 1 : Nat) : Int) = (x : Int) + 1 by omega]; exact ⟨Or.inl rfl, Or.inl rfl, Or.inl rfl, Or.inl rfl, Or.inl rfl, Or.inl rfl, Or.inl rfl, Or.inl rfl, Or.inl rfl, Or.inl rfl, Or.inl rfl, Or.inl rfl, Or.inl rfl, Or.inr rfl, Or.inr rfl, Or.inr rfl, Or.inr rfl, trivial⟩)
                                            rw [← hgx, ← hgy] at e9
                                            exact c326 (by omega)
                                          · try rw [mI_eq ⟨by omega, by omega⟩ ⟨by omega, by omega⟩] at c326
                                            refine mu_iconst (v := mI 1) B dX12_congruent_329 rfl ?_
                                            refine mu_goto (tgt := 334) B dX12_congruent_330 (by decide) ?_
                                            refine mu_is_10 B dX12_congruent_334 (by decide) rfl ?_
                                            refine mu_inc_12 (c := mI 1) B dX12_congruent_336 rfl (by decide) rfl ?_
                                            rw [mI_add]
                                            refine mu_goto (tgt := 195) B dX12_congruent_339 (by decide) ?_
                                            refine mu_fg (ih 1 (by omega) (Or.inl ⟨rfl, fun i j h1 h2 => ?_⟩)) rfl (by rw [show ((x + 1 : Nat) : Int) = (x : Int) + 1 by omega]; exact ⟨Or.inl rfl, Or.inl rfl, Or.inl rfl, Or.inl rfl, Or.inl rfl, Or.inl rfl, Or.inl rfl, Or.inl rfl, Or.inl rfl, Or.inl rfl, Or.inl rfl, Or.inl rfl, Or.inl rfl, Or.inr rfl, Or.inr rfl, Or.inr rfl, Or.inr rfl, trivial⟩)
                                            by_cases e9 : j = y ∧ i = x
                                            · rw [e9.1, e9.2, ← hgx, ← hgy]; omega
                                            · exact hpre i j h1 (by omega)
                                        refine mu_il_8 B dX12_congruent_207 ?_
                                        refine mu_iconst (v := mI 1) B dX12_congruent_209 rfl ?_
                                        refine mu_iand B dX12_congruent_210 ?_
                                        refine mu_if_eq (tgt := 222) B dX12_congruent_211 (by decide) (fun c211 => ?_) (fun c211 => ?_)
                                        · rw [cg_1 t ht] at c211
                                          refine mu_il_12 B dX12_congruent_222 ?_
                                          refine mu_is_13 B dX12_congruent_224 (by decide) rfl ?_
                                          refine mu_il_8 B dX12_congruent_226 ?_
                                          refine mu_iconst (v := mI 2) B dX12_congruent_228 rfl ?_
                                          refine mu_iand B dX12_congruent_229 ?_
                                          refine mu_if_eq (tgt := 241) B dX12_congruent_230 (by decide) (fun c230 => ?_) (fun c230 => ?_)
                                          · rw [cg_2 t ht] at c230
                                            refine mu_il_11 B dX12_congruent_241 ?_
                                            refine mu_is_14 B dX12_congruent_243 (by decide) rfl ?_
                                            refine mu_il_9 B dX12_congruent_245 ?_
                                            refine mu_if_eq (tgt := 255) B dX12_congruent_247 (by decide) (fun c247 => ?_) (fun c247 => ?_)
                                            · try rw [mI_eq0 ⟨by omega, by omega⟩] at c247
                                              refine mu_il_13 B dX12_congruent_255 ?_
                                              refine mu_is_15 B dX12_congruent_257 (by decide) rfl ?_
                                              refine mu_il_9 B dX12_congruent_259 ?_
                                              refine mu_if_eq (tgt := 269) B dX12_congruent_261 (by decide) (fun c261 => ?_) (fun c261 => ?_)
                                              · try rw [mI_eq0 ⟨by omega, by omega⟩] at c261
                                                refine mu_il_14 B dX12_congruent_269 ?_
                                                refine mu_is_16 B dX12_congruent_271 (by decide) rfl ?_
                                                first | (exfalso; omega) | exact K273 _ _ _ _ (by unfold sp_tx sp_ta sp_tb; by_cases q1 : 4 ≤ t <;> by_cases q2 : t % 2 = 1 <;> by_cases q3 : t / 2 % 2 = 1 <;> simp only [q1, q2, q3, if_true, if_false] <;> omega) (by unfold sp_ty sp_ta sp_tb; by_cases q1 : 4 ≤ t <;> by_cases q2 : t % 2 = 1 <;> by_cases q3 : t / 2 % 2 = 1 <;> simp only [q1, q2, q3, if_true, if_false] <;> omega)
                                              · try rw [mI_eq0 ⟨by omega, by omega⟩] at c261
                                                refine mu_il_13 B dX12_congruent_264 ?_
                                                refine mu_goto (tgt := 271) B dX12_congruent_266 (by decide) ?_
                                                refine mu_is_16 B dX12_congruent_271 (by decide) rfl ?_
                                                first | (exfalso; omega) | exact K273 _ _ _ _ (by unfold sp_tx sp_ta sp_tb; by_cases q1 : 4 ≤ t <;> by_cases q2 : t % 2 = 1 <;> by_cases q3 : t / 2 % 2 = 1 <;> simp only [q1, q2, q3, if_true, if_false] <;> omega) (by unfold sp_ty sp_ta sp_tb; by_cases q1 : 4 ≤ t <;> by_cases q2 : t % 2 = 1 <;> by_cases q3 : t / 2 % 2 = 1 <;> simp only [q1, q2, q3, if_true, if_false] <;> omega)
                                            · try rw [mI_eq0 ⟨by omega, by omega⟩] at c247
                                              refine mu_il_14 B dX12_congruent_250 ?_
                                              refine mu_goto (tgt := 257) B dX12_congruent_252 (by decide) ?_
                                              refine mu_is_15 B dX12_congruent_257 (by decide) rfl ?_
                                              refine mu_il_9 B dX12_congruent_259 ?_
                                              refine mu_if_eq (tgt := 269) B dX12_congruent_261 (by decide) (fun c261 => ?_) (fun c261 => ?_)
                                              · try rw [mI_eq0 ⟨by omega, by omega⟩] at c261
                                                refine mu_il_14 B dX12_congruent_269 ?_
                                                refine mu_is_16 B dX12_congruent_271 (by decide) rfl ?_
                                                first | (exfalso; omega) | exact K273 _ _ _ _ (by unfold sp_tx sp_ta sp_tb; by_cases q1 : 4 ≤ t <;> by_cases q2 : t % 2 = 1 <;> by_cases q3 : t / 2 % 2 = 1 <;> simp only [q1, q2, q3, if_true, if_false] <;> omega) (by unfold sp_ty sp_ta sp_tb; by_cases q1 : 4 ≤ t <;> by_cases q2 : t % 2 = 1 <;> by_cases q3 : t / 2 % 2 = 1 <;> simp only [q1, q2, q3, if_true, if_false] <;> omega)
                                              · try rw [mI_eq0 ⟨by omega, by omega⟩] at c261
                                                refine mu_il_13 B dX12_congruent_264 ?_
                                                refine mu_goto (tgt := 271) B dX12_congruent_266 (by decide) ?_
                                                refine mu_is_16 B dX12_congruent_271 (by decide) rfl ?_
                                                first | (exfalso; omega) | exact K273 _ _ _ _ (by unfold sp_tx sp_ta sp_tb; by_cases q1 : 4 ≤ t <;> by_cases q2 : t % 2 = 1 <;> by_cases q3 : t / 2 % 2 = 1 <;> simp only [q1, q2, q3, if_true, if_false] <;> omega) (by unfold sp_ty sp_ta sp_tb; by_cases q1 : 4 ≤ t <;> by_cases q2 : t % 2 = 1 <;> by_cases q3 : t / 2 % 2 = 1 <;> simp only [q1, q2, q3, if_true, if_false] <;> omega)
                                          · rw [cg_2 t ht] at c230
                                            refine mu_il_6 B dX12_congruent_233 ?_
                                            refine mu_il_11 B dX12_congruent_235 ?_
                                            refine mu_isub B dX12_congruent_237 ?_
                                            try rw [mI_sub]
                                            refine mu_goto (tgt := 243) B dX12_congruent_238 (by decide) ?_
                                            refine mu_is_14 B dX12_congruent_243 (by decide) rfl ?_
                                            refine mu_il_9 B dX12_congruent_245 ?_
                                            refine mu_if_eq (tgt := 255) B dX12_congruent_247 (by decide) (fun c247 => ?_) (fun c247 => ?_)
                                            · try rw [mI_eq0 ⟨by omega, by omega⟩] at c247
                                              refine mu_il_13 B dX12_congruent_255 ?_
                                              refine mu_is_15 B dX12_congruent_257 (by decide) rfl ?_
                                              refine mu_il_9 B dX12_congruent_259 ?_
                                              refine mu_if_eq (tgt := 269) B dX12_congruent_261 (by decide) (fun c261 => ?_) (fun c261 => ?_)
                                              · try rw [mI_eq0 ⟨by omega, by omega⟩] at c261
                                                refine mu_il_14 B dX12_congruent_269 ?_
                                                refine mu_is_16 B dX12_congruent_271 (by decide) rfl ?_
                                                first | (exfalso; omega) | exact K273 _ _ _ _ (by unfold sp_tx sp_ta sp_tb; by_cases q1 : 4 ≤ t <;> by_cases q2 : t % 2 = 1 <;> by_cases q3 : t / 2 % 2 = 1 <;> simp only [q1, q2, q3, if_true, if_false] <;> omega) (by unfold sp_ty sp_ta sp_tb; by_cases q1 : 4 ≤ t <;> by_cases q2 : t % 2 = 1 <;> by_cases q3 : t / 2 % 2 = 1 <;> simp only [q1, q2, q3, if_true, if_false] <;> omega)
                                              · try rw [mI_eq0 ⟨by omega, by omega⟩] at c261
                                                refine mu_il_13 B dX12_congruent_264 ?_
                                                refine mu_goto (tgt := 271) B dX12_congruent_266 (by decide) ?_
                                                refine mu_is_16 B dX12_congruent_271 (by decide) rfl ?_
                                                first | (exfalso; omega) | exact K273 _ _ _ _ (by unfold sp_tx sp_ta sp_tb; by_cases q1 : 4 ≤ t <;> by_cases q2 : t % 2 = 1 <;> by_cases q3 : t / 2 % 2 = 1 <;> simp only [q1, q2, q3, if_true, if_false] <;> omega) (by unfold sp_ty sp_ta sp_tb; by_cases q1 : 4 ≤ t <;> by_cases q2 : t % 2 = 1 <;> by_cases q3 : t / 2 % 2 = 1 <;> simp only [q1, q2, q3, if_true, if_false] <;> omega)
                                            · try rw [mI_eq0 ⟨by omega, by omega⟩] at c247
                                              refine mu_il_14 B dX12_congruent_250 ?_
                                              refine mu_goto (tgt := 257) B dX12_congruent_252 (by decide) ?_
                                              refine mu_is_15 B dX12_congruent_257 (by decide) rfl ?_
                                              refine mu_il_9 B dX12_congruent_259 ?_
                                              refine mu_if_eq (tgt := 269) B dX12_congruent_261 (by decide) (fun c261 => ?_) (fun c261 => ?_)
                                              · try rw [mI_eq0 ⟨by omega, by omega⟩] at c261
                                                refine mu_il_14 B dX12_congruent_269 ?_
                                                refine mu_is_16 B dX12_congruent_271 (by decide) rfl ?_
                                                first | (exfalso; omega) | exact K273 _ _ _ _ (by unfold sp_tx sp_ta sp_tb; by_cases q1 : 4 ≤ t <;> by_cases q2 : t % 2 = 1 <;> by_cases q3 : t / 2 % 2 = 1 <;> simp only [q1, q2, q3, if_true, if_false] <;> omega) (by unfold sp_ty sp_ta sp_tb; by_cases q1 : 4 ≤ t <;> by_cases q2 : t % 2 = 1 <;> by_cases q3 : t / 2 % 2 = 1 <;> simp only [q1, q2, q3, if_true, if_false] <;> omega)
                                              · try rw [mI_eq0 ⟨by omega, by omega⟩] at c261
                                                refine mu_il_13 B dX12_congruent_264 ?_
                                                refine mu_goto (tgt := 271) B dX12_congruent_266 (by decide) ?_
                                                refine mu_is_16 B dX12_congruent_271 (by decide) rfl ?_
                                                first | (exfalso; omega) | exact K273 _ _ _ _ (by unfold sp_tx sp_ta sp_tb; by_cases q1 : 4 ≤ t <;> by_cases q2 : t % 2 = 1 <;> by_cases q3 : t / 2 % 2 = 1 <;> simp only [q1, q2, q3, if_true, if_false] <;> omega) (by unfold sp_ty sp_ta sp_tb; by_cases q1 : 4 ≤ t <;> by_cases q2 : t % 2 = 1 <;> by_cases q3 : t / 2 % 2 = 1 <;> simp only [q1, q2, q3, if_true, if_false] <;> omega)
                                        · rw [cg_1 t ht] at c211
                                          refine mu_il_5 B dX12_congruent_214 ?_
                                          refine mu_il_12 B dX12_congruent_216 ?_
                                          refine mu_isub B dX12_congruent_218 ?_
                                          try rw [mI_sub]
                                          refine mu_goto (tgt := 224) B dX12_congruent_219 (by decide) ?_
                                          refine mu_is_13 B dX12_congruent_224 (by decide) rfl ?_
                                          refine mu_il_8 B dX12_congruent_226 ?_
                                          refine mu_iconst (v := mI 2) B dX12_congruent_228 rfl ?_
                                          refine mu_iand B dX12_congruent_229 ?_
                                          refine mu_if_eq (tgt := 241) B dX12_congruent_230 (by decide) (fun c230 => ?_) (fun c230 => ?_)
                                          · rw [cg_2 t ht] at c230
                                            refine mu_il_11 B dX12_congruent_241 ?_
                                            refine mu_is_14 B dX12_congruent_243 (by decide) rfl ?_
                                            refine mu_il_9 B dX12_congruent_245 ?_
                                            refine mu_if_eq (tgt := 255) B dX12_congruent_247 (by decide) (fun c247 => ?_) (fun c247 => ?_)
                                            · try rw [mI_eq0 ⟨by omega, by omega⟩] at c247
                                              refine mu_il_13 B dX12_congruent_255 ?_
                                              refine mu_is_15 B dX12_congruent_257 (by decide) rfl ?_
                                              refine mu_il_9 B dX12_congruent_259 ?_
                                              refine mu_if_eq (tgt := 269) B dX12_congruent_261 (by decide) (fun c261 => ?_) (fun c261 => ?_)
                                              · try rw [mI_eq0 ⟨by omega, by omega⟩] at c261
                                                refine mu_il_14 B dX12_congruent_269 ?_
                                                refine mu_is_16 B dX12_congruent_271 (by decide) rfl ?_
                                                first | (exfalso; omega) | exact K273 _ _ _ _ (by unfold sp_tx sp_ta sp_tb; by_cases q1 : 4 ≤ t <;> by_cases q2 : t % 2 = 1 <;> by_cases q3 : t / 2 % 2 = 1 <;> simp only [q1, q2, q3, if_true, if_false] <;> omega) (by unfold sp_ty sp_ta sp_tb; by_cases q1 : 4 ≤ t <;> by_cases q2 : t % 2 = 1 <;> by_cases q3 : t / 2 % 2 = 1 <;> simp only [q1, q2, q3, if_true, if_false] <;> omega)
                                              · try rw [mI_eq0 ⟨by omega, by omega⟩] at c261
                                                refine mu_il_13 B dX12_congruent_264 ?_
                                                refine mu_goto (tgt := 271) B dX12_congruent_266 (by decide) ?_
                                                refine mu_is_16 B dX12_congruent_271 (by decide) rfl ?_
                                                first | (exfalso; omega) | exact K273 _ _ _ _ (by unfold sp_tx sp_ta sp_tb; by_cases q1 : 4 ≤ t <;> by_cases q2 : t % 2 = 1 <;> by_cases q3 : t / 2 % 2 = 1 <;> simp only [q1, q2, q3, if_true, if_false] <;> omega) (by unfold sp_ty sp_ta sp_tb; by_cases q1 : 4 ≤ t <;> by_cases q2 : t % 2 = 1 <;> by_cases q3 : t / 2 % 2 = 1 <;> simp only [q1, q2, q3, if_true, if_false] <;> omega)
                                            · try rw [mI_eq0 ⟨by omega, by omega⟩] at c247
                                              refine mu_il_14 B dX12_congruent_250 ?_
                                              refine mu_goto (tgt := 257) B dX12_congruent_252 (by decide) ?_
                                              refine mu_is_15 B dX12_congruent_257 (by decide) rfl ?_
                                              refine mu_il_9 B dX12_congruent_259 ?_
                                              refine mu_if_eq (tgt := 269) B dX12_congruent_261 (by decide) (fun c261 => ?_) (fun c261 => ?_)
                                              · try rw [mI_eq0 ⟨by omega, by omega⟩] at c261
                                                refine mu_il_14 B dX12_congruent_269 ?_
                                                refine mu_is_16 B dX12_congruent_271 (by decide) rfl ?_
                                                first | (exfalso; omega) | exact K273 _ _ _ _ (by unfold sp_tx sp_ta sp_tb; by_cases q1 : 4 ≤ t <;> by_cases q2 : t % 2 = 1 <;> by_cases q3 : t / 2 % 2 = 1 <;> simp only [q1, q2, q3, if_true, if_false] <;> omega) (by unfold sp_ty sp_ta sp_tb; by_cases q1 : 4 ≤ t <;> by_cases q2 : t % 2 = 1 <;> by_cases q3 : t / 2 % 2 = 1 <;> simp only [q1, q2, q3, if_true, if_false] <;> omega)
                                              · try rw [mI_eq0 ⟨by omega, by omega⟩] at c261
                                                refine mu_il_13 B dX12_congruent_264 ?_
                                                refine mu_goto (tgt := 271) B dX12_congruent_266 (by decide) ?_
                                                refine mu_is_16 B dX12_congruent_271 (by decide) rfl ?_
                                                first | (exfalso; omega) | exact K273 _ _ _ _ (by unfold sp_tx sp_ta sp_tb; by_cases q1 : 4 ≤ t <;> by_cases q2 : t % 2 = 1 <;> by_cases q3 : t / 2 % 2 = 1 <;> simp only [q1, q2, q3, if_true, if_false] <;> omega) (by unfold sp_ty sp_ta sp_tb; by_cases q1 : 4 ≤ t <;> by_cases q2 : t % 2 = 1 <;> by_cases q3 : t / 2 % 2 = 1 <;> simp only [q1, q2, q3, if_true, if_false] <;> omega)
                                          · rw [cg_2 t ht] at c230
                                            refine mu_il_6 B dX12_congruent_233 ?_
                                            refine mu_il_11 B dX12_congruent_235 ?_
                                            refine mu_isub B dX12_congruent_237 ?_
                                            try rw [mI_sub]
                                            refine mu_goto (tgt := 243) B dX12_congruent_238 (by decide) ?_
                                            refine mu_is_14 B dX12_congruent_243 (by decide) rfl ?_
                                            refine mu_il_9 B dX12_congruent_245 ?_
                                            refine mu_if_eq (tgt := 255) B dX12_congruent_247 (by decide) (fun c247 => ?_) (fun c247 => ?_)
                                            · try rw [mI_eq0 ⟨by omega, by omega⟩] at c247
                                              refine mu_il_13 B dX12_congruent_255 ?_
                                              refine mu_is_15 B dX12_congruent_257 (by decide) rfl ?_
                                              refine mu_il_9 B dX12_congruent_259 ?_
                                              refine mu_if_eq (tgt := 269) B dX12_congruent_261 (by decide) (fun c261 => ?_) (fun c261 => ?_)
                                              · try rw [mI_eq0 ⟨by omega, by omega⟩] at c261
                                                refine mu_il_14 B dX12_congruent_269 ?_
                                                refine mu_is_16 B dX12_congruent_271 (by decide) rfl ?_
                                                first | (exfalso; omega) | exact K273 _ _ _ _ (by unfold sp_tx sp_ta sp_tb; by_cases q1 : 4 ≤ t <;> by_cases q2 : t % 2 = 1 <;> by_cases q3 : t / 2 % 2 = 1 <;> simp only [q1, q2, q3, if_true, if_false] <;> omega) (by unfold sp_ty sp_ta sp_tb; by_cases q1 : 4 ≤ t <;> by_cases q2 : t % 2 = 1 <;> by_cases q3 : t / 2 % 2 = 1 <;> simp only [q1, q2, q3, if_true, if_false] <;> omega)
                                              · try rw [mI_eq0 ⟨by omega, by omega⟩] at c261
                                                refine mu_il_13 B dX12_congruent_264 ?_
                                                refine mu_goto (tgt := 271) B dX12_congruent_266 (by decide) ?_
                                                refine mu_is_16 B dX12_congruent_271 (by decide) rfl ?_
                                                first | (exfalso; omega) | exact K273 _ _ _ _ (by unfold sp_tx sp_ta sp_tb; by_cases q1 : 4 ≤ t <;> by_cases q2 : t % 2 = 1 <;> by_cases q3 : t / 2 % 2 = 1 <;> simp only [q1, q2, q3, if_true, if_false] <;> omega) (by unfold sp_ty sp_ta sp_tb; by_cases q1 : 4 ≤ t <;> by_cases q2 : t % 2 = 1 <;> by_cases q3 : t / 2 % 2 = 1 <;> simp only [q1, q2, q3, if_true, if_false] <;> omega)
                                            · try rw [mI_eq0 ⟨by omega, by omega⟩] at c247
                                              refine mu_il_14 B dX12_congruent_250 ?_
                                              refine mu_goto (tgt := 257) B dX12_congruent_252 (by decide) ?_
                                              refine mu_is_15 B dX12_congruent_257 (by decide) rfl ?_
                                              refine mu_il_9 B dX12_congruent_259 ?_
                                              refine mu_if_eq (tgt := 269) B dX12_congruent_261 (by decide) (fun c261 => ?_) (fun c261 => ?_)
                                              · try rw [mI_eq0 ⟨by omega, by omega⟩] at c261
                                                refine mu_il_14 B dX12_congruent_269 ?_
                                                refine mu_is_16 B dX12_congruent_271 (by decide) rfl ?_
                                                first | (exfalso; omega) | exact K273 _ _ _ _ (by unfold sp_tx sp_ta sp_tb; by_cases q1 : 4 ≤ t <;> by_cases q2 : t % 2 = 1 <;> by_cases q3 : t / 2 % 2 = 1 <;> simp only [q1, q2, q3, if_true, if_false] <;> omega) (by unfold sp_ty sp_ta sp_tb; by_cases q1 : 4 ≤ t <;> by_cases q2 : t % 2 = 1 <;> by_cases q3 : t / 2 % 2 = 1 <;> simp only [q1, q2, q3, if_true, if_false] <;> omega)
                                              · try rw [mI_eq0 ⟨by omega, by omega⟩] at c261
                                                refine mu_il_13 B dX12_congruent_264 ?_
                                                refine mu_goto (tgt := 271) B dX12_congruent_266 (by decide) ?_
                                                refine mu_is_16 B dX12_congruent_271 (by decide) rfl ?_
                                                first | (exfalso; omega) | exact K273 _ _ _ _ (by unfold sp_tx sp_ta sp_tb; by_cases q1 : 4 ≤ t <;> by_cases q2 : t % 2 = 1 <;> by_cases q3 : t / 2 % 2 = 1 <;> simp only [q1, q2, q3, if_true, if_false] <;> omega) (by unfold sp_ty sp_ta sp_tb; by_cases q1 : 4 ≤ t <;> by_cases q2 : t % 2 = 1 <;> by_cases q3 : t / 2 % 2 = 1 <;> simp only [q1, q2, q3, if_true, if_false] <;> omega)
                                  exact mu_fg (LX 0 1 (by omega) (Or.inl ⟨rfl, fun i j h1 h2 => hpre i j h1 (by omega)⟩)) rfl (⟨Or.inl rfl, Or.inl rfl, Or.inl rfl, Or.inl rfl, Or.inl rfl, Or.inl rfl, Or.inl rfl, Or.inl rfl, Or.inl rfl, Or.inl rfl, Or.inl rfl, Or.inl rfl, Or.inl rfl, Or.inr rfl, Or.inr rfl, Or.inr rfl, Or.inr rfl, trivial⟩)
                            exact LY 0 1 (by omega) (Or.inl ⟨rfl, fun i j h1 h2 => absurd h2 (Nat.not_lt_zero j)⟩)
                      · try rw [mI_eq ⟨by omega, by omega⟩ ⟨by omega, by omega⟩] at c168
                        refine mu_goto (tgt := 355) B dX12_congruent_171 (by decide) ?_
                        first | (exfalso; omega) | exact KN (fun hh9 => by have h91 := hh9.1; have h92 := hh9.2.1; by_cases q1 : 4 ≤ t <;> simp only [q1, if_true, if_false] at h91 h92 <;> omega) _ _ _ _ _ _ _ _
                    · try rw [mI_eq0 ⟨by omega, by omega⟩] at c158
                      refine mu_il_5 B dX12_congruent_161 ?_
                      refine mu_goto (tgt := 168) B dX12_congruent_163 (by decide) ?_
                      refine mu_icmp_eq (tgt := 174) B dX12_congruent_168 (by decide) (fun c168 => ?_) (fun c168 => ?_)
                      · try rw [mI_eq ⟨by omega, by omega⟩ ⟨by omega, by omega⟩] at c168
                        refine mu_iconst (v := mI 1) B dX12_congruent_174 rfl ?_
                        refine mu_is_10 B dX12_congruent_175 (by decide) rfl ?_
                        refine mu_iconst (v := mI 0) B dX12_congruent_177 rfl ?_
                        refine mu_is_11 B dX12_congruent_178 (by decide) rfl ?_
                        first
                          | (exfalso; omega)
                          | have hw : R' - L' = (if 4 ≤ t then D - U else R - L) := by by_cases q1 : 4 ≤ t <;> simp only [q1, if_true, if_false] <;> omega
                            have hh : D' - U' = (if 4 ≤ t then R - L else D - U) := by by_cases q1 : 4 ≤ t <;> simp only [q1, if_true, if_false] <;> omega
                            have LY : ∀ y (s : Int), y ≤ hgt + 1 → ((s = 1 ∧ ∀ i j : Nat, (i : Int) ≤ R - L → j < y → fs_c (fs f) (L.toNat + i) (U.toNat + j) = fs_c (fs g) (L' + sp_tx (R - L) (D - U) t i j).toNat (U' + sp_ty (R - L) (D - U) t i j).toNat) ∨ (s = 0 ∧ ∃ i j : Nat, (i : Int) ≤ R - L ∧ (j : Int) ≤ D - U ∧ ¬ (fs_c (fs f) (L.toNat + i) (U.toNat + j) = fs_c (fs g) (L' + sp_tx (R - L) (D - U) t i j).toNat (U' + sp_ty (R - L) (D - U) t i j).toNat))) → mu_WA X G 17 (mu_Q X G M_X12_congruent (cg_post w m nf fs (f : Int) (g : Int))) w2 0 0 180 [.ref m, .int (mI f), .int (mI g), .int (mI L), .int (mI U), .int (mI (R - L)), .int (mI (D - U)), .int (mI (M : Int)), .int (mI t), .int (mI ac), .int (mI s), .int (mI y), mu_no, mu_no, mu_no, mu_no, mu_no] [] := by
                              refine mu_ind (hgt + 1) (fun y (s : Int) => mu_WA X G 17 (mu_Q X G M_X12_congruent (cg_post w m nf fs (f : Int) (g : Int))) w2 0 0 180 [.ref m, .int (mI f), .int (mI g), .int (mI L), .int (mI U), .int (mI (R - L)), .int (mI (D - U)), .int (mI (M : Int)), .int (mI t), .int (mI ac), .int (mI s), .int (mI y), mu_no, mu_no, mu_no, mu_no, mu_no] []) (fun y (s : Int) => (s = 1 ∧ ∀ i j : Nat, (i : Int) ≤ R - L → j < y → fs_c (fs f) (L.toNat + i) (U.toNat + j) = fs_c (fs g) (L' + sp_tx (R - L) (D - U) t i j).toNat (U' + sp_ty (R - L) (D - U) t i j).toNat) ∨ (s = 0 ∧ ∃ i j : Nat, (i : Int) ≤ R - L ∧ (j : Int) ≤ D - U ∧ ¬ (fs_c (fs f) (L.toNat + i) (U.toNat + j) = fs_c (fs g) (L' + sp_tx (R - L) (D - U) t i j).toNat (U' + sp_ty (R - L) (D - U) t i j).toNat))) ?_
                              intro y s hy hP ihy
                              have hs : s = 0 ∨ s = 1 := by rcases hP with h9 | h9 <;> omega
                              refine mu_il_11 B dX12_congruent_180 ?_
                              refine mu_il_6 B dX12_congruent_182 ?_
                              refine mu_icmp_gt (tgt := 348) B dX12_congruent_184 (by decide) (fun c184 => ?_) (fun c184 => ?_)
                              · try rw [mI_lt ⟨by omega, by omega⟩ ⟨by omega, by omega⟩] at c184
                                obtain rfl : y = hgt + 1 := by omega
                                refine mu_il_10 B dX12_congruent_348 ?_
                                refine mu_if_eq (tgt := 355) B dX12_congruent_350 (by decide) (fun c350 => ?_) (fun c350 => ?_)
                                · rw [mI_eq0 ⟨by omega, by omega⟩] at c350
                                  refine KN (fun hh9 => ?_) _ _ _ _ _ _ _ _
                                  rcases hP with h9 | ⟨-, i, j, h1, h2, h3⟩
                                  · omega
                                  · exact h3 (hh9.2.2 i j h1 h2)
                                · rw [mI_eq0 ⟨by omega, by omega⟩] at c350
                                  refine mu_iconst (v := mI 1) B dX12_congruent_353 rfl ?_
                                  refine mu_iret E rfl (by decide) (by decide) dX12_congruent_354 ?_
                                  refine hyes t ht ⟨hw, hh, fun i j h1 h2 => ?_⟩
                                  rcases hP with h9 | h9
                                  · first | exact h9.2 i j h1 (by omega) | (exfalso; omega)
                                  · omega
                              · try rw [mI_lt ⟨by omega, by omega⟩ ⟨by omega, by omega⟩] at c184
                                refine mu_il_10 B dX12_congruent_187 ?_
                                refine mu_if_eq (tgt := 348) B dX12_congruent_189 (by decide) (fun c189 => ?_) (fun c189 => ?_)
                                · try rw [mI_eq0 ⟨by omega, by omega⟩] at c189
                                  refine mu_il_10 B dX12_congruent_348 ?_
                                  refine mu_if_eq (tgt := 355) B dX12_congruent_350 (by decide) (fun c350 => ?_) (fun c350 => ?_)
                                  · rw [mI_eq0 ⟨by omega, by omega⟩] at c350
                                    refine KN (fun hh9 => ?_) _ _ _ _ _ _ _ _
                                    rcases hP with h9 | ⟨-, i, j, h1, h2, h3⟩
                                    · omega
                                    · exact h3 (hh9.2.2 i j h1 h2)
                                  · rw [mI_eq0 ⟨by omega, by omega⟩] at c350
                                    refine mu_iconst (v := mI 1) B dX12_congruent_353 rfl ?_
                                    refine mu_iret E rfl (by decide) (by decide) dX12_congruent_354 ?_
                                    refine hyes t ht ⟨hw, hh, fun i j h1 h2 => ?_⟩
                                    rcases hP with h9 | h9
                                    · first | exact h9.2 i j h1 (by omega) | (exfalso; omega)
                                    · omega
                                · try rw [mI_eq0 ⟨by omega, by omega⟩] at c189
                                  obtain ⟨rfl, hpre⟩ : s = 1 ∧ ∀ i j : Nat, (i : Int) ≤ R - L → j < y → fs_c (fs f) (L.toNat + i) (U.toNat + j) = fs_c (fs g) (L' + sp_tx (R - L) (D - U) t i j).toNat (U' + sp_ty (R - L) (D - U) t i j).toNat := by
                                    rcases hP with h9 | h9
                                    · exact h9
                                    · exact absurd h9.1 (by omega)
                                  refine mu_iconst (v := mI 0) B dX12_congruent_192 rfl ?_
                                  refine mu_is_12 B dX12_congruent_193 (by decide) rfl ?_
                                  have LX : ∀ x (s : Int), x ≤ wd + 1 → ((s = 1 ∧ ∀ i j : Nat, (i : Int) ≤ R - L → (j < y ∨ (j = y ∧ i < x)) → fs_c (fs f) (L.toNat + i) (U.toNat + j) = fs_c (fs g) (L' + sp_tx (R - L) (D - U) t i j).toNat (U' + sp_ty (R - L) (D - U) t i j).toNat) ∨ (s = 0 ∧ ∃ i j : Nat, (i : Int) ≤ R - L ∧ (j : Int) ≤ D - U ∧ ¬ (fs_c (fs f) (L.toNat + i) (U.toNat + j) = fs_c (fs g) (L' + sp_tx (R - L) (D - U) t i j).toNat (U' + sp_ty (R - L) (D - U) t i j).toNat))) → mu_WA X G 17 (mu_Q X G M_X12_congruent (cg_post w m nf fs (f : Int) (g : Int))) w2 0 0 195 [.ref m, .int (mI f), .int (mI g), .int (mI L), .int (mI U), .int (mI (R - L)), .int (mI (D - U)), .int (mI (M : Int)), .int (mI t), .int (mI ac), .int (mI s), .int (mI y), .int (mI x), mu_no, mu_no, mu_no, mu_no] [] := by
                                    refine mu_ind (wd + 1) (fun x (s : Int) => mu_WA X G 17 (mu_Q X G M_X12_congruent (cg_post w m nf fs (f : Int) (g : Int))) w2 0 0 195 [.ref m, .int (mI f), .int (mI g), .int (mI L), .int (mI U), .int (mI (R - L)), .int (mI (D - U)), .int (mI (M : Int)), .int (mI t), .int (mI ac), .int (mI s), .int (mI y), .int (mI x), mu_no, mu_no, mu_no, mu_no] []) (fun x (s : Int) => (s = 1 ∧ ∀ i j : Nat, (i : Int) ≤ R - L → (j < y ∨ (j = y ∧ i < x)) → fs_c (fs f) (L.toNat + i) (U.toNat + j) = fs_c (fs g) (L' + sp_tx (R - L) (D - U) t i j).toNat (U' + sp_ty (R - L) (D - U) t i j).toNat) ∨ (s = 0 ∧ ∃ i j : Nat, (i : Int) ≤ R - L ∧ (j : Int) ≤ D - U ∧ ¬ (fs_c (fs f) (L.toNat + i) (U.toNat + j) = fs_c (fs g) (L' + sp_tx (R - L) (D - U) t i j).toNat (U' + sp_ty (R - L) (D - U) t i j).toNat))) ?_
                                    intro x s hx hP ih
                                    have hs : s = 0 ∨ s = 1 := by rcases hP with h9 | h9 <;> omega
                                    refine mu_il_12 B dX12_congruent_195 ?_
                                    refine mu_il_5 B dX12_congruent_197 ?_
                                    refine mu_icmp_gt (tgt := 342) B dX12_congruent_199 (by decide) (fun c199 => ?_) (fun c199 => ?_)
                                    · try rw [mI_lt ⟨by omega, by omega⟩ ⟨by omega, by omega⟩] at c199
                                      obtain rfl : x = wd + 1 := by omega
                                      refine mu_inc_11 (c := mI 1) B dX12_congruent_342 rfl (by decide) rfl ?_
                                      rw [mI_add]
                                      refine mu_goto (tgt := 180) B dX12_congruent_345 (by decide) ?_
                                      refine mu_fg (ihy s (by omega) ?_) rfl (by rw [show ((y + 1 : Nat) : Int) = (y : Int) + 1 by omega]; exact ⟨Or.inl rfl, Or.inl rfl, Or.inl rfl, Or.inl rfl, Or.inl rfl, Or.inl rfl, Or.inl rfl, Or.inl rfl, Or.inl rfl, Or.inl rfl, Or.inl rfl, Or.inl rfl, Or.inr rfl, Or.inr rfl, Or.inr rfl, Or.inr rfl, Or.inr rfl, trivial⟩)
                                      rcases hP with h9 | h9
                                      · first | (exfalso; omega) | exact Or.inl ⟨h9.1, fun i j h1 h2 => h9.2 i j h1 (by omega)⟩
                                      · exact Or.inr h9
                                    · try rw [mI_lt ⟨by omega, by omega⟩ ⟨by omega, by omega⟩] at c199
                                      refine mu_il_10 B dX12_congruent_202 ?_
                                      refine mu_if_eq (tgt := 342) B dX12_congruent_204 (by decide) (fun c204 => ?_) (fun c204 => ?_)
                                      · try rw [mI_eq0 ⟨by omega, by omega⟩] at c204
                                        refine mu_inc_11 (c := mI 1) B dX12_congruent_342 rfl (by decide) rfl ?_
                                        rw [mI_add]
                                        refine mu_goto (tgt := 180) B dX12_congruent_345 (by decide) ?_
                                        refine mu_fg (ihy s (by omega) ?_) rfl (by rw [show ((y + 1 : Nat) : Int) = (y : Int) + 1 by omega]; exact ⟨Or.inl rfl, Or.inl rfl, Or.inl rfl, Or.inl rfl, Or.inl rfl, Or.inl rfl, Or.inl rfl, Or.inl rfl, Or.inl rfl, Or.inl rfl, Or.inl rfl, Or.inl rfl, Or.inr rfl, Or.inr rfl, Or.inr rfl, Or.inr rfl, Or.inr rfl, trivial⟩)
                                        rcases hP with h9 | h9
                                        · first | (exfalso; omega) | exact Or.inl ⟨h9.1, fun i j h1 h2 => h9.2 i j h1 (by omega)⟩
                                        · exact Or.inr h9
                                      · try rw [mI_eq0 ⟨by omega, by omega⟩] at c204
                                        obtain ⟨rfl, hpre⟩ : s = 1 ∧ ∀ i j : Nat, (i : Int) ≤ R - L → (j < y ∨ (j = y ∧ i < x)) → fs_c (fs f) (L.toNat + i) (U.toNat + j) = fs_c (fs g) (L' + sp_tx (R - L) (D - U) t i j).toNat (U' + sp_ty (R - L) (D - U) t i j).toNat := by
                                          rcases hP with h9 | h9
                                          · exact h9
                                          · exact absurd h9.1 (by omega)
                                        have K273 : ∀ (gx gy : Int) (u13 u14 : Value), gx = sp_tx (R - L) (D - U) t x y → gy = sp_ty (R - L) (D - U) t x y → mu_WA X G 17 (mu_Q X G M_X12_congruent (cg_post w m nf fs (f : Int) (g : Int))) w2 0 0 273 [.ref m, .int (mI f), .int (mI g), .int (mI L), .int (mI U), .int (mI (R - L)), .int (mI (D - U)), .int (mI (M : Int)), .int (mI t), .int (mI ac), .int (mI 1), .int (mI y), .int (mI x), u13, u14, .int (mI gx), .int (mI gy)] [] := by
                                          intro gx gy u13 u14 hgx hgy
                                          have hgb : 0 ≤ gx ∧ gx ≤ R' - L' ∧ 0 ≤ gy ∧ gy ≤ D' - U' := by
                                            rw [hgx, hgy, hw, hh]
                                            unfold sp_tx sp_ty sp_ta sp_tb
                                            by_cases q1 : 4 ≤ t <;> by_cases q2 : t % 2 = 1 <;> by_cases q3 : t / 2 % 2 = 1 <;> simp only [q1, q2, q3, if_true, if_false] <;> omega
                                          refine mu_al_0 B dX12_congruent_273 ?_
                                          refine mu_getR B dX12_congruent_274 fX12_36 rfl (by assumption) (by assumption) ?_
                                          refine mu_ldc B kX12_45 dX12_congruent_277 ?_
                                          refine mu_il_1 B dX12_congruent_279 ?_
                                          refine mu_imul B dX12_congruent_280 ?_
                                          try rw [mI_mul]
                                          refine mu_sipush (v := mI 256) B dX12_congruent_281 (by decide) ?_
                                          refine mu_il_4 B dX12_congruent_284 ?_
                                          refine mu_il_11 B dX12_congruent_286 ?_
                                          refine mu_iadd B dX12_congruent_288 ?_
                                          try rw [mI_add]
                                          refine mu_imul B dX12_congruent_289 ?_
                                          try rw [mI_mul]
                                          refine mu_iadd B dX12_congruent_290 ?_
                                          try rw [mI_add]
                                          refine mu_il_3 B dX12_congruent_291 ?_
                                          refine mu_iadd B dX12_congruent_292 ?_
                                          try rw [mI_add]
                                          refine mu_il_12 B dX12_congruent_293 ?_
                                          refine mu_iadd B dX12_congruent_295 ?_
                                          try rw [mI_add]
                                          rw [show (65536 : Int) * (f : Int) + 256 * (U + (y : Int)) + L + (x : Int) = ((65536 * f + 256 * (U.toNat + y) + (L.toNat + x) : Nat) : Int) by omega]
                                          refine mu_bald B dX12_congruent_296 (by assumption) (mI_inN (by omega) (by decide)) ?_
                                          rw [mI_clampN (by omega), hBf2.2.2.2.1 (L.toNat + x) (U.toNat + y) (by omega) (by omega)]
                                          refine mu_al_0 B dX12_congruent_297 ?_
                                          refine mu_getR B dX12_congruent_298 fX12_36 rfl (by assumption) (by assumption) ?_
                                          refine mu_ldc B kX12_45 dX12_congruent_301 ?_
                                          refine mu_il_2 B dX12_congruent_303 ?_
                                          refine mu_imul B dX12_congruent_304 ?_
                                          try rw [mI_mul]
                                          refine mu_sipush (v := mI 256) B dX12_congruent_305 (by decide) ?_
                                          refine mu_al_0 B dX12_congruent_308 ?_
                                          refine mu_getI B dX12_congruent_309 fX12_195 rfl (by assumption) ?_
                                          rw [k21]
                                          refine mu_il_16 B dX12_congruent_312 ?_
                                          refine mu_iadd B dX12_congruent_314 ?_
                                          try rw [mI_add]
                                          refine mu_imul B dX12_congruent_315 ?_
                                          try rw [mI_mul]
                                          refine mu_iadd B dX12_congruent_316 ?_
                                          try rw [mI_add]
                                          refine mu_al_0 B dX12_congruent_317 ?_
                                          refine mu_getI B dX12_congruent_318 fX12_189 rfl (by assumption) ?_
                                          rw [k19]
                                          refine mu_iadd B dX12_congruent_321 ?_
                                          try rw [mI_add]
                                          refine mu_il_15 B dX12_congruent_322 ?_
                                          refine mu_iadd B dX12_congruent_324 ?_
                                          try rw [mI_add]
                                          rw [show (65536 : Int) * (g : Int) + 256 * (U' + gy) + L' + gx = ((65536 * g + 256 * (U' + gy).toNat + (L' + gx).toNat : Nat) : Int) by omega]
                                          refine mu_bald B dX12_congruent_325 (by assumption) (mI_inN (by omega) (by decide)) ?_
                                          rw [mI_clampN (by omega), hBg2.2.2.2.1 (L' + gx).toNat (U' + gy).toNat (by omega) (by omega)]
                                          have q1 := hBf.2.2.2.2 (L.toNat + x) (U.toNat + y)
                                          have q2 := hBg.2.2.2.2 (L' + gx).toNat (U' + gy).toNat
                                          refine mu_icmp_ne (tgt := 333) B dX12_congruent_326 (by decide) (fun c326 => ?_) (fun c326 => ?_)
                                          · try rw [mI_eq ⟨by omega, by omega⟩ ⟨by omega, by omega⟩] at c326
                                            refine mu_iconst (v := mI 0) B dX12_congruent_333 rfl ?_
                                            refine mu_is_10 B dX12_congruent_334 (by decide) rfl ?_
                                            refine mu_inc_12 (c := mI 1) B dX12_congruent_336 rfl (by decide) rfl ?_
                                            rw [mI_add]
                                            refine mu_goto (tgt := 195) B dX12_congruent_339 (by decide) ?_
                                            refine mu_fg (ih 0 (by omega) (Or.inr ⟨rfl, x, y, by omega, by omega, fun e9 => ?_⟩)) rfl (by rw [show ((x + 1 : Nat) : Int) = (x : Int) + 1 by omega]; exact ⟨Or.inl rfl, Or.inl rfl, Or.inl rfl, Or.inl rfl, Or.inl rfl, Or.inl rfl, Or.inl rfl, Or.inl rfl, Or.inl rfl, Or.inl rfl, Or.inl rfl, Or.inl rfl, Or.inl rfl, Or.inr rfl, Or.inr rfl, Or.inr rfl, Or.inr rfl, trivial⟩)
                                            rw [← hgx, ← hgy] at e9
                                            exact c326 (by omega)
                                          · try rw [mI_eq ⟨by omega, by omega⟩ ⟨by omega, by omega⟩] at c326
                                            refine mu_iconst (v := mI 1) B dX12_congruent_329 rfl ?_
                                            refine mu_goto (tgt := 334) B dX12_congruent_330 (by decide) ?_
                                            refine mu_is_10 B dX12_congruent_334 (by decide) rfl ?_
                                            refine mu_inc_12 (c := mI 1) B dX12_congruent_336 rfl (by decide) rfl ?_
                                            rw [mI_add]
                                            refine mu_goto (tgt := 195) B dX12_congruent_339 (by decide) ?_
                                            refine mu_fg (ih 1 (by omega) (Or.inl ⟨rfl, fun i j h1 h2 => ?_⟩)) rfl (by rw [show ((x + 1 : Nat) : Int) = (x : Int) + 1 by omega]; exact ⟨Or.inl rfl, Or.inl rfl, Or.inl rfl, Or.inl rfl, Or.inl rfl, Or.inl rfl, Or.inl rfl, Or.inl rfl, Or.inl rfl, Or.inl rfl, Or.inl rfl, Or.inl rfl, Or.inl rfl, Or.inr rfl, Or.inr rfl, Or.inr rfl, Or.inr rfl, trivial⟩)
                                            by_cases e9 : j = y ∧ i = x
                                            · rw [e9.1, e9.2, ← hgx, ← hgy]; omega
                                            · exact hpre i j h1 (by omega)
                                        refine mu_il_8 B dX12_congruent_207 ?_
                                        refine mu_iconst (v := mI 1) B dX12_congruent_209 rfl ?_
                                        refine mu_iand B dX12_congruent_210 ?_
                                        refine mu_if_eq (tgt := 222) B dX12_congruent_211 (by decide) (fun c211 => ?_) (fun c211 => ?_)
                                        · rw [cg_1 t ht] at c211
                                          refine mu_il_12 B dX12_congruent_222 ?_
                                          refine mu_is_13 B dX12_congruent_224 (by decide) rfl ?_
                                          refine mu_il_8 B dX12_congruent_226 ?_
                                          refine mu_iconst (v := mI 2) B dX12_congruent_228 rfl ?_
                                          refine mu_iand B dX12_congruent_229 ?_
                                          refine mu_if_eq (tgt := 241) B dX12_congruent_230 (by decide) (fun c230 => ?_) (fun c230 => ?_)
                                          · rw [cg_2 t ht] at c230
                                            refine mu_il_11 B dX12_congruent_241 ?_
                                            refine mu_is_14 B dX12_congruent_243 (by decide) rfl ?_
                                            refine mu_il_9 B dX12_congruent_245 ?_
                                            refine mu_if_eq (tgt := 255) B dX12_congruent_247 (by decide) (fun c247 => ?_) (fun c247 => ?_)
                                            · try rw [mI_eq0 ⟨by omega, by omega⟩] at c247
                                              refine mu_il_13 B dX12_congruent_255 ?_
                                              refine mu_is_15 B dX12_congruent_257 (by decide) rfl ?_
                                              refine mu_il_9 B dX12_congruent_259 ?_
                                              refine mu_if_eq (tgt := 269) B dX12_congruent_261 (by decide) (fun c261 => ?_) (fun c261 => ?_)
                                              · try rw [mI_eq0 ⟨by omega, by omega⟩] at c261
                                                refine mu_il_14 B dX12_congruent_269 ?_
                                                refine mu_is_16 B dX12_congruent_271 (by decide) rfl ?_
                                                first | (exfalso; omega) | exact K273 _ _ _ _ (by unfold sp_tx sp_ta sp_tb; by_cases q1 : 4 ≤ t <;> by_cases q2 : t % 2 = 1 <;> by_cases q3 : t / 2 % 2 = 1 <;> simp only [q1, q2, q3, if_true, if_false] <;> omega) (by unfold sp_ty sp_ta sp_tb; by_cases q1 : 4 ≤ t <;> by_cases q2 : t % 2 = 1 <;> by_cases q3 : t / 2 % 2 = 1 <;> simp only [q1, q2, q3, if_true, if_false] <;> omega)
                                              · try rw [mI_eq0 ⟨by omega, by omega⟩] at c261
                                                refine mu_il_13 B dX12_congruent_264 ?_
                                                refine mu_goto (tgt := 271) B dX12_congruent_266 (by decide) ?_
                                                refine mu_is_16 B dX12_congruent_271 (by decide) rfl ?_
                                                first | (exfalso; omega) | exact K273 _ _ _ _ (by unfold sp_tx sp_ta sp_tb; by_cases q1 : 4 ≤ t <;> by_cases q2 : t % 2 = 1 <;> by_cases q3 : t / 2 % 2 = 1 <;> simp only [q1, q2, q3, if_true, if_false] <;> omega) (by unfold sp_ty sp_ta sp_tb; by_cases q1 : 4 ≤ t <;> by_cases q2 : t % 2 = 1 <;> by_cases q3 : t / 2 % 2 = 1 <;> simp only [q1, q2, q3, if_true, if_false] <;> omega)
                                            · try rw [mI_eq0 ⟨by omega, by omega⟩] at c247
                                              refine mu_il_14 B dX12_congruent_250 ?_
                                              refine mu_goto (tgt := 257) B dX12_congruent_252 (by decide) ?_
                                              refine mu_is_15 B dX12_congruent_257 (by decide) rfl ?_
                                              refine mu_il_9 B dX12_congruent_259 ?_
                                              refine mu_if_eq (tgt := 269) B dX12_congruent_261 (by decide) (fun c261 => ?_) (fun c261 => ?_)
                                              · try rw [mI_eq0 ⟨by omega, by omega⟩] at c261
                                                refine mu_il_14 B dX12_congruent_269 ?_
                                                refine mu_is_16 B dX12_congruent_271 (by decide) rfl ?_
                                                first | (exfalso; omega) | exact K273 _ _ _ _ (by unfold sp_tx sp_ta sp_tb; by_cases q1 : 4 ≤ t <;> by_cases q2 : t % 2 = 1 <;> by_cases q3 : t / 2 % 2 = 1 <;> simp only [q1, q2, q3, if_true, if_false] <;> omega) (by unfold sp_ty sp_ta sp_tb; by_cases q1 : 4 ≤ t <;> by_cases q2 : t % 2 = 1 <;> by_cases q3 : t / 2 % 2 = 1 <;> simp only [q1, q2, q3, if_true, if_false] <;> omega)
                                              · try rw [mI_eq0 ⟨by omega, by omega⟩] at c261
                                                refine mu_il_13 B dX12_congruent_264 ?_
                                                refine mu_goto (tgt := 271) B dX12_congruent_266 (by decide) ?_
                                                refine mu_is_16 B dX12_congruent_271 (by decide) rfl ?_
                                                first | (exfalso; omega) | exact K273 _ _ _ _ (by unfold sp_tx sp_ta sp_tb; by_cases q1 : 4 ≤ t <;> by_cases q2 : t % 2 = 1 <;> by_cases q3 : t / 2 % 2 = 1 <;> simp only [q1, q2, q3, if_true, if_false] <;> omega) (by unfold sp_ty sp_ta sp_tb; by_cases q1 : 4 ≤ t <;> by_cases q2 : t % 2 = 1 <;> by_cases q3 : t / 2 % 2 = 1 <;> simp only [q1, q2, q3, if_true, if_false] <;> omega)
                                          · rw [cg_2 t ht] at c230
                                            refine mu_il_6 B dX12_congruent_233 ?_
                                            refine mu_il_11 B dX12_congruent_235 ?_
                                            refine mu_isub B dX12_congruent_237 ?_
                                            try rw [mI_sub]
                                            refine mu_goto (tgt := 243) B dX12_congruent_238 (by decide) ?_
                                            refine mu_is_14 B dX12_congruent_243 (by decide) rfl ?_
                                            refine mu_il_9 B dX12_congruent_245 ?_
                                            refine mu_if_eq (tgt := 255) B dX12_congruent_247 (by decide) (fun c247 => ?_) (fun c247 => ?_)
                                            · try rw [mI_eq0 ⟨by omega, by omega⟩] at c247
                                              refine mu_il_13 B dX12_congruent_255 ?_
                                              refine mu_is_15 B dX12_congruent_257 (by decide) rfl ?_
                                              refine mu_il_9 B dX12_congruent_259 ?_
                                              refine mu_if_eq (tgt := 269) B dX12_congruent_261 (by decide) (fun c261 => ?_) (fun c261 => ?_)
                                              · try rw [mI_eq0 ⟨by omega, by omega⟩] at c261
                                                refine mu_il_14 B dX12_congruent_269 ?_
                                                refine mu_is_16 B dX12_congruent_271 (by decide) rfl ?_
                                                first | (exfalso; omega) | exact K273 _ _ _ _ (by unfold sp_tx sp_ta sp_tb; by_cases q1 : 4 ≤ t <;> by_cases q2 : t % 2 = 1 <;> by_cases q3 : t / 2 % 2 = 1 <;> simp only [q1, q2, q3, if_true, if_false] <;> omega) (by unfold sp_ty sp_ta sp_tb; by_cases q1 : 4 ≤ t <;> by_cases q2 : t % 2 = 1 <;> by_cases q3 : t / 2 % 2 = 1 <;> simp only [q1, q2, q3, if_true, if_false] <;> omega)
                                              · try rw [mI_eq0 ⟨by omega, by omega⟩] at c261
                                                refine mu_il_13 B dX12_congruent_264 ?_
                                                refine mu_goto (tgt := 271) B dX12_congruent_266 (by decide) ?_
                                                refine mu_is_16 B dX12_congruent_271 (by decide) rfl ?_
                                                first | (exfalso; omega) | exact K273 _ _ _ _ (by unfold sp_tx sp_ta sp_tb; by_cases q1 : 4 ≤ t <;> by_cases q2 : t % 2 = 1 <;> by_cases q3 : t / 2 % 2 = 1 <;> simp only [q1, q2, q3, if_true, if_false] <;> omega) (by unfold sp_ty sp_ta sp_tb; by_cases q1 : 4 ≤ t <;> by_cases q2 : t % 2 = 1 <;> by_cases q3 : t / 2 % 2 = 1 <;> simp only [q1, q2, q3, if_true, if_false] <;> omega)
                                            · try rw [mI_eq0 ⟨by omega, by omega⟩] at c247
                                              refine mu_il_14 B dX12_congruent_250 ?_
                                              refine mu_goto (tgt := 257) B dX12_congruent_252 (by decide) ?_
                                              refine mu_is_15 B dX12_congruent_257 (by decide) rfl ?_
                                              refine mu_il_9 B dX12_congruent_259 ?_
                                              refine mu_if_eq (tgt := 269) B dX12_congruent_261 (by decide) (fun c261 => ?_) (fun c261 => ?_)
                                              · try rw [mI_eq0 ⟨by omega, by omega⟩] at c261
                                                refine mu_il_14 B dX12_congruent_269 ?_
                                                refine mu_is_16 B dX12_congruent_271 (by decide) rfl ?_
                                                first | (exfalso; omega) | exact K273 _ _ _ _ (by unfold sp_tx sp_ta sp_tb; by_cases q1 : 4 ≤ t <;> by_cases q2 : t % 2 = 1 <;> by_cases q3 : t / 2 % 2 = 1 <;> simp only [q1, q2, q3, if_true, if_false] <;> omega) (by unfold sp_ty sp_ta sp_tb; by_cases q1 : 4 ≤ t <;> by_cases q2 : t % 2 = 1 <;> by_cases q3 : t / 2 % 2 = 1 <;> simp only [q1, q2, q3, if_true, if_false] <;> omega)
                                              · try rw [mI_eq0 ⟨by omega, by omega⟩] at c261
                                                refine mu_il_13 B dX12_congruent_264 ?_
                                                refine mu_goto (tgt := 271) B dX12_congruent_266 (by decide) ?_
                                                refine mu_is_16 B dX12_congruent_271 (by decide) rfl ?_
                                                first | (exfalso; omega) | exact K273 _ _ _ _ (by unfold sp_tx sp_ta sp_tb; by_cases q1 : 4 ≤ t <;> by_cases q2 : t % 2 = 1 <;> by_cases q3 : t / 2 % 2 = 1 <;> simp only [q1, q2, q3, if_true, if_false] <;> omega) (by unfold sp_ty sp_ta sp_tb; by_cases q1 : 4 ≤ t <;> by_cases q2 : t % 2 = 1 <;> by_cases q3 : t / 2 % 2 = 1 <;> simp only [q1, q2, q3, if_true, if_false] <;> omega)
                                        · rw [cg_1 t ht] at c211
                                          refine mu_il_5 B dX12_congruent_214 ?_
                                          refine mu_il_12 B dX12_congruent_216 ?_
                                          refine mu_isub B dX12_congruent_218 ?_
                                          try rw [mI_sub]
                                          refine mu_goto (tgt := 224) B dX12_congruent_219 (by decide) ?_
                                          refine mu_is_13 B dX12_congruent_224 (by decide) rfl ?_
                                          refine mu_il_8 B dX12_congruent_226 ?_
                                          refine mu_iconst (v := mI 2) B dX12_congruent_228 rfl ?_
                                          refine mu_iand B dX12_congruent_229 ?_
                                          refine mu_if_eq (tgt := 241) B dX12_congruent_230 (by decide) (fun c230 => ?_) (fun c230 => ?_)
                                          · rw [cg_2 t ht] at c230
                                            refine mu_il_11 B dX12_congruent_241 ?_
                                            refine mu_is_14 B dX12_congruent_243 (by decide) rfl ?_
                                            refine mu_il_9 B dX12_congruent_245 ?_
                                            refine mu_if_eq (tgt := 255) B dX12_congruent_247 (by decide) (fun c247 => ?_) (fun c247 => ?_)
                                            · try rw [mI_eq0 ⟨by omega, by omega⟩] at c247
                                              refine mu_il_13 B dX12_congruent_255 ?_
                                              refine mu_is_15 B dX12_congruent_257 (by decide) rfl ?_
                                              refine mu_il_9 B dX12_congruent_259 ?_
                                              refine mu_if_eq (tgt := 269) B dX12_congruent_261 (by decide) (fun c261 => ?_) (fun c261 => ?_)
                                              · try rw [mI_eq0 ⟨by omega, by omega⟩] at c261
                                                refine mu_il_14 B dX12_congruent_269 ?_
                                                refine mu_is_16 B dX12_congruent_271 (by decide) rfl ?_
                                                first | (exfalso; omega) | exact K273 _ _ _ _ (by unfold sp_tx sp_ta sp_tb; by_cases q1 : 4 ≤ t <;> by_cases q2 : t % 2 = 1 <;> by_cases q3 : t / 2 % 2 = 1 <;> simp only [q1, q2, q3, if_true, if_false] <;> omega) (by unfold sp_ty sp_ta sp_tb; by_cases q1 : 4 ≤ t <;> by_cases q2 : t % 2 = 1 <;> by_cases q3 : t / 2 % 2 = 1 <;> simp only [q1, q2, q3, if_true, if_false] <;> omega)
                                              · try rw [mI_eq0 ⟨by omega, by omega⟩] at c261
                                                refine mu_il_13 B dX12_congruent_264 ?_
                                                refine mu_goto (tgt := 271) B dX12_congruent_266 (by decide) ?_
                                                refine mu_is_16 B dX12_congruent_271 (by decide) rfl ?_
                                                first | (exfalso; omega) | exact K273 _ _ _ _ (by unfold sp_tx sp_ta sp_tb; by_cases q1 : 4 ≤ t <;> by_cases q2 : t % 2 = 1 <;> by_cases q3 : t / 2 % 2 = 1 <;> simp only [q1, q2, q3, if_true, if_false] <;> omega) (by unfold sp_ty sp_ta sp_tb; by_cases q1 : 4 ≤ t <;> by_cases q2 : t % 2 = 1 <;> by_cases q3 : t / 2 % 2 = 1 <;> simp only [q1, q2, q3, if_true, if_false] <;> omega)
                                            · try rw [mI_eq0 ⟨by omega, by omega⟩] at c247
                                              refine mu_il_14 B dX12_congruent_250 ?_
                                              refine mu_goto (tgt := 257) B dX12_congruent_252 (by decide) ?_
                                              refine mu_is_15 B dX12_congruent_257 (by decide) rfl ?_
                                              refine mu_il_9 B dX12_congruent_259 ?_
                                              refine mu_if_eq (tgt := 269) B dX12_congruent_261 (by decide) (fun c261 => ?_) (fun c261 => ?_)
                                              · try rw [mI_eq0 ⟨by omega, by omega⟩] at c261
                                                refine mu_il_14 B dX12_congruent_269 ?_
                                                refine mu_is_16 B dX12_congruent_271 (by decide) rfl ?_
                                                first | (exfalso; omega) | exact K273 _ _ _ _ (by unfold sp_tx sp_ta sp_tb; by_cases q1 : 4 ≤ t <;> by_cases q2 : t % 2 = 1 <;> by_cases q3 : t / 2 % 2 = 1 <;> simp only [q1, q2, q3, if_true, if_false] <;> omega) (by unfold sp_ty sp_ta sp_tb; by_cases q1 : 4 ≤ t <;> by_cases q2 : t % 2 = 1 <;> by_cases q3 : t / 2 % 2 = 1 <;> simp only [q1, q2, q3, if_true, if_false] <;> omega)
                                              · try rw [mI_eq0 ⟨by omega, by omega⟩] at c261
                                                refine mu_il_13 B dX12_congruent_264 ?_
                                                refine mu_goto (tgt := 271) B dX12_congruent_266 (by decide) ?_
                                                refine mu_is_16 B dX12_congruent_271 (by decide) rfl ?_
                                                first | (exfalso; omega) | exact K273 _ _ _ _ (by unfold sp_tx sp_ta sp_tb; by_cases q1 : 4 ≤ t <;> by_cases q2 : t % 2 = 1 <;> by_cases q3 : t / 2 % 2 = 1 <;> simp only [q1, q2, q3, if_true, if_false] <;> omega) (by unfold sp_ty sp_ta sp_tb; by_cases q1 : 4 ≤ t <;> by_cases q2 : t % 2 = 1 <;> by_cases q3 : t / 2 % 2 = 1 <;> simp only [q1, q2, q3, if_true, if_false] <;> omega)
                                          · rw [cg_2 t ht] at c230
                                            refine mu_il_6 B dX12_congruent_233 ?_
                                            refine mu_il_11 B dX12_congruent_235 ?_
                                            refine mu_isub B dX12_congruent_237 ?_
                                            try rw [mI_sub]
                                            refine mu_goto (tgt := 243) B dX12_congruent_238 (by decide) ?_
                                            refine mu_is_14 B dX12_congruent_243 (by decide) rfl ?_
                                            refine mu_il_9 B dX12_congruent_245 ?_
                                            refine mu_if_eq (tgt := 255) B dX12_congruent_247 (by decide) (fun c247 => ?_) (fun c247 => ?_)
                                            · try rw [mI_eq0 ⟨by omega, by omega⟩] at c247
                                              refine mu_il_13 B dX12_congruent_255 ?_
                                              refine mu_is_15 B dX12_congruent_257 (by decide) rfl ?_
                                              refine mu_il_9 B dX12_congruent_259 ?_
                                              refine mu_if_eq (tgt := 269) B dX12_congruent_261 (by decide) (fun c261 => ?_) (fun c261 => ?_)
                                              · try rw [mI_eq0 ⟨by omega, by omega⟩] at c261
                                                refine mu_il_14 B dX12_congruent_269 ?_
                                                refine mu_is_16 B dX12_congruent_271 (by decide) rfl ?_
                                                first | (exfalso; omega) | exact K273 _ _ _ _ (by unfold sp_tx sp_ta sp_tb; by_cases q1 : 4 ≤ t <;> by_cases q2 : t % 2 = 1 <;> by_cases q3 : t / 2 % 2 = 1 <;> simp only [q1, q2, q3, if_true, if_false] <;> omega) (by unfold sp_ty sp_ta sp_tb; by_cases q1 : 4 ≤ t <;> by_cases q2 : t % 2 = 1 <;> by_cases q3 : t / 2 % 2 = 1 <;> simp only [q1, q2, q3, if_true, if_false] <;> omega)
                                              · try rw [mI_eq0 ⟨by omega, by omega⟩] at c261
                                                refine mu_il_13 B dX12_congruent_264 ?_
                                                refine mu_goto (tgt := 271) B dX12_congruent_266 (by decide) ?_
                                                refine mu_is_16 B dX12_congruent_271 (by decide) rfl ?_
                                                first | (exfalso; omega) | exact K273 _ _ _ _ (by unfold sp_tx sp_ta sp_tb; by_cases q1 : 4 ≤ t <;> by_cases q2 : t % 2 = 1 <;> by_cases q3 : t / 2 % 2 = 1 <;> simp only [q1, q2, q3, if_true, if_false] <;> omega) (by unfold sp_ty sp_ta sp_tb; by_cases q1 : 4 ≤ t <;> by_cases q2 : t % 2 = 1 <;> by_cases q3 : t / 2 % 2 = 1 <;> simp only [q1, q2, q3, if_true, if_false] <;> omega)
                                            · try rw [mI_eq0 ⟨by omega, by omega⟩] at c247
                                              refine mu_il_14 B dX12_congruent_250 ?_
                                              refine mu_goto (tgt := 257) B dX12_congruent_252 (by decide) ?_
                                              refine mu_is_15 B dX12_congruent_257 (by decide) rfl ?_
                                              refine mu_il_9 B dX12_congruent_259 ?_
                                              refine mu_if_eq (tgt := 269) B dX12_congruent_261 (by decide) (fun c261 => ?_) (fun c261 => ?_)
                                              · try rw [mI_eq0 ⟨by omega, by omega⟩] at c261
                                                refine mu_il_14 B dX12_congruent_269 ?_
                                                refine mu_is_16 B dX12_congruent_271 (by decide) rfl ?_
                                                first | (exfalso; omega) | exact K273 _ _ _ _ (by unfold sp_tx sp_ta sp_tb; by_cases q1 : 4 ≤ t <;> by_cases q2 : t % 2 = 1 <;> by_cases q3 : t / 2 % 2 = 1 <;> simp only [q1, q2, q3, if_true, if_false] <;> omega) (by unfold sp_ty sp_ta sp_tb; by_cases q1 : 4 ≤ t <;> by_cases q2 : t % 2 = 1 <;> by_cases q3 : t / 2 % 2 = 1 <;> simp only [q1, q2, q3, if_true, if_false] <;> omega)
                                              · try rw [mI_eq0 ⟨by omega, by omega⟩] at c261
                                                refine mu_il_13 B dX12_congruent_264 ?_
                                                refine mu_goto (tgt := 271) B dX12_congruent_266 (by decide) ?_
                                                refine mu_is_16 B dX12_congruent_271 (by decide) rfl ?_
                                                first | (exfalso; omega) | exact K273 _ _ _ _ (by unfold sp_tx sp_ta sp_tb; by_cases q1 : 4 ≤ t <;> by_cases q2 : t % 2 = 1 <;> by_cases q3 : t / 2 % 2 = 1 <;> simp only [q1, q2, q3, if_true, if_false] <;> omega) (by unfold sp_ty sp_ta sp_tb; by_cases q1 : 4 ≤ t <;> by_cases q2 : t % 2 = 1 <;> by_cases q3 : t / 2 % 2 = 1 <;> simp only [q1, q2, q3, if_true, if_false] <;> omega)
                                  exact mu_fg (LX 0 1 (by omega) (Or.inl ⟨rfl, fun i j h1 h2 => hpre i j h1 (by omega)⟩)) rfl (⟨Or.inl rfl, Or.inl rfl, Or.inl rfl, Or.inl rfl, Or.inl rfl, Or.inl rfl, Or.inl rfl, Or.inl rfl, Or.inl rfl, Or.inl rfl, Or.inl rfl, Or.inl rfl, Or.inl rfl, Or.inr rfl, Or.inr rfl, Or.inr rfl, Or.inr rfl, trivial⟩)
                            exact LY 0 1 (by omega) (Or.inl ⟨rfl, fun i j h1 h2 => absurd h2 (Nat.not_lt_zero j)⟩)
                      · try rw [mI_eq ⟨by omega, by omega⟩ ⟨by omega, by omega⟩] at c168
                        refine mu_goto (tgt := 355) B dX12_congruent_171 (by decide) ?_
                        first | (exfalso; omega) | exact KN (fun hh9 => by have h91 := hh9.1; have h92 := hh9.2.1; by_cases q1 : 4 ≤ t <;> simp only [q1, if_true, if_false] at h91 h92 <;> omega) _ _ _ _ _ _ _ _
                · try rw [mI_eq0 ⟨by omega, by omega⟩] at c134
                  refine mu_il_6 B dX12_congruent_137 ?_
                  refine mu_goto (tgt := 144) B dX12_congruent_139 (by decide) ?_
                  refine mu_icmp_ne (tgt := 355) B dX12_congruent_144 (by decide) (fun c144 => ?_) (fun c144 => ?_)
                  · try rw [mI_eq ⟨by omega, by omega⟩ ⟨by omega, by omega⟩] at c144
                    first | (exfalso; omega) | exact KN (fun hh9 => by have h91 := hh9.1; have h92 := hh9.2.1; by_cases q1 : 4 ≤ t <;> simp only [q1, if_true, if_false] at h91 h92 <;> omega) _ _ _ _ _ _ _ _
                  · try rw [mI_eq ⟨by omega, by omega⟩ ⟨by omega, by omega⟩] at c144
                    refine mu_al_0 B dX12_congruent_147 ?_
                    refine mu_getI B dX12_congruent_148 fX12_198 rfl (by assumption) ?_
                    rw [k22]
                    refine mu_al_0 B dX12_congruent_151 ?_
                    refine mu_getI B dX12_congruent_152 fX12_195 rfl (by assumption) ?_
                    rw [k21]
                    refine mu_isub B dX12_congruent_155 ?_
                    try rw [mI_sub]
                    refine mu_il_9 B dX12_congruent_156 ?_
                    refine mu_if_eq (tgt := 166) B dX12_congruent_158 (by decide) (fun c158 => ?_) (fun c158 => ?_)
                    · try rw [mI_eq0 ⟨by omega, by omega⟩] at c158
                      refine mu_il_6 B dX12_congruent_166 ?_
                      refine mu_icmp_eq (tgt := 174) B dX12_congruent_168 (by decide) (fun c168 => ?_) (fun c168 => ?_)
                      · try rw [mI_eq ⟨by omega, by omega⟩ ⟨by omega, by omega⟩] at c168
                        refine mu_iconst (v := mI 1) B dX12_congruent_174 rfl ?_
                        refine mu_is_10 B dX12_congruent_175 (by decide) rfl ?_
                        refine mu_iconst (v := mI 0) B dX12_congruent_177 rfl ?_
                        refine mu_is_11 B dX12_congruent_178 (by decide) rfl ?_
                        first
                          | (exfalso; omega)
                          | have hw : R' - L' = (if 4 ≤ t then D - U else R - L) := by by_cases q1 : 4 ≤ t <;> simp only [q1, if_true, if_false] <;> omega
                            have hh : D' - U' = (if 4 ≤ t then R - L else D - U) := by by_cases q1 : 4 ≤ t <;> simp only [q1, if_true, if_false] <;> omega
                            have LY : ∀ y (s : Int), y ≤ hgt + 1 → ((s = 1 ∧ ∀ i j : Nat, (i : Int) ≤ R - L → j < y → fs_c (fs f) (L.toNat + i) (U.toNat + j) = fs_c (fs g) (L' + sp_tx (R - L) (D - U) t i j).toNat (U' + sp_ty (R - L) (D - U) t i j).toNat) ∨ (s = 0 ∧ ∃ i j : Nat, (i : Int) ≤ R - L ∧ (j : Int) ≤ D - U ∧ ¬ (fs_c (fs f) (L.toNat + i) (U.toNat + j) = fs_c (fs g) (L' + sp_tx (R - L) (D - U) t i j).toNat (U' + sp_ty (R - L) (D - U) t i j).toNat))) → mu_WA X G 17 (mu_Q X G M_X12_congruent (cg_post w m nf fs (f : Int) (g : Int))) w2 0 0 180 [.ref m, .int (mI f), .int (mI g), .int (mI L), .int (mI U), .int (mI (R - L)), .int (mI (D - U)), .int (mI (M : Int)), .int (mI t), .int (mI ac), .int (mI s), .int (mI y), mu_no, mu_no, mu_no, mu_no, mu_no] [] := by
                              refine mu_ind (hgt + 1) (fun y (s : Int) => mu_WA X G 17 (mu_Q X G M_X12_congruent (cg_post w m nf fs (f : Int) (g : Int))) w2 0 0 180 [.ref m, .int (mI f), .int (mI g), .int (mI L), .int (mI U), .int (mI (R - L)), .int (mI (D - U)), .int (mI (M : Int)), .int (mI t), .int (mI ac), .int (mI s), .int (mI y), mu_no, mu_no, mu_no, mu_no, mu_no] []) (fun y (s : Int) => (s = 1 ∧ ∀ i j : Nat, (i : Int) ≤ R - L → j < y → fs_c (fs f) (L.toNat + i) (U.toNat + j) = fs_c (fs g) (L' + sp_tx (R - L) (D - U) t i j).toNat (U' + sp_ty (R - L) (D - U) t i j).toNat) ∨ (s = 0 ∧ ∃ i j : Nat, (i : Int) ≤ R - L ∧ (j : Int) ≤ D - U ∧ ¬ (fs_c (fs f) (L.toNat + i) (U.toNat + j) = fs_c (fs g) (L' + sp_tx (R - L) (D - U) t i j).toNat (U' + sp_ty (R - L) (D - U) t i j).toNat))) ?_
                              intro y s hy hP ihy
                              have hs : s = 0 ∨ s = 1 := by rcases hP with h9 | h9 <;> omega
                              refine mu_il_11 B dX12_congruent_180 ?_
                              refine mu_il_6 B dX12_congruent_182 ?_
                              refine mu_icmp_gt (tgt := 348) B dX12_congruent_184 (by decide) (fun c184 => ?_) (fun c184 => ?_)
                              · try rw [mI_lt ⟨by omega, by omega⟩ ⟨by omega, by omega⟩] at c184
                                obtain rfl : y = hgt + 1 := by omega
                                refine mu_il_10 B dX12_congruent_348 ?_
                                refine mu_if_eq (tgt := 355) B dX12_congruent_350 (by decide) (fun c350 => ?_) (fun c350 => ?_)
                                · rw [mI_eq0 ⟨by omega, by omega⟩] at c350
                                  refine KN (fun hh9 => ?_) _ _ _ _ _ _ _ _
                                  rcases hP with h9 | ⟨-, i, j, h1, h2, h3⟩
                                  · omega
                                  · exact h3 (hh9.2.2 i j h1 h2)
                                · rw [mI_eq0 ⟨by omega, by omega⟩] at c350
                                  refine mu_iconst (v := mI 1) B dX12_congruent_353 rfl ?_
                                  refine mu_iret E rfl (by decide) (by decide) dX12_congruent_354 ?_
                                  refine hyes t ht ⟨hw, hh, fun i j h1 h2 => ?_⟩
                                  rcases hP with h9 | h9
                                  · first | exact h9.2 i j h1 (by omega) | (exfalso; omega)
                                  · omega
                              · try rw [mI_lt ⟨by omega, by omega⟩ ⟨by omega, by omega⟩] at c184
                                refine mu_il_10 B dX12_congruent_187 ?_
                                refine mu_if_eq (tgt := 348) B dX12_congruent_189 (by decide) (fun c189 => ?_) (fun c189 => ?_)
                                · try rw [mI_eq0 ⟨by omega, by omega⟩] at c189
                                  refine mu_il_10 B dX12_congruent_348 ?_
                                  refine mu_if_eq (tgt := 355) B dX12_congruent_350 (by decide) (fun c350 => ?_) (fun c350 => ?_)
                                  · rw [mI_eq0 ⟨by omega, by omega⟩] at c350
                                    refine KN (fun hh9 => ?_) _ _ _ _ _ _ _ _
                                    rcases hP with h9 | ⟨-, i, j, h1, h2, h3⟩
                                    · omega
                                    · exact h3 (hh9.2.2 i j h1 h2)
                                  · rw [mI_eq0 ⟨by omega, by omega⟩] at c350
                                    refine mu_iconst (v := mI 1) B dX12_congruent_353 rfl ?_
                                    refine mu_iret E rfl (by decide) (by decide) dX12_congruent_354 ?_
                                    refine hyes t ht ⟨hw, hh, fun i j h1 h2 => ?_⟩
                                    rcases hP with h9 | h9
                                    · first | exact h9.2 i j h1 (by omega) | (exfalso; omega)
                                    · omega
                                · try rw [mI_eq0 ⟨by omega, by omega⟩] at c189
                                  obtain ⟨rfl, hpre⟩ : s = 1 ∧ ∀ i j : Nat, (i : Int) ≤ R - L → j < y → fs_c (fs f) (L.toNat + i) (U.toNat + j) = fs_c (fs g) (L' + sp_tx (R - L) (D - U) t i j).toNat (U' + sp_ty (R - L) (D - U) t i j).toNat := by
                                    rcases hP with h9 | h9
                                    · exact h9
                                    · exact absurd h9.1 (by omega)
                                  refine mu_iconst (v := mI 0) B dX12_congruent_192 rfl ?_
                                  refine mu_is_12 B dX12_congruent_193 (by decide) rfl ?_
                                  have LX : ∀ x (s : Int), x ≤ wd + 1 → ((s = 1 ∧ ∀ i j : Nat, (i : Int) ≤ R - L → (j < y ∨ (j = y ∧ i < x)) → fs_c (fs f) (L.toNat + i) (U.toNat + j) = fs_c (fs g) (L' + sp_tx (R - L) (D - U) t i j).toNat (U' + sp_ty (R - L) (D - U) t i j).toNat) ∨ (s = 0 ∧ ∃ i j : Nat, (i : Int) ≤ R - L ∧ (j : Int) ≤ D - U ∧ ¬ (fs_c (fs f) (L.toNat + i) (U.toNat + j) = fs_c (fs g) (L' + sp_tx (R - L) (D - U) t i j).toNat (U' + sp_ty (R - L) (D - U) t i j).toNat))) → mu_WA X G 17 (mu_Q X G M_X12_congruent (cg_post w m nf fs (f : Int) (g : Int))) w2 0 0 195 [.ref m, .int (mI f), .int (mI g), .int (mI L), .int (mI U), .int (mI (R - L)), .int (mI (D - U)), .int (mI (M : Int)), .int (mI t), .int (mI ac), .int (mI s), .int (mI y), .int (mI x), mu_no, mu_no, mu_no, mu_no] [] := by
                                    refine mu_ind (wd + 1) (fun x (s : Int) => mu_WA X G 17 (mu_Q X G M_X12_congruent (cg_post w m nf fs (f : Int) (g : Int))) w2 0 0 195 [.ref m, .int (mI f), .int (mI g), .int (mI L), .int (mI U), .int (mI (R - L)), .int (mI (D - U)), .int (mI (M : Int)), .int (mI t), .int (mI ac), .int (mI s), .int (mI y), .int (mI x), mu_no, mu_no, mu_no, mu_no] []) (fun x (s : Int) => (s = 1 ∧ ∀ i j : Nat, (i : Int) ≤ R - L → (j < y ∨ (j = y ∧ i < x)) → fs_c (fs f) (L.toNat + i) (U.toNat + j) = fs_c (fs g) (L' + sp_tx (R - L) (D - U) t i j).toNat (U' + sp_ty (R - L) (D - U) t i j).toNat) ∨ (s = 0 ∧ ∃ i j : Nat, (i : Int) ≤ R - L ∧ (j : Int) ≤ D - U ∧ ¬ (fs_c (fs f) (L.toNat + i) (U.toNat + j) = fs_c (fs g) (L' + sp_tx (R - L) (D - U) t i j).toNat (U' + sp_ty (R - L) (D - U) t i j).toNat))) ?_
                                    intro x s hx hP ih
                                    have hs : s = 0 ∨ s = 1 := by rcases hP with h9 | h9 <;> omega
                                    refine mu_il_12 B dX12_congruent_195 ?_
                                    refine mu_il_5 B dX12_congruent_197 ?_
                                    refine mu_icmp_gt (tgt := 342) B dX12_congruent_199 (by decide) (fun c199 => ?_) (fun c199 => ?_)
                                    · try rw [mI_lt ⟨by omega, by omega⟩ ⟨by omega, by omega⟩] at c199
                                      obtain rfl : x = wd + 1 := by omega
                                      refine mu_inc_11 (c := mI 1) B dX12_congruent_342 rfl (by decide) rfl ?_
                                      rw [mI_add]
                                      refine mu_goto (tgt := 180) B dX12_congruent_345 (by decide) ?_
                                      refine mu_fg (ihy s (by omega) ?_) rfl (by rw [show ((y + 1 : Nat) : Int) = (y : Int) + 1 by omega]; exact ⟨Or.inl rfl, Or.inl rfl, Or.inl rfl, Or.inl rfl, Or.inl rfl, Or.inl rfl, Or.inl rfl, Or.inl rfl, Or.inl rfl, Or.inl rfl, Or.inl rfl, Or.inl rfl, Or.inr rfl, Or.inr rfl, Or.inr rfl, Or.inr rfl, Or.inr rfl, trivial⟩)
                                      rcases hP with h9 | h9
                                      · first | (exfalso; omega) | exact Or.inl ⟨h9.1, fun i j h1 h2 => h9.2 i j h1 (by omega)⟩
                                      · exact Or.inr h9
                                    · try rw [mI_lt ⟨by omega, by omega⟩ ⟨by omega, by omega⟩] at c199
                                      refine mu_il_10 B dX12_congruent_202 ?_
                                      refine mu_if_eq (tgt := 342) B dX12_congruent_204 (by decide) (fun c204 => ?_) (fun c204 => ?_)
                                      · try rw [mI_eq0 ⟨by omega, by omega⟩] at c204
                                        refine mu_inc_11 (c := mI 1) B dX12_congruent_342 rfl (by decide) rfl ?_
                                        rw [mI_add]
                                        refine mu_goto (tgt := 180) B dX12_congruent_345 (by decide) ?_
                                        refine mu_fg (ihy s (by omega) ?_) rfl (by rw [show ((y + 1 : Nat) : Int) = (y : Int) + 1 by omega]; exact ⟨Or.inl rfl, Or.inl rfl, Or.inl rfl, Or.inl rfl, Or.inl rfl, Or.inl rfl, Or.inl rfl, Or.inl rfl, Or.inl rfl, Or.inl rfl, Or.inl rfl, Or.inl rfl, Or.inr rfl, Or.inr rfl, Or.inr rfl, Or.inr rfl, Or.inr rfl, trivial⟩)
                                        rcases hP with h9 | h9
                                        · first | (exfalso; omega) | exact Or.inl ⟨h9.1, fun i j h1 h2 => h9.2 i j h1 (by omega)⟩
                                        · exact Or.inr h9
                                      · try rw [mI_eq0 ⟨by omega, by omega⟩] at c204
                                        obtain ⟨rfl, hpre⟩ : s = 1 ∧ ∀ i j : Nat, (i : Int) ≤ R - L → (j < y ∨ (j = y ∧ i < x)) → fs_c (fs f) (L.toNat + i) (U.toNat + j) = fs_c (fs g) (L' + sp_tx (R - L) (D - U) t i j).toNat (U' + sp_ty (R - L) (D - U) t i j).toNat := by
                                          rcases hP with h9 | h9
                                          · exact h9
                                          · exact absurd h9.1 (by omega)
                                        have K273 : ∀ (gx gy : Int) (u13 u14 : Value), gx = sp_tx (R - L) (D - U) t x y → gy = sp_ty (R - L) (D - U) t x y → mu_WA X G 17 (mu_Q X G M_X12_congruent (cg_post w m nf fs (f : Int) (g : Int))) w2 0 0 273 [.ref m, .int (mI f), .int (mI g), .int (mI L), .int (mI U), .int (mI (R - L)), .int (mI (D - U)), .int (mI (M : Int)), .int (mI t), .int (mI ac), .int (mI 1), .int (mI y), .int (mI x), u13, u14, .int (mI gx), .int (mI gy)] [] := by
                                          intro gx gy u13 u14 hgx hgy
                                          have hgb : 0 ≤ gx ∧ gx ≤ R' - L' ∧ 0 ≤ gy ∧ gy ≤ D' - U' := by
                                            rw [hgx, hgy, hw, hh]
                                            unfold sp_tx sp_ty sp_ta sp_tb
                                            by_cases q1 : 4 ≤ t <;> by_cases q2 : t % 2 = 1 <;> by_cases q3 : t / 2 % 2 = 1 <;> simp only [q1, q2, q3, if_true, if_false] <;> omega
                                          refine mu_al_0 B dX12_congruent_273 ?_
                                          refine mu_getR B dX12_congruent_274 fX12_36 rfl (by assumption) (by assumption) ?_
                                          refine mu_ldc B kX12_45 dX12_congruent_277 ?_
                                          refine mu_il_1 B dX12_congruent_279 ?_
                                          refine mu_imul B dX12_congruent_280 ?_
                                          try rw [mI_mul]
                                          refine mu_sipush (v := mI 256) B dX12_congruent_281 (by decide) ?_
                                          refine mu_il_4 B dX12_congruent_284 ?_
                                          refine mu_il_11 B dX12_congruent_286 ?_
                                          refine mu_iadd B dX12_congruent_288 ?_
                                          try rw [mI_add]
                                          refine mu_imul B dX12_congruent_289 ?_
                                          try rw [mI_mul]
                                          refine mu_iadd B dX12_congruent_290 ?_
                                          try rw [mI_add]
                                          refine mu_il_3 B dX12_congruent_291 ?_
                                          refine mu_iadd B dX12_congruent_292 ?_
                                          try rw [mI_add]
                                          refine mu_il_12 B dX12_congruent_293 ?_
                                          refine mu_iadd B dX12_congruent_295 ?_
                                          try rw [mI_add]
                                          rw [show (65536 : Int) * (f : Int) + 256 * (U + (y : Int)) + L + (x : Int) = ((65536 * f + 256 * (U.toNat + y) + (L.toNat + x) : Nat) : Int) by omega]
                                          refine mu_bald B dX12_congruent_296 (by assumption) (mI_inN (by omega) (by decide)) ?_
                                          rw [mI_clampN (by omega), hBf2.2.2.2.1 (L.toNat + x) (U.toNat + y) (by omega) (by omega)]
                                          refine mu_al_0 B dX12_congruent_297 ?_
                                          refine mu_getR B dX12_congruent_298 fX12_36 rfl (by assumption) (by assumption) ?_
                                          refine mu_ldc B kX12_45 dX12_congruent_301 ?_
                                          refine mu_il_2 B dX12_congruent_303 ?_
                                          refine mu_imul B dX12_congruent_304 ?_
                                          try rw [mI_mul]
                                          refine mu_sipush (v := mI 256) B dX12_congruent_305 (by decide) ?_
                                          refine mu_al_0 B dX12_congruent_308 ?_
                                          refine mu_getI B dX12_congruent_309 fX12_195 rfl (by assumption) ?_
                                          rw [k21]
                                          refine mu_il_16 B dX12_congruent_312 ?_
                                          refine mu_iadd B dX12_congruent_314 ?_
                                          try rw [mI_add]
                                          refine mu_imul B dX12_congruent_315 ?_
                                          try rw [mI_mul]
                                          refine mu_iadd B dX12_congruent_316 ?_
                                          try rw [mI_add]
                                          refine mu_al_0 B dX12_congruent_317 ?_
                                          refine mu_getI B dX12_congruent_318 fX12_189 rfl (by assumption) ?_
                                          rw [k19]
                                          refine mu_iadd B dX12_congruent_321 ?_
                                          try rw [mI_add]
                                          refine mu_il_15 B dX12_congruent_322 ?_
                                          refine mu_iadd B dX12_congruent_324 ?_
                                          try rw [mI_add]
                                          rw [show (65536 : Int) * (g : Int) + 256 * (U' + gy) + L' + gx = ((65536 * g + 256 * (U' + gy).toNat + (L' + gx).toNat : Nat) : Int) by omega]
                                          refine mu_bald B dX12_congruent_325 (by assumption) (mI_inN (by omega) (by decide)) ?_
                                          rw [mI_clampN (by omega), hBg2.2.2.2.1 (L' + gx).toNat (U' + gy).toNat (by omega) (by omega)]
                                          have q1 := hBf.2.2.2.2 (L.toNat + x) (U.toNat + y)
                                          have q2 := hBg.2.2.2.2 (L' + gx).toNat (U' + gy).toNat
                                          refine mu_icmp_ne (tgt := 333) B dX12_congruent_326 (by decide) (fun c326 => ?_) (fun c326 => ?_)
                                          · try rw [mI_eq ⟨by omega, by omega⟩ ⟨by omega, by omega⟩] at c326
                                            refine mu_iconst (v := mI 0) B dX12_congruent_333 rfl ?_
                                            refine mu_is_10 B dX12_congruent_334 (by decide) rfl ?_
                                            refine mu_inc_12 (c := mI 1) B dX12_congruent_336 rfl (by decide) rfl ?_
                                            rw [mI_add]
                                            refine mu_goto (tgt := 195) B dX12_congruent_339 (by decide) ?_
                                            refine mu_fg (ih 0 (by omega) (Or.inr ⟨rfl, x, y, by omega, by omega, fun e9 => ?_⟩)) rfl (by rw [show ((x + 1 : Nat) : Int) = (x : Int) + 1 by omega]; exact ⟨Or.inl rfl, Or.inl rfl, Or.inl rfl, Or.inl rfl, Or.inl rfl, Or.inl rfl, Or.inl rfl, Or.inl rfl, Or.inl rfl, Or.inl rfl, Or.inl rfl, Or.inl rfl, Or.inl rfl, Or.inr rfl, Or.inr rfl, Or.inr rfl, Or.inr rfl, trivial⟩)
                                            rw [← hgx, ← hgy] at e9
                                            exact c326 (by omega)
                                          · try rw [mI_eq ⟨by omega, by omega⟩ ⟨by omega, by omega⟩] at c326
                                            refine mu_iconst (v := mI 1) B dX12_congruent_329 rfl ?_
                                            refine mu_goto (tgt := 334) B dX12_congruent_330 (by decide) ?_
                                            refine mu_is_10 B dX12_congruent_334 (by decide) rfl ?_
                                            refine mu_inc_12 (c := mI 1) B dX12_congruent_336 rfl (by decide) rfl ?_
                                            rw [mI_add]
                                            refine mu_goto (tgt := 195) B dX12_congruent_339 (by decide) ?_
                                            refine mu_fg (ih 1 (by omega) (Or.inl ⟨rfl, fun i j h1 h2 => ?_⟩)) rfl (by rw [show ((x + 1 : Nat) : Int) = (x : Int) + 1 by omega]; exact ⟨Or.inl rfl, Or.inl rfl, Or.inl rfl, Or.inl rfl, Or.inl rfl, Or.inl rfl, Or.inl rfl, Or.inl rfl, Or.inl rfl, Or.inl rfl, Or.inl rfl, Or.inl rfl, Or.inl rfl, Or.inr rfl, Or.inr rfl, Or.inr rfl, Or.inr rfl, trivial⟩)
                                            by_cases e9 : j = y ∧ i = x
                                            · rw [e9.1, e9.2, ← hgx, ← hgy]; omega
                                            · exact hpre i j h1 (by omega)
                                        refine mu_il_8 B dX12_congruent_207 ?_
                                        refine mu_iconst (v := mI 1) B dX12_congruent_209 rfl ?_
                                        refine mu_iand B dX12_congruent_210 ?_
                                        refine mu_if_eq (tgt := 222) B dX12_congruent_211 (by decide) (fun c211 => ?_) (fun c211 => ?_)
                                        · rw [cg_1 t ht] at c211
                                          refine mu_il_12 B dX12_congruent_222 ?_
                                          refine mu_is_13 B dX12_congruent_224 (by decide) rfl ?_
                                          refine mu_il_8 B dX12_congruent_226 ?_
                                          refine mu_iconst (v := mI 2) B dX12_congruent_228 rfl ?_
                                          refine mu_iand B dX12_congruent_229 ?_
                                          refine mu_if_eq (tgt := 241) B dX12_congruent_230 (by decide) (fun c230 => ?_) (fun c230 => ?_)
                                          · rw [cg_2 t ht] at c230
                                            refine mu_il_11 B dX12_congruent_241 ?_
                                            refine mu_is_14 B dX12_congruent_243 (by decide) rfl ?_
                                            refine mu_il_9 B dX12_congruent_245 ?_
                                            refine mu_if_eq (tgt := 255) B dX12_congruent_247 (by decide) (fun c247 => ?_) (fun c247 => ?_)
                                            · try rw [mI_eq0 ⟨by omega, by omega⟩] at c247
                                              refine mu_il_13 B dX12_congruent_255 ?_
                                              refine mu_is_15 B dX12_congruent_257 (by decide) rfl ?_
                                              refine mu_il_9 B dX12_congruent_259 ?_
                                              refine mu_if_eq (tgt := 269) B dX12_congruent_261 (by decide) (fun c261 => ?_) (fun c261 => ?_)
                                              · try rw [mI_eq0 ⟨by omega, by omega⟩] at c261
                                                refine mu_il_14 B dX12_congruent_269 ?_
                                                refine mu_is_16 B dX12_congruent_271 (by decide) rfl ?_
                                                first | (exfalso; omega) | exact K273 _ _ _ _ (by unfold sp_tx sp_ta sp_tb; by_cases q1 : 4 ≤ t <;> by_cases q2 : t % 2 = 1 <;> by_cases q3 : t / 2 % 2 = 1 <;> simp only [q1, q2, q3, if_true, if_false] <;> omega) (by unfold sp_ty sp_ta sp_tb; by_cases q1 : 4 ≤ t <;> by_cases q2 : t % 2 = 1 <;> by_cases q3 : t / 2 % 2 = 1 <;> simp only [q1, q2, q3, if_true, if_false] <;> omega)
                                              · try rw [mI_eq0 ⟨by omega, by omega⟩] at c261
                                                refine mu_il_13 B dX12_congruent_264 ?_
                                                refine mu_goto (tgt := 271) B dX12_congruent_266 (by decide) ?_
                                                refine mu_is_16 B dX12_congruent_271 (by decide) rfl ?_
                                                first | (exfalso; omega) | exact K273 _ _ _ _ (by unfold sp_tx sp_ta sp_tb; by_cases q1 : 4 ≤ t <;> by_cases q2 : t % 2 = 1 <;> by_cases q3 : t / 2 % 2 = 1 <;> simp only [q1, q2, q3, if_true, if_false] <;> omega) (by unfold sp_ty sp_ta sp_tb; by_cases q1 : 4 ≤ t <;> by_cases q2 : t % 2 = 1 <;> by_cases q3 : t / 2 % 2 = 1 <;> simp only [q1, q2, q3, if_true, if_false] <;> omega)
                                            · try rw [mI_eq0 ⟨by omega, by omega⟩] at c247
                                              refine mu_il_14 B dX12_congruent_250 ?_
                                              refine mu_goto (tgt := 257) B dX12_congruent_252 (by decide) ?_
                                              refine mu_is_15 B dX12_congruent_257 (by decide) rfl ?_
                                              refine mu_il_9 B dX12_congruent_259 ?_
                                              refine mu_if_eq (tgt := 269) B dX12_congruent_261 (by decide) (fun c261 => ?_) (fun c261 => ?_)
                                              · try rw [mI_eq0 ⟨by omega, by omega⟩] at c261
                                                refine mu_il_14 B dX12_congruent_269 ?_
                                                refine mu_is_16 B dX12_congruent_271 (by decide) rfl ?_
                                                first | (exfalso; omega) | exact K273 _ _ _ _ (by unfold sp_tx sp_ta sp_tb; by_cases q1 : 4 ≤ t <;> by_cases q2 : t % 2 = 1 <;> by_cases q3 : t / 2 % 2 = 1 <;> simp only [q1, q2, q3, if_true, if_false] <;> omega) (by unfold sp_ty sp_ta sp_tb; by_cases q1 : 4 ≤ t <;> by_cases q2 : t % 2 = 1 <;> by_cases q3 : t / 2 % 2 = 1 <;> simp only [q1, q2, q3, if_true, if_false] <;> omega)
                                              · try rw [mI_eq0 ⟨by omega, by omega⟩] at c261
                                                refine mu_il_13 B dX12_congruent_264 ?_
                                                refine mu_goto (tgt := 271) B dX12_congruent_266 (by decide) ?_
                                                refine mu_is_16 B dX12_congruent_271 (by decide) rfl ?_
                                                first | (exfalso; omega) | exact K273 _ _ _ _ (by unfold sp_tx sp_ta sp_tb; by_cases q1 : 4 ≤ t <;> by_cases q2 : t % 2 = 1 <;> by_cases q3 : t / 2 % 2 = 1 <;> simp only [q1, q2, q3, if_true, if_false] <;> omega) (by unfold sp_ty sp_ta sp_tb; by_cases q1 : 4 ≤ t <;> by_cases q2 : t % 2 = 1 <;> by_cases q3 : t / 2 % 2 = 1 <;> simp only [q1, q2, q3, if_true, if_false] <;> omega)
                                          · rw [cg_2 t ht] at c230
                                            refine mu_il_6 B dX12_congruent_233 ?_
                                            refine mu_il_11 B dX12_congruent_235 ?_
                                            refine mu_isub B dX12_congruent_237 ?_
                                            try rw [mI_sub]
                                            refine mu_goto (tgt := 243) B dX12_congruent_238 (by decide) ?_
                                            refine mu_is_14 B dX12_congruent_243 (by decide) rfl ?_
                                            refine mu_il_9 B dX12_congruent_245 ?_
                                            refine mu_if_eq (tgt := 255) B dX12_congruent_247 (by decide) (fun c247 => ?_) (fun c247 => ?_)
                                            · try rw [mI_eq0 ⟨by omega, by omega⟩] at c247
                                              refine mu_il_13 B dX12_congruent_255 ?_
                                              refine mu_is_15 B dX12_congruent_257 (by decide) rfl ?_
                                              refine mu_il_9 B dX12_congruent_259 ?_
                                              refine mu_if_eq (tgt := 269) B dX12_congruent_261 (by decide) (fun c261 => ?_) (fun c261 => ?_)
                                              · try rw [mI_eq0 ⟨by omega, by omega⟩] at c261
                                                refine mu_il_14 B dX12_congruent_269 ?_
                                                refine mu_is_16 B dX12_congruent_271 (by decide) rfl ?_
                                                first | (exfalso; omega) | exact K273 _ _ _ _ (by unfold sp_tx sp_ta sp_tb; by_cases q1 : 4 ≤ t <;> by_cases q2 : t % 2 = 1 <;> by_cases q3 : t / 2 % 2 = 1 <;> simp only [q1, q2, q3, if_true, if_false] <;> omega) (by unfold sp_ty sp_ta sp_tb; by_cases q1 : 4 ≤ t <;> by_cases q2 : t % 2 = 1 <;> by_cases q3 : t / 2 % 2 = 1 <;> simp only [q1, q2, q3, if_true, if_false] <;> omega)
                                              · try rw [mI_eq0 ⟨by omega, by omega⟩] at c261
                                                refine mu_il_13 B dX12_congruent_264 ?_
                                                refine mu_goto (tgt := 271) B dX12_congruent_266 (by decide) ?_
                                                refine mu_is_16 B dX12_congruent_271 (by decide) rfl ?_
                                                first | (exfalso; omega) | exact K273 _ _ _ _ (by unfold sp_tx sp_ta sp_tb; by_cases q1 : 4 ≤ t <;> by_cases q2 : t % 2 = 1 <;> by_cases q3 : t / 2 % 2 = 1 <;> simp only [q1, q2, q3, if_true, if_false] <;> omega) (by unfold sp_ty sp_ta sp_tb; by_cases q1 : 4 ≤ t <;> by_cases q2 : t % 2 = 1 <;> by_cases q3 : t / 2 % 2 = 1 <;> simp only [q1, q2, q3, if_true, if_false] <;> omega)
                                            · try rw [mI_eq0 ⟨by omega, by omega⟩] at c247
                                              refine mu_il_14 B dX12_congruent_250 ?_
                                              refine mu_goto (tgt := 257) B dX12_congruent_252 (by decide) ?_
                                              refine mu_is_15 B dX12_congruent_257 (by decide) rfl ?_
                                              refine mu_il_9 B dX12_congruent_259 ?_
                                              refine mu_if_eq (tgt := 269) B dX12_congruent_261 (by decide) (fun c261 => ?_) (fun c261 => ?_)
                                              · try rw [mI_eq0 ⟨by omega, by omega⟩] at c261
                                                refine mu_il_14 B dX12_congruent_269 ?_
                                                refine mu_is_16 B dX12_congruent_271 (by decide) rfl ?_
                                                first | (exfalso; omega) | exact K273 _ _ _ _ (by unfold sp_tx sp_ta sp_tb; by_cases q1 : 4 ≤ t <;> by_cases q2 : t % 2 = 1 <;> by_cases q3 : t / 2 % 2 = 1 <;> simp only [q1, q2, q3, if_true, if_false] <;> omega) (by unfold sp_ty sp_ta sp_tb; by_cases q1 : 4 ≤ t <;> by_cases q2 : t % 2 = 1 <;> by_cases q3 : t / 2 % 2 = 1 <;> simp only [q1, q2, q3, if_true, if_false] <;> omega)
                                              · try rw [mI_eq0 ⟨by omega, by omega⟩] at c261
                                                refine mu_il_13 B dX12_congruent_264 ?_
                                                refine mu_goto (tgt := 271) B dX12_congruent_266 (by decide) ?_
                                                refine mu_is_16 B dX12_congruent_271 (by decide) rfl ?_
                                                first | (exfalso; omega) | exact K273 _ _ _ _ (by unfold sp_tx sp_ta sp_tb; by_cases q1 : 4 ≤ t <;> by_cases q2 : t % 2 = 1 <;> by_cases q3 : t / 2 % 2 = 1 <;> simp only [q1, q2, q3, if_true, if_false] <;> omega) (by unfold sp_ty sp_ta sp_tb; by_cases q1 : 4 ≤ t <;> by_cases q2 : t % 2 = 1 <;> by_cases q3 : t / 2 % 2 = 1 <;> simp only [q1, q2, q3, if_true, if_false] <;> omega)
                                        · rw [cg_1 t ht] at c211
                                          refine mu_il_5 B dX12_congruent_214 ?_
                                          refine mu_il_12 B dX12_congruent_216 ?_
                                          refine mu_isub B dX12_congruent_218 ?_
                                          try rw [mI_sub]
                                          refine mu_goto (tgt := 224) B dX12_congruent_219 (by decide) ?_
                                          refine mu_is_13 B dX12_congruent_224 (by decide) rfl ?_
                                          refine mu_il_8 B dX12_congruent_226 ?_
                                          refine mu_iconst (v := mI 2) B dX12_congruent_228 rfl ?_
                                          refine mu_iand B dX12_congruent_229 ?_
                                          refine mu_if_eq (tgt := 241) B dX12_congruent_230 (by decide) (fun c230 => ?_) (fun c230 => ?_)
                                          · rw [cg_2 t ht] at c230
                                            refine mu_il_11 B dX12_congruent_241 ?_
                                            refine mu_is_14 B dX12_congruent_243 (by decide) rfl ?_
                                            refine mu_il_9 B dX12_congruent_245 ?_
                                            refine mu_if_eq (tgt := 255) B dX12_congruent_247 (by decide) (fun c247 => ?_) (fun c247 => ?_)
                                            · try rw [mI_eq0 ⟨by omega, by omega⟩] at c247
                                              refine mu_il_13 B dX12_congruent_255 ?_
                                              refine mu_is_15 B dX12_congruent_257 (by decide) rfl ?_
                                              refine mu_il_9 B dX12_congruent_259 ?_
                                              refine mu_if_eq (tgt := 269) B dX12_congruent_261 (by decide) (fun c261 => ?_) (fun c261 => ?_)
                                              · try rw [mI_eq0 ⟨by omega, by omega⟩] at c261
                                                refine mu_il_14 B dX12_congruent_269 ?_
                                                refine mu_is_16 B dX12_congruent_271 (by decide) rfl ?_
                                                first | (exfalso; omega) | exact K273 _ _ _ _ (by unfold sp_tx sp_ta sp_tb; by_cases q1 : 4 ≤ t <;> by_cases q2 : t % 2 = 1 <;> by_cases q3 : t / 2 % 2 = 1 <;> simp only [q1, q2, q3, if_true, if_false] <;> omega) (by unfold sp_ty sp_ta sp_tb; by_cases q1 : 4 ≤ t <;> by_cases q2 : t % 2 = 1 <;> by_cases q3 : t / 2 % 2 = 1 <;> simp only [q1, q2, q3, if_true, if_false] <;> omega)
                                              · try rw [mI_eq0 ⟨by omega, by omega⟩] at c261
                                                refine mu_il_13 B dX12_congruent_264 ?_
                                                refine mu_goto (tgt := 271) B dX12_congruent_266 (by decide) ?_
                                                refine mu_is_16 B dX12_congruent_271 (by decide) rfl ?_
                                                first | (exfalso; omega) | exact K273 _ _ _ _ (by unfold sp_tx sp_ta sp_tb; by_cases q1 : 4 ≤ t <;> by_cases q2 : t % 2 = 1 <;> by_cases q3 : t / 2 % 2 = 1 <;> simp only [q1, q2, q3, if_true, if_false] <;> omega) (by unfold sp_ty sp_ta sp_tb; by_cases q1 : 4 ≤ t <;> by_cases q2 : t % 2 = 1 <;> by_cases q3 : t / 2 % 2 = 1 <;> simp only [q1, q2, q3, if_true, if_false] <;> omega)
                                            · try rw [mI_eq0 ⟨by omega, by omega⟩] at c247
                                              refine mu_il_14 B dX12_congruent_250 ?_
                                              refine mu_goto (tgt := 257) B dX12_congruent_252 (by decide) ?_
                                              refine mu_is_15 B dX12_congruent_257 (by decide) rfl ?_
                                              refine mu_il_9 B dX12_congruent_259 ?_
                                              refine mu_if_eq (tgt := 269) B dX12_congruent_261 (by decide) (fun c261 => ?_) (fun c261 => ?_)
                                              · try rw [mI_eq0 ⟨by omega, by omega⟩] at c261
                                                refine mu_il_14 B dX12_congruent_269 ?_
                                                refine mu_is_16 B dX12_congruent_271 (by decide) rfl ?_
                                                first | (exfalso; omega) | exact K273 _ _ _ _ (by unfold sp_tx sp_ta sp_tb; by_cases q1 : 4 ≤ t <;> by_cases q2 : t % 2 = 1 <;> by_cases q3 : t / 2 % 2 = 1 <;> simp only [q1, q2, q3, if_true, if_false] <;> omega) (by unfold sp_ty sp_ta sp_tb; by_cases q1 : 4 ≤ t <;> by_cases q2 : t % 2 = 1 <;> by_cases q3 : t / 2 % 2 = 1 <;> simp only [q1, q2, q3, if_true, if_false] <;> omega)
                                              · try rw [mI_eq0 ⟨by omega, by omega⟩] at c261
                                                refine mu_il_13 B dX12_congruent_264 ?_
                                                refine mu_goto (tgt := 271) B dX12_congruent_266 (by decide) ?_
                                                refine mu_is_16 B dX12_congruent_271 (by decide) rfl ?_
                                                first | (exfalso; omega) | exact K273 _ _ _ _ (by unfold sp_tx sp_ta sp_tb; by_cases q1 : 4 ≤ t <;> by_cases q2 : t % 2 = 1 <;> by_cases q3 : t / 2 % 2 = 1 <;> simp only [q1, q2, q3, if_true, if_false] <;> omega) (by unfold sp_ty sp_ta sp_tb; by_cases q1 : 4 ≤ t <;> by_cases q2 : t % 2 = 1 <;> by_cases q3 : t / 2 % 2 = 1 <;> simp only [q1, q2, q3, if_true, if_false] <;> omega)
                                          · rw [cg_2 t ht] at c230
                                            refine mu_il_6 B dX12_congruent_233 ?_
                                            refine mu_il_11 B dX12_congruent_235 ?_
                                            refine mu_isub B dX12_congruent_237 ?_
                                            try rw [mI_sub]
                                            refine mu_goto (tgt := 243) B dX12_congruent_238 (by decide) ?_
                                            refine mu_is_14 B dX12_congruent_243 (by decide) rfl ?_
                                            refine mu_il_9 B dX12_congruent_245 ?_
                                            refine mu_if_eq (tgt := 255) B dX12_congruent_247 (by decide) (fun c247 => ?_) (fun c247 => ?_)
                                            · try rw [mI_eq0 ⟨by omega, by omega⟩] at c247
                                              refine mu_il_13 B dX12_congruent_255 ?_
                                              refine mu_is_15 B dX12_congruent_257 (by decide) rfl ?_
                                              refine mu_il_9 B dX12_congruent_259 ?_
                                              refine mu_if_eq (tgt := 269) B dX12_congruent_261 (by decide) (fun c261 => ?_) (fun c261 => ?_)
                                              · try rw [mI_eq0 ⟨by omega, by omega⟩] at c261
                                                refine mu_il_14 B dX12_congruent_269 ?_
                                                refine mu_is_16 B dX12_congruent_271 (by decide) rfl ?_
                                                first | (exfalso; omega) | exact K273 _ _ _ _ (by unfold sp_tx sp_ta sp_tb; by_cases q1 : 4 ≤ t <;> by_cases q2 : t % 2 = 1 <;> by_cases q3 : t / 2 % 2 = 1 <;> simp only [q1, q2, q3, if_true, if_false] <;> omega) (by unfold sp_ty sp_ta sp_tb; by_cases q1 : 4 ≤ t <;> by_cases q2 : t % 2 = 1 <;> by_cases q3 : t / 2 % 2 = 1 <;> simp only [q1, q2, q3, if_true, if_false] <;> omega)
                                              · try rw [mI_eq0 ⟨by omega, by omega⟩] at c261
                                                refine mu_il_13 B dX12_congruent_264 ?_
                                                refine mu_goto (tgt := 271) B dX12_congruent_266 (by decide) ?_
                                                refine mu_is_16 B dX12_congruent_271 (by decide) rfl ?_
                                                first | (exfalso; omega) | exact K273 _ _ _ _ (by unfold sp_tx sp_ta sp_tb; by_cases q1 : 4 ≤ t <;> by_cases q2 : t % 2 = 1 <;> by_cases q3 : t / 2 % 2 = 1 <;> simp only [q1, q2, q3, if_true, if_false] <;> omega) (by unfold sp_ty sp_ta sp_tb; by_cases q1 : 4 ≤ t <;> by_cases q2 : t % 2 = 1 <;> by_cases q3 : t / 2 % 2 = 1 <;> simp only [q1, q2, q3, if_true, if_false] <;> omega)
                                            · try rw [mI_eq0 ⟨by omega, by omega⟩] at c247
                                              refine mu_il_14 B dX12_congruent_250 ?_
                                              refine mu_goto (tgt := 257) B dX12_congruent_252 (by decide) ?_
                                              refine mu_is_15 B dX12_congruent_257 (by decide) rfl ?_
                                              refine mu_il_9 B dX12_congruent_259 ?_
                                              refine mu_if_eq (tgt := 269) B dX12_congruent_261 (by decide) (fun c261 => ?_) (fun c261 => ?_)
                                              · try rw [mI_eq0 ⟨by omega, by omega⟩] at c261
                                                refine mu_il_14 B dX12_congruent_269 ?_
                                                refine mu_is_16 B dX12_congruent_271 (by decide) rfl ?_
                                                first | (exfalso; omega) | exact K273 _ _ _ _ (by unfold sp_tx sp_ta sp_tb; by_cases q1 : 4 ≤ t <;> by_cases q2 : t % 2 = 1 <;> by_cases q3 : t / 2 % 2 = 1 <;> simp only [q1, q2, q3, if_true, if_false] <;> omega) (by unfold sp_ty sp_ta sp_tb; by_cases q1 : 4 ≤ t <;> by_cases q2 : t % 2 = 1 <;> by_cases q3 : t / 2 % 2 = 1 <;> simp only [q1, q2, q3, if_true, if_false] <;> omega)
                                              · try rw [mI_eq0 ⟨by omega, by omega⟩] at c261
                                                refine mu_il_13 B dX12_congruent_264 ?_
                                                refine mu_goto (tgt := 271) B dX12_congruent_266 (by decide) ?_
                                                refine mu_is_16 B dX12_congruent_271 (by decide) rfl ?_
                                                first | (exfalso; omega) | exact K273 _ _ _ _ (by unfold sp_tx sp_ta sp_tb; by_cases q1 : 4 ≤ t <;> by_cases q2 : t % 2 = 1 <;> by_cases q3 : t / 2 % 2 = 1 <;> simp only [q1, q2, q3, if_true, if_false] <;> omega) (by unfold sp_ty sp_ta sp_tb; by_cases q1 : 4 ≤ t <;> by_cases q2 : t % 2 = 1 <;> by_cases q3 : t / 2 % 2 = 1 <;> simp only [q1, q2, q3, if_true, if_false] <;> omega)
                                  exact mu_fg (LX 0 1 (by omega) (Or.inl ⟨rfl, fun i j h1 h2 => hpre i j h1 (by omega)⟩)) rfl (⟨Or.inl rfl, Or.inl rfl, Or.inl rfl, Or.inl rfl, Or.inl rfl, Or.inl rfl, Or.inl rfl, Or.inl rfl, Or.inl rfl, Or.inl rfl, Or.inl rfl, Or.inl rfl, Or.inl rfl, Or.inr rfl, Or.inr rfl, Or.inr rfl, Or.inr rfl, trivial⟩)
                            exact LY 0 1 (by omega) (Or.inl ⟨rfl, fun i j h1 h2 => absurd h2 (Nat.not_lt_zero j)⟩)
                      · try rw [mI_eq ⟨by omega, by omega⟩ ⟨by omega, by omega⟩] at c168
                        refine mu_goto (tgt := 355) B dX12_congruent_171 (by decide) ?_
                        first | (exfalso; omega) | exact KN (fun hh9 => by have h91 := hh9.1; have h92 := hh9.2.1; by_cases q1 : 4 ≤ t <;> simp only [q1, if_true, if_false] at h91 h92 <;> omega) _ _ _ _ _ _ _ _
                    · try rw [mI_eq0 ⟨by omega, by omega⟩] at c158
                      refine mu_il_5 B dX12_congruent_161 ?_
                      refine mu_goto (tgt := 168) B dX12_congruent_163 (by decide) ?_
                      refine mu_icmp_eq (tgt := 174) B dX12_congruent_168 (by decide) (fun c168 => ?_) (fun c168 => ?_)
                      · try rw [mI_eq ⟨by omega, by omega⟩ ⟨by omega, by omega⟩] at c168
                        refine mu_iconst (v := mI 1) B dX12_congruent_174 rfl ?_
                        refine mu_is_10 B dX12_congruent_175 (by decide) rfl ?_
                        refine mu_iconst (v := mI 0) B dX12_congruent_177 rfl ?_
                        refine mu_is_11 B dX12_congruent_178 (by decide) rfl ?_
                        first
                          | (exfalso; omega)
                          | have hw : R' - L' = (if 4 ≤ t then D - U else R - L) := by by_cases q1 : 4 ≤ t <;> simp only [q1, if_true, if_false] <;> omega
                            have hh : D' - U' = (if 4 ≤ t then R - L else D - U) := by by_cases q1 : 4 ≤ t <;> simp only [q1, if_true, if_false] <;> omega
                            have LY : ∀ y (s : Int), y ≤ hgt + 1 → ((s = 1 ∧ ∀ i j : Nat, (i : Int) ≤ R - L → j < y → fs_c (fs f) (L.toNat + i) (U.toNat + j) = fs_c (fs g) (L' + sp_tx (R - L) (D - U) t i j).toNat (U' + sp_ty (R - L) (D - U) t i j).toNat) ∨ (s = 0 ∧ ∃ i j : Nat, (i : Int) ≤ R - L ∧ (j : Int) ≤ D - U ∧ ¬ (fs_c (fs f) (L.toNat + i) (U.toNat + j) = fs_c (fs g) (L' + sp_tx (R - L) (D - U) t i j).toNat (U' + sp_ty (R - L) (D - U) t i j).toNat))) → mu_WA X G 17 (mu_Q X G M_X12_congruent (cg_post w m nf fs (f : Int) (g : Int))) w2 0 0 180 [.ref m, .int (mI f), .int (mI g), .int (mI L), .int (mI U), .int (mI (R - L)), .int (mI (D - U)), .int (mI (M : Int)), .int (mI t), .int (mI ac), .int (mI s), .int (mI y), mu_no, mu_no, mu_no, mu_no, mu_no] [] := by
                              refine mu_ind (hgt + 1) (fun y (s : Int) => mu_WA X G 17 (mu_Q X G M_X12_congruent (cg_post w m nf fs (f : Int) (g : Int))) w2 0 0 180 [.ref m, .int (mI f), .int (mI g), .int (mI L), .int (mI U), .int (mI (R - L)), .int (mI (D - U)), .int (mI (M : Int)), .int (mI t), .int (mI ac), .int (mI s), .int (mI y), mu_no, mu_no, mu_no, mu_no, mu_no] []) (fun y (s : Int) => (s = 1 ∧ ∀ i j : Nat, (i : Int) ≤ R - L → j < y → fs_c (fs f) (L.toNat + i) (U.toNat + j) = fs_c (fs g) (L' + sp_tx (R - L) (D - U) t i j).toNat (U' + sp_ty (R - L) (D - U) t i j).toNat) ∨ (s = 0 ∧ ∃ i j : Nat, (i : Int) ≤ R - L ∧ (j : Int) ≤ D - U ∧ ¬ (fs_c (fs f) (L.toNat + i) (U.toNat + j) = fs_c (fs g) (L' + sp_tx (R - L) (D - U) t i j).toNat (U' + sp_ty (R - L) (D - U) t i j).toNat))) ?_
                              intro y s hy hP ihy
                              have hs : s = 0 ∨ s = 1 := by rcases hP with h9 | h9 <;> omega
                              refine mu_il_11 B dX12_congruent_180 ?_
                              refine mu_il_6 B dX12_congruent_182 ?_
                              refine mu_icmp_gt (tgt := 348) B dX12_congruent_184 (by decide) (fun c184 => ?_) (fun c184 => ?_)
                              · try rw [mI_lt ⟨by omega, by omega⟩ ⟨by omega, by omega⟩] at c184
                                obtain rfl : y = hgt + 1 := by omega
                                refine mu_il_10 B dX12_congruent_348 ?_
                                refine mu_if_eq (tgt := 355) B dX12_congruent_350 (by decide) (fun c350 => ?_) (fun c350 => ?_)
                                · rw [mI_eq0 ⟨by omega, by omega⟩] at c350
                                  refine KN (fun hh9 => ?_) _ _ _ _ _ _ _ _
                                  rcases hP with h9 | ⟨-, i, j, h1, h2, h3⟩
                                  · omega
                                  · exact h3 (hh9.2.2 i j h1 h2)
                                · rw [mI_eq0 ⟨by omega, by omega⟩] at c350
                                  refine mu_iconst (v := mI 1) B dX12_congruent_353 rfl ?_
                                  refine mu_iret E rfl (by decide) (by decide) dX12_congruent_354 ?_
                                  refine hyes t ht ⟨hw, hh, fun i j h1 h2 => ?_⟩
                                  rcases hP with h9 | h9
                                  · first | exact h9.2 i j h1 (by omega) | (exfalso; omega)
                                  · omega
                              · try rw [mI_lt ⟨by omega, by omega⟩ ⟨by omega, by omega⟩] at c184
                                refine mu_il_10 B dX12_congruent_187 ?_
                                refine mu_if_eq (tgt := 348) B dX12_congruent_189 (by decide) (fun c189 => ?_) (fun c189 => ?_)
                                · try rw [mI_eq0 ⟨by omega, by omega⟩] at c189
                                  refine mu_il_10 B dX12_congruent_348 ?_
                                  refine mu_if_eq (tgt := 355) B dX12_congruent_350 (by decide) (fun c350 => ?_) (fun c350 => ?_)
                                  · rw [mI_eq0 ⟨by omega, by omega⟩] at c350
                                    refine KN (fun hh9 => ?_) _ _ _ _ _ _ _ _
                                    rcases hP with h9 | ⟨-, i, j, h1, h2, h3⟩
                                    · omega
                                    · exact h3 (hh9.2.2 i j h1 h2)
                                  · rw [mI_eq0 ⟨by omega, by omega⟩] at c350
                                    refine mu_iconst (v := mI 1) B dX12_congruent_353 rfl ?_
                                    refine mu_iret E rfl (by decide) (by decide) dX12_congruent_354 ?_
                                    refine hyes t ht ⟨hw, hh, fun i j h1 h2 => ?_⟩
                                    rcases hP with h9 | h9
                                    · first | exact h9.2 i j h1 (by omega) | (exfalso; omega)
                                    · omega
                                · try rw [mI_eq0 ⟨by omega, by omega⟩] at c189
                                  obtain ⟨rfl, hpre⟩ : s = 1 ∧ ∀ i j : Nat, (i : Int) ≤ R - L → j < y → fs_c (fs f) (L.toNat + i) (U.toNat + j) = fs_c (fs g) (L' + sp_tx (R - L) (D - U) t i j).toNat (U' + sp_ty (R - L) (D - U) t i j).toNat := by
                                    rcases hP with h9 | h9
                                    · exact h9
                                    · exact absurd h9.1 (by omega)
                                  refine mu_iconst (v := mI 0) B dX12_congruent_192 rfl ?_
                                  refine mu_is_12 B dX12_congruent_193 (by decide) rfl ?_
                                  have LX : ∀ x (s : Int), x ≤ wd + 1 → ((s = 1 ∧ ∀ i j : Nat, (i : Int) ≤ R - L → (j < y ∨ (j = y ∧ i < x)) → fs_c (fs f) (L.toNat + i) (U.toNat + j) = fs_c (fs g) (L' + sp_tx (R - L) (D - U) t i j).toNat (U' + sp_ty (R - L) (D - U) t i j).toNat) ∨ (s = 0 ∧ ∃ i j : Nat, (i : Int) ≤ R - L ∧ (j : Int) ≤ D - U ∧ ¬ (fs_c (fs f) (L.toNat + i) (U.toNat + j) = fs_c (fs g) (L' + sp_tx (R - L) (D - U) t i j).toNat (U' + sp_ty (R - L) (D - U) t i j).toNat))) → mu_WA X G 17 (mu_Q X G M_X12_congruent (cg_post w m nf fs (f : Int) (g : Int))) w2 0 0 195 [.ref m, .int (mI f), .int (mI g), .int (mI L), .int (mI U), .int (mI (R - L)), .int (mI (D - U)), .int (mI (M : Int)), .int (mI t), .int (mI ac), .int (mI s), .int (mI y), .int (mI x), mu_no, mu_no, mu_no, mu_no] [] := by
                                    refine mu_ind (wd + 1) (fun x (s : Int) => mu_WA X G 17 (mu_Q X G M_X12_congruent (cg_post w m nf fs (f : Int) (g : Int))) w2 0 0 195 [.ref m, .int (mI f), .int (mI g), .int (mI L), .int (mI U), .int (mI (R - L)), .int (mI (D - U)), .int (mI (M : Int)), .int (mI t), .int (mI ac), .int (mI s), .int (mI y), .int (mI x), mu_no, mu_no, mu_no, mu_no] []) (fun x (s : Int) => (s = 1 ∧ ∀ i j : Nat, (i : Int) ≤ R - L → (j < y ∨ (j = y ∧ i < x)) → fs_c (fs f) (L.toNat + i) (U.toNat + j) = fs_c (fs g) (L' + sp_tx (R - L) (D - U) t i j).toNat (U' + sp_ty (R - L) (D - U) t i j).toNat) ∨ (s = 0 ∧ ∃ i j : Nat, (i : Int) ≤ R - L ∧ (j : Int) ≤ D - U ∧ ¬ (fs_c (fs f) (L.toNat + i) (U.toNat + j) = fs_c (fs g) (L' + sp_tx (R - L) (D - U) t i j).toNat (U' + sp_ty (R - L) (D - U) t i j).toNat))) ?_
                                    intro x s hx hP ih
                                    have hs : s = 0 ∨ s = 1 := by rcases hP with h9 | h9 <;> omega
                                    refine mu_il_12 B dX12_congruent_195 ?_
                                    refine mu_il_5 B dX12_congruent_197 ?_
                                    refine mu_icmp_gt (tgt := 342) B dX12_congruent_199 (by decide) (fun c199 => ?_) (fun c199 => ?_)
                                    · try rw [mI_lt ⟨by omega, by omega⟩ ⟨by omega, by omega⟩] at c199
                                      obtain rfl : x = wd + 1 := by omega
                                      refine mu_inc_11 (c := mI 1) B dX12_congruent_342 rfl (by decide) rfl ?_
                                      rw [mI_add]
                                      refine mu_goto (tgt := 180) B dX12_congruent_345 (by decide) ?_
                                      refine mu_fg (ihy s (by omega) ?_) rfl (by rw [show ((y + 1 : Nat) : Int) = (y : Int) + 1 by omega]; exact ⟨Or.inl rfl, Or.inl rfl, Or.inl rfl, Or.inl rfl, Or.inl rfl, Or.inl rfl, Or.inl rfl, Or.inl rfl, Or.inl rfl, Or.inl rfl, Or.inl rfl, Or.inl rfl, Or.inr rfl, Or.inr rfl, Or.inr rfl, Or.inr rfl, Or.inr rfl, trivial⟩)
                                      rcases hP with h9 | h9
                                      · first | (exfalso; omega) | exact Or.inl ⟨h9.1, fun i j h1 h2 => h9.2 i j h1 (by omega)⟩
                                      · exact Or.inr h9
                                    · try rw [mI_lt ⟨by omega, by omega⟩ ⟨by omega, by omega⟩] at c199
                                      refine mu_il_10 B dX12_congruent_202 ?_
                                      refine mu_if_eq (tgt := 342) B dX12_congruent_204 (by decide) (fun c204 => ?_) (fun c204 => ?_)
                                      · try rw [mI_eq0 ⟨by omega, by omega⟩] at c204
                                        refine mu_inc_11 (c := mI 1) B dX12_congruent_342 rfl (by decide) rfl ?_
                                        rw [mI_add]
                                        refine mu_goto (tgt := 180) B dX12_congruent_345 (by decide) ?_
                                        refine mu_fg (ihy s (by omega) ?_) rfl (by rw [show ((y + 1 : Nat) : Int) = (y : Int) + 1 by omega]; exact ⟨Or.inl rfl, Or.inl rfl, Or.inl rfl, Or.inl rfl, Or.inl rfl, Or.inl rfl, Or.inl rfl, Or.inl rfl, Or.inl rfl, Or.inl rfl, Or.inl rfl, Or.inl rfl, Or.inr rfl, Or.inr rfl, Or.inr rfl, Or.inr rfl, Or.inr rfl, trivial⟩)
                                        rcases hP with h9 | h9
                                        · first | (exfalso; omega) | exact Or.inl ⟨h9.1, fun i j h1 h2 => h9.2 i j h1 (by omega)⟩
                                        · exact Or.inr h9
                                      · try rw [mI_eq0 ⟨by omega, by omega⟩] at c204
                                        obtain ⟨rfl, hpre⟩ : s = 1 ∧ ∀ i j : Nat, (i : Int) ≤ R - L → (j < y ∨ (j = y ∧ i < x)) → fs_c (fs f) (L.toNat + i) (U.toNat + j) = fs_c (fs g) (L' + sp_tx (R - L) (D - U) t i j).toNat (U' + sp_ty (R - L) (D - U) t i j).toNat := by
                                          rcases hP with h9 | h9
                                          · exact h9
                                          · exact absurd h9.1 (by omega)
                                        have K273 : ∀ (gx gy : Int) (u13 u14 : Value), gx = sp_tx (R - L) (D - U) t x y → gy = sp_ty (R - L) (D - U) t x y → mu_WA X G 17 (mu_Q X G M_X12_congruent (cg_post w m nf fs (f : Int) (g : Int))) w2 0 0 273 [.ref m, .int (mI f), .int (mI g), .int (mI L), .int (mI U), .int (mI (R - L)), .int (mI (D - U)), .int (mI (M : Int)), .int (mI t), .int (mI ac), .int (mI 1), .int (mI y), .int (mI x), u13, u14, .int (mI gx), .int (mI gy)] [] := by
                                          intro gx gy u13 u14 hgx hgy
                                          have hgb : 0 ≤ gx ∧ gx ≤ R' - L' ∧ 0 ≤ gy ∧ gy ≤ D' - U' := by
                                            rw [hgx, hgy, hw, hh]
                                            unfold sp_tx sp_ty sp_ta sp_tb
                                            by_cases q1 : 4 ≤ t <;> by_cases q2 : t % 2 = 1 <;> by_cases q3 : t / 2 % 2 = 1 <;> simp only [q1, q2, q3, if_true, if_false] <;> omega
                                          refine mu_al_0 B dX12_congruent_273 ?_
                                          refine mu_getR B dX12_congruent_274 fX12_36 rfl (by assumption) (by assumption) ?_
                                          refine mu_ldc B kX12_45 dX12_congruent_277 ?_
                                          refine mu_il_1 B dX12_congruent_279 ?_
                                          refine mu_imul B dX12_congruent_280 ?_
                                          try rw [mI_mul]
                                          refine mu_sipush (v := mI 256) B dX12_congruent_281 (by decide) ?_
                                          refine mu_il_4 B dX12_congruent_284 ?_
                                          refine mu_il_11 B dX12_congruent_286 ?_
                                          refine mu_iadd B dX12_congruent_288 ?_
                                          try rw [mI_add]
                                          refine mu_imul B dX12_congruent_289 ?_
                                          try rw [mI_mul]
                                          refine mu_iadd B dX12_congruent_290 ?_
                                          try rw [mI_add]
                                          refine mu_il_3 B dX12_congruent_291 ?_
                                          refine mu_iadd B dX12_congruent_292 ?_
                                          try rw [mI_add]
                                          refine mu_il_12 B dX12_congruent_293 ?_
                                          refine mu_iadd B dX12_congruent_295 ?_
                                          try rw [mI_add]
                                          rw [show (65536 : Int) * (f : Int) + 256 * (U + (y : Int)) + L + (x : Int) = ((65536 * f + 256 * (U.toNat + y) + (L.toNat + x) : Nat) : Int) by omega]
                                          refine mu_bald B dX12_congruent_296 (by assumption) (mI_inN (by omega) (by decide)) ?_
                                          rw [mI_clampN (by omega), hBf2.2.2.2.1 (L.toNat + x) (U.toNat + y) (by omega) (by omega)]
                                          refine mu_al_0 B dX12_congruent_297 ?_
                                          refine mu_getR B dX12_congruent_298 fX12_36 rfl (by assumption) (by assumption) ?_
                                          refine mu_ldc B kX12_45 dX12_congruent_301 ?_
                                          refine mu_il_2 B dX12_congruent_303 ?_
                                          refine mu_imul B dX12_congruent_304 ?_
                                          try rw [mI_mul]
                                          refine mu_sipush (v := mI 256) B dX12_congruent_305 (by decide) ?_
                                          refine mu_al_0 B dX12_congruent_308 ?_
                                          refine mu_getI B dX12_congruent_309 fX12_195 rfl (by assumption) ?_
                                          rw [k21]
                                          refine mu_il_16 B dX12_congruent_312 ?_
                                          refine mu_iadd B dX12_congruent_314 ?_
                                          try rw [mI_add]
                                          refine mu_imul B dX12_congruent_315 ?_
                                          try rw [mI_mul]
                                          refine mu_iadd B dX12_congruent_316 ?_
                                          try rw [mI_add]
                                          refine mu_al_0 B dX12_congruent_317 ?_
                                          refine mu_getI B dX12_congruent_318 fX12_189 rfl (by assumption) ?_
                                          rw [k19]
                                          refine mu_iadd B dX12_congruent_321 ?_
                                          try rw [mI_add]
                                          refine mu_il_15 B dX12_congruent_322 ?_
                                          refine mu_iadd B dX12_congruent_324 ?_
                                          try rw [mI_add]
                                          rw [show (65536 : Int) * (g : Int) + 256 * (U' + gy) + L' + gx = ((65536 * g + 256 * (U' + gy).toNat + (L' + gx).toNat : Nat) : Int) by omega]
                                          refine mu_bald B dX12_congruent_325 (by assumption) (mI_inN (by omega) (by decide)) ?_
                                          rw [mI_clampN (by omega), hBg2.2.2.2.1 (L' + gx).toNat (U' + gy).toNat (by omega) (by omega)]
                                          have q1 := hBf.2.2.2.2 (L.toNat + x) (U.toNat + y)
                                          have q2 := hBg.2.2.2.2 (L' + gx).toNat (U' + gy).toNat
                                          refine mu_icmp_ne (tgt := 333) B dX12_congruent_326 (by decide) (fun c326 => ?_) (fun c326 => ?_)
                                          · try rw [mI_eq ⟨by omega, by omega⟩ ⟨by omega, by omega⟩] at c326
                                            refine mu_iconst (v := mI 0) B dX12_congruent_333 rfl ?_
                                            refine mu_is_10 B dX12_congruent_334 (by decide) rfl ?_
                                            refine mu_inc_12 (c := mI 1) B dX12_congruent_336 rfl (by decide) rfl ?_
                                            rw [mI_add]
                                            refine mu_goto (tgt := 195) B dX12_congruent_339 (by decide) ?_
                                            refine mu_fg (ih 0 (by omega) (Or.inr ⟨rfl, x, y, by omega, by omega, fun e9 => ?_⟩)) rfl (by rw [show ((x + 1 : Nat) : Int) = (x : Int) + 1 by omega]; exact ⟨Or.inl rfl, Or.inl rfl, Or.inl rfl, Or.inl rfl, Or.inl rfl, Or.inl rfl, Or.inl rfl, Or.inl rfl, Or.inl rfl, Or.inl rfl, Or.inl rfl, Or.inl rfl, Or.inl rfl, Or.inr rfl, Or.inr rfl, Or.inr rfl, Or.inr rfl, trivial⟩)
                                            rw [← hgx, ← hgy] at e9
                                            exact c326 (by omega)
                                          · try rw [mI_eq ⟨by omega, by omega⟩ ⟨by omega, by omega⟩] at c326
                                            refine mu_iconst (v := mI 1) B dX12_congruent_329 rfl ?_
                                            refine mu_goto (tgt := 334) B dX12_congruent_330 (by decide) ?_
                                            refine mu_is_10 B dX12_congruent_334 (by decide) rfl ?_
                                            refine mu_inc_12 (c := mI 1) B dX12_congruent_336 rfl (by decide) rfl ?_
                                            rw [mI_add]
                                            refine mu_goto (tgt := 195) B dX12_congruent_339 (by decide) ?_
                                            refine mu_fg (ih 1 (by omega) (Or.inl ⟨rfl, fun i j h1 h2 => ?_⟩)) rfl (by rw [show ((x + 1 : Nat) : Int) = (x : Int) + 1 by omega]; exact ⟨Or.inl rfl, Or.inl rfl, Or.inl rfl, Or.inl rfl, Or.inl rfl, Or.inl rfl, Or.inl rfl, Or.inl rfl, Or.inl rfl, Or.inl rfl, Or.inl rfl, Or.inl rfl, Or.inl rfl, Or.inr rfl, Or.inr rfl, Or.inr rfl, Or.inr rfl, trivial⟩)
                                            by_cases e9 : j = y ∧ i = x
                                            · rw [e9.1, e9.2, ← hgx, ← hgy]; omega
                                            · exact hpre i j h1 (by omega)
                                        refine mu_il_8 B dX12_congruent_207 ?_
                                        refine mu_iconst (v := mI 1) B dX12_congruent_209 rfl ?_
                                        refine mu_iand B dX12_congruent_210 ?_
                                        refine mu_if_eq (tgt := 222) B dX12_congruent_211 (by decide) (fun c211 => ?_) (fun c211 => ?_)
                                        · rw [cg_1 t ht] at c211
                                          refine mu_il_12 B dX12_congruent_222 ?_
                                          refine mu_is_13 B dX12_congruent_224 (by decide) rfl ?_
                                          refine mu_il_8 B dX12_congruent_226 ?_
                                          refine mu_iconst (v := mI 2) B dX12_congruent_228 rfl ?_
                                          refine mu_iand B dX12_congruent_229 ?_
                                          refine mu_if_eq (tgt := 241) B dX12_congruent_230 (by decide) (fun c230 => ?_) (fun c230 => ?_)
                                          · rw [cg_2 t ht] at c230
                                            refine mu_il_11 B dX12_congruent_241 ?_
                                            refine mu_is_14 B dX12_congruent_243 (by decide) rfl ?_
                                            refine mu_il_9 B dX12_congruent_245 ?_
                                            refine mu_if_eq (tgt := 255) B dX12_congruent_247 (by decide) (fun c247 => ?_) (fun c247 => ?_)
                                            · try rw [mI_eq0 ⟨by omega, by omega⟩] at c247
                                              refine mu_il_13 B dX12_congruent_255 ?_
                                              refine mu_is_15 B dX12_congruent_257 (by decide) rfl ?_
                                              refine mu_il_9 B dX12_congruent_259 ?_
                                              refine mu_if_eq (tgt := 269) B dX12_congruent_261 (by decide) (fun c261 => ?_) (fun c261 => ?_)
                                              · try rw [mI_eq0 ⟨by omega, by omega⟩] at c261
                                                refine mu_il_14 B dX12_congruent_269 ?_
                                                refine mu_is_16 B dX12_congruent_271 (by decide) rfl ?_
                                                first | (exfalso; omega) | exact K273 _ _ _ _ (by unfold sp_tx sp_ta sp_tb; by_cases q1 : 4 ≤ t <;> by_cases q2 : t % 2 = 1 <;> by_cases q3 : t / 2 % 2 = 1 <;> simp only [q1, q2, q3, if_true, if_false] <;> omega) (by unfold sp_ty sp_ta sp_tb; by_cases q1 : 4 ≤ t <;> by_cases q2 : t % 2 = 1 <;> by_cases q3 : t / 2 % 2 = 1 <;> simp only [q1, q2, q3, if_true, if_false] <;> omega)
                                              · try rw [mI_eq0 ⟨by omega, by omega⟩] at c261
                                                refine mu_il_13 B dX12_congruent_264 ?_
                                                refine mu_goto (tgt := 271) B dX12_congruent_266 (by decide) ?_
                                                refine mu_is_16 B dX12_congruent_271 (by decide) rfl ?_
                                                first | (exfalso; omega) | exact K273 _ _ _ _ (by unfold sp_tx sp_ta sp_tb; by_cases q1 : 4 ≤ t <;> by_cases q2 : t % 2 = 1 <;> by_cases q3 : t / 2 % 2 = 1 <;> simp only [q1, q2, q3, if_true, if_false] <;> omega) (by unfold sp_ty sp_ta sp_tb; by_cases q1 : 4 ≤ t <;> by_cases q2 : t % 2 = 1 <;> by_cases q3 : t / 2 % 2 = 1 <;> simp only [q1, q2, q3, if_true, if_false] <;> omega)
                                            · try rw [mI_eq0 ⟨by omega, by omega⟩] at c247
                                              refine mu_il_14 B dX12_congruent_250 ?_
                                              refine mu_goto (tgt := 257) B dX12_congruent_252 (by decide) ?_
                                              refine mu_is_15 B dX12_congruent_257 (by decide) rfl ?_
                                              refine mu_il_9 B dX12_congruent_259 ?_
                                              refine mu_if_eq (tgt := 269) B dX12_congruent_261 (by decide) (fun c261 => ?_) (fun c261 => ?_)
                                              · try rw [mI_eq0 ⟨by omega, by omega⟩] at c261
                                                refine mu_il_14 B dX12_congruent_269 ?_
                                                refine mu_is_16 B dX12_congruent_271 (by decide) rfl ?_
                                                first | (exfalso; omega) | exact K273 _ _ _ _ (by unfold sp_tx sp_ta sp_tb; by_cases q1 : 4 ≤ t <;> by_cases q2 : t % 2 = 1 <;> by_cases q3 : t / 2 % 2 = 1 <;> simp only [q1, q2, q3, if_true, if_false] <;> omega) (by unfold sp_ty sp_ta sp_tb; by_cases q1 : 4 ≤ t <;> by_cases q2 : t % 2 = 1 <;> by_cases q3 : t / 2 % 2 = 1 <;> simp only [q1, q2, q3, if_true, if_false] <;> omega)
                                              · try rw [mI_eq0 ⟨by omega, by omega⟩] at c261
                                                refine mu_il_13 B dX12_congruent_264 ?_
                                                refine mu_goto (tgt := 271) B dX12_congruent_266 (by decide) ?_
                                                refine mu_is_16 B dX12_congruent_271 (by decide) rfl ?_
                                                first | (exfalso; omega) | exact K273 _ _ _ _ (by unfold sp_tx sp_ta sp_tb; by_cases q1 : 4 ≤ t <;> by_cases q2 : t % 2 = 1 <;> by_cases q3 : t / 2 % 2 = 1 <;> simp only [q1, q2, q3, if_true, if_false] <;> omega) (by unfold sp_ty sp_ta sp_tb; by_cases q1 : 4 ≤ t <;> by_cases q2 : t % 2 = 1 <;> by_cases q3 : t / 2 % 2 = 1 <;> simp only [q1, q2, q3, if_true, if_false] <;> omega)
                                          · rw [cg_2 t ht] at c230
                                            refine mu_il_6 B dX12_congruent_233 ?_
                                            refine mu_il_11 B dX12_congruent_235 ?_
                                            refine mu_isub B dX12_congruent_237 ?_
                                            try rw [mI_sub]
                                            refine mu_goto (tgt := 243) B dX12_congruent_238 (by decide) ?_
                                            refine mu_is_14 B dX12_congruent_243 (by decide) rfl ?_
                                            refine mu_il_9 B dX12_congruent_245 ?_
                                            refine mu_if_eq (tgt := 255) B dX12_congruent_247 (by decide) (fun c247 => ?_) (fun c247 => ?_)
                                            · try rw [mI_eq0 ⟨by omega, by omega⟩] at c247
                                              refine mu_il_13 B dX12_congruent_255 ?_
                                              refine mu_is_15 B dX12_congruent_257 (by decide) rfl ?_
                                              refine mu_il_9 B dX12_congruent_259 ?_
                                              refine mu_if_eq (tgt := 269) B dX12_congruent_261 (by decide) (fun c261 => ?_) (fun c261 => ?_)
                                              · try rw [mI_eq0 ⟨by omega, by omega⟩] at c261
                                                refine mu_il_14 B dX12_congruent_269 ?_
                                                refine mu_is_16 B dX12_congruent_271 (by decide) rfl ?_
                                                first | (exfalso; omega) | exact K273 _ _ _ _ (by unfold sp_tx sp_ta sp_tb; by_cases q1 : 4 ≤ t <;> by_cases q2 : t % 2 = 1 <;> by_cases q3 : t / 2 % 2 = 1 <;> simp only [q1, q2, q3, if_true, if_false] <;> omega) (by unfold sp_ty sp_ta sp_tb; by_cases q1 : 4 ≤ t <;> by_cases q2 : t % 2 = 1 <;> by_cases q3 : t / 2 % 2 = 1 <;> simp only [q1, q2, q3, if_true, if_false] <;> omega)
                                              · try rw [mI_eq0 ⟨by omega, by omega⟩] at c261
                                                refine mu_il_13 B dX12_congruent_264 ?_
                                                refine mu_goto (tgt := 271) B dX12_congruent_266 (by decide) ?_
                                                refine mu_is_16 B dX12_congruent_271 (by decide) rfl ?_
                                                first | (exfalso; omega) | exact K273 _ _ _ _ (by unfold sp_tx sp_ta sp_tb; by_cases q1 : 4 ≤ t <;> by_cases q2 : t % 2 = 1 <;> by_cases q3 : t / 2 % 2 = 1 <;> simp only [q1, q2, q3, if_true, if_false] <;> omega) (by unfold sp_ty sp_ta sp_tb; by_cases q1 : 4 ≤ t <;> by_cases q2 : t % 2 = 1 <;> by_cases q3 : t / 2 % 2 = 1 <;> simp only [q1, q2, q3, if_true, if_false] <;> omega)
                                            · try rw [mI_eq0 ⟨by omega, by omega⟩] at c247
                                              refine mu_il_14 B dX12_congruent_250 ?_
                                              refine mu_goto (tgt := 257) B dX12_congruent_252 (by decide) ?_
                                              refine mu_is_15 B dX12_congruent_257 (by decide) rfl ?_
                                              refine mu_il_9 B dX12_congruent_259 ?_
                                              refine mu_if_eq (tgt := 269) B dX12_congruent_261 (by decide) (fun c261 => ?_) (fun c261 => ?_)
                                              · try rw [mI_eq0 ⟨by omega, by omega⟩] at c261
                                                refine mu_il_14 B dX12_congruent_269 ?_
                                                refine mu_is_16 B dX12_congruent_271 (by decide) rfl ?_
                                                first | (exfalso; omega) | exact K273 _ _ _ _ (by unfold sp_tx sp_ta sp_tb; by_cases q1 : 4 ≤ t <;> by_cases q2 : t % 2 = 1 <;> by_cases q3 : t / 2 % 2 = 1 <;> simp only [q1, q2, q3, if_true, if_false] <;> omega) (by unfold sp_ty sp_ta sp_tb; by_cases q1 : 4 ≤ t <;> by_cases q2 : t % 2 = 1 <;> by_cases q3 : t / 2 % 2 = 1 <;> simp only [q1, q2, q3, if_true, if_false] <;> omega)
                                              · try rw [mI_eq0 ⟨by omega, by omega⟩] at c261
                                                refine mu_il_13 B dX12_congruent_264 ?_
                                                refine mu_goto (tgt := 271) B dX12_congruent_266 (by decide) ?_
                                                refine mu_is_16 B dX12_congruent_271 (by decide) rfl ?_
                                                first | (exfalso; omega) | exact K273 _ _ _ _ (by unfold sp_tx sp_ta sp_tb; by_cases q1 : 4 ≤ t <;> by_cases q2 : t % 2 = 1 <;> by_cases q3 : t / 2 % 2 = 1 <;> simp only [q1, q2, q3, if_true, if_false] <;> omega) (by unfold sp_ty sp_ta sp_tb; by_cases q1 : 4 ≤ t <;> by_cases q2 : t % 2 = 1 <;> by_cases q3 : t / 2 % 2 = 1 <;> simp only [q1, q2, q3, if_true, if_false] <;> omega)
                                        · rw [cg_1 t ht] at c211
                                          refine mu_il_5 B dX12_congruent_214 ?_
                                          refine mu_il_12 B dX12_congruent_216 ?_
                                          refine mu_isub B dX12_congruent_218 ?_
                                          try rw [mI_sub]
                                          refine mu_goto (tgt := 224) B dX12_congruent_219 (by decide) ?_
                                          refine mu_is_13 B dX12_congruent_224 (by decide) rfl ?_
                                          refine mu_il_8 B dX12_congruent_226 ?_
                                          refine mu_iconst (v := mI 2) B dX12_congruent_228 rfl ?_
                                          refine mu_iand B dX12_congruent_229 ?_
                                          refine mu_if_eq (tgt := 241) B dX12_congruent_230 (by decide) (fun c230 => ?_) (fun c230 => ?_)
                                          · rw [cg_2 t ht] at c230
                                            refine mu_il_11 B dX12_congruent_241 ?_
                                            refine mu_is_14 B dX12_congruent_243 (by decide) rfl ?_
                                            refine mu_il_9 B dX12_congruent_245 ?_
                                            refine mu_if_eq (tgt := 255) B dX12_congruent_247 (by decide) (fun c247 => ?_) (fun c247 => ?_)
                                            · try rw [mI_eq0 ⟨by omega, by omega⟩] at c247
                                              refine mu_il_13 B dX12_congruent_255 ?_
                                              refine mu_is_15 B dX12_congruent_257 (by decide) rfl ?_
                                              refine mu_il_9 B dX12_congruent_259 ?_
                                              refine mu_if_eq (tgt := 269) B dX12_congruent_261 (by decide) (fun c261 => ?_) (fun c261 => ?_)
                                              · try rw [mI_eq0 ⟨by omega, by omega⟩] at c261
                                                refine mu_il_14 B dX12_congruent_269 ?_
                                                refine mu_is_16 B dX12_congruent_271 (by decide) rfl ?_
                                                first | (exfalso; omega) | exact K273 _ _ _ _ (by unfold sp_tx sp_ta sp_tb; by_cases q1 : 4 ≤ t <;> by_cases q2 : t % 2 = 1 <;> by_cases q3 : t / 2 % 2 = 1 <;> simp only [q1, q2, q3, if_true, if_false] <;> omega) (by unfold sp_ty sp_ta sp_tb; by_cases q1 : 4 ≤ t <;> by_cases q2 : t % 2 = 1 <;> by_cases q3 : t / 2 % 2 = 1 <;> simp only [q1, q2, q3, if_true, if_false] <;> omega)
                                              · try rw [mI_eq0 ⟨by omega, by omega⟩] at c261
                                                refine mu_il_13 B dX12_congruent_264 ?_
                                                refine mu_goto (tgt := 271) B dX12_congruent_266 (by decide) ?_
                                                refine mu_is_16 B dX12_congruent_271 (by decide) rfl ?_
                                                first | (exfalso; omega) | exact K273 _ _ _ _ (by unfold sp_tx sp_ta sp_tb; by_cases q1 : 4 ≤ t <;> by_cases q2 : t % 2 = 1 <;> by_cases q3 : t / 2 % 2 = 1 <;> simp only [q1, q2, q3, if_true, if_false] <;> omega) (by unfold sp_ty sp_ta sp_tb; by_cases q1 : 4 ≤ t <;> by_cases q2 : t % 2 = 1 <;> by_cases q3 : t / 2 % 2 = 1 <;> simp only [q1, q2, q3, if_true, if_false] <;> omega)
                                            · try rw [mI_eq0 ⟨by omega, by omega⟩] at c247
                                              refine mu_il_14 B dX12_congruent_250 ?_
                                              refine mu_goto (tgt := 257) B dX12_congruent_252 (by decide) ?_
                                              refine mu_is_15 B dX12_congruent_257 (by decide) rfl ?_
                                              refine mu_il_9 B dX12_congruent_259 ?_
                                              refine mu_if_eq (tgt := 269) B dX12_congruent_261 (by decide) (fun c261 => ?_) (fun c261 => ?_)
                                              · try rw [mI_eq0 ⟨by omega, by omega⟩] at c261
                                                refine mu_il_14 B dX12_congruent_269 ?_
                                                refine mu_is_16 B dX12_congruent_271 (by decide) rfl ?_
                                                first | (exfalso; omega) | exact K273 _ _ _ _ (by unfold sp_tx sp_ta sp_tb; by_cases q1 : 4 ≤ t <;> by_cases q2 : t % 2 = 1 <;> by_cases q3 : t / 2 % 2 = 1 <;> simp only [q1, q2, q3, if_true, if_false] <;> omega) (by unfold sp_ty sp_ta sp_tb; by_cases q1 : 4 ≤ t <;> by_cases q2 : t % 2 = 1 <;> by_cases q3 : t / 2 % 2 = 1 <;> simp only [q1, q2, q3, if_true, if_false] <;> omega)
                                              · try rw [mI_eq0 ⟨by omega, by omega⟩] at c261
                                                refine mu_il_13 B dX12_congruent_264 ?_
                                                refine mu_goto (tgt := 271) B dX12_congruent_266 (by decide) ?_
                                                refine mu_is_16 B dX12_congruent_271 (by decide) rfl ?_
                                                first | (exfalso; omega) | exact K273 _ _ _ _ (by unfold sp_tx sp_ta sp_tb; by_cases q1 : 4 ≤ t <;> by_cases q2 : t % 2 = 1 <;> by_cases q3 : t / 2 % 2 = 1 <;> simp only [q1, q2, q3, if_true, if_false] <;> omega) (by unfold sp_ty sp_ta sp_tb; by_cases q1 : 4 ≤ t <;> by_cases q2 : t % 2 = 1 <;> by_cases q3 : t / 2 % 2 = 1 <;> simp only [q1, q2, q3, if_true, if_false] <;> omega)
                                          · rw [cg_2 t ht] at c230
                                            refine mu_il_6 B dX12_congruent_233 ?_
                                            refine mu_il_11 B dX12_congruent_235 ?_
                                            refine mu_isub B dX12_congruent_237 ?_
                                            try rw [mI_sub]
                                            refine mu_goto (tgt := 243) B dX12_congruent_238 (by decide) ?_
                                            refine mu_is_14 B dX12_congruent_243 (by decide) rfl ?_
                                            refine mu_il_9 B dX12_congruent_245 ?_
                                            refine mu_if_eq (tgt := 255) B dX12_congruent_247 (by decide) (fun c247 => ?_) (fun c247 => ?_)
                                            · try rw [mI_eq0 ⟨by omega, by omega⟩] at c247
                                              refine mu_il_13 B dX12_congruent_255 ?_
                                              refine mu_is_15 B dX12_congruent_257 (by decide) rfl ?_
                                              refine mu_il_9 B dX12_congruent_259 ?_
                                              refine mu_if_eq (tgt := 269) B dX12_congruent_261 (by decide) (fun c261 => ?_) (fun c261 => ?_)
                                              · try rw [mI_eq0 ⟨by omega, by omega⟩] at c261
                                                refine mu_il_14 B dX12_congruent_269 ?_
                                                refine mu_is_16 B dX12_congruent_271 (by decide) rfl ?_
                                                first | (exfalso; omega) | exact K273 _ _ _ _ (by unfold sp_tx sp_ta sp_tb; by_cases q1 : 4 ≤ t <;> by_cases q2 : t % 2 = 1 <;> by_cases q3 : t / 2 % 2 = 1 <;> simp only [q1, q2, q3, if_true, if_false] <;> omega) (by unfold sp_ty sp_ta sp_tb; by_cases q1 : 4 ≤ t <;> by_cases q2 : t % 2 = 1 <;> by_cases q3 : t / 2 % 2 = 1 <;> simp only [q1, q2, q3, if_true, if_false] <;> omega)
                                              · try rw [mI_eq0 ⟨by omega, by omega⟩] at c261
                                                refine mu_il_13 B dX12_congruent_264 ?_
                                                refine mu_goto (tgt := 271) B dX12_congruent_266 (by decide) ?_
                                                refine mu_is_16 B dX12_congruent_271 (by decide) rfl ?_
                                                first | (exfalso; omega) | exact K273 _ _ _ _ (by unfold sp_tx sp_ta sp_tb; by_cases q1 : 4 ≤ t <;> by_cases q2 : t % 2 = 1 <;> by_cases q3 : t / 2 % 2 = 1 <;> simp only [q1, q2, q3, if_true, if_false] <;> omega) (by unfold sp_ty sp_ta sp_tb; by_cases q1 : 4 ≤ t <;> by_cases q2 : t % 2 = 1 <;> by_cases q3 : t / 2 % 2 = 1 <;> simp only [q1, q2, q3, if_true, if_false] <;> omega)
                                            · try rw [mI_eq0 ⟨by omega, by omega⟩] at c247
                                              refine mu_il_14 B dX12_congruent_250 ?_
                                              refine mu_goto (tgt := 257) B dX12_congruent_252 (by decide) ?_
                                              refine mu_is_15 B dX12_congruent_257 (by decide) rfl ?_
                                              refine mu_il_9 B dX12_congruent_259 ?_
                                              refine mu_if_eq (tgt := 269) B dX12_congruent_261 (by decide) (fun c261 => ?_) (fun c261 => ?_)
                                              · try rw [mI_eq0 ⟨by omega, by omega⟩] at c261
                                                refine mu_il_14 B dX12_congruent_269 ?_
                                                refine mu_is_16 B dX12_congruent_271 (by decide) rfl ?_
                                                first | (exfalso; omega) | exact K273 _ _ _ _ (by unfold sp_tx sp_ta sp_tb; by_cases q1 : 4 ≤ t <;> by_cases q2 : t % 2 = 1 <;> by_cases q3 : t / 2 % 2 = 1 <;> simp only [q1, q2, q3, if_true, if_false] <;> omega) (by unfold sp_ty sp_ta sp_tb; by_cases q1 : 4 ≤ t <;> by_cases q2 : t % 2 = 1 <;> by_cases q3 : t / 2 % 2 = 1 <;> simp only [q1, q2, q3, if_true, if_false] <;> omega)
                                              · try rw [mI_eq0 ⟨by omega, by omega⟩] at c261
                                                refine mu_il_13 B dX12_congruent_264 ?_
                                                refine mu_goto (tgt := 271) B dX12_congruent_266 (by decide) ?_
                                                refine mu_is_16 B dX12_congruent_271 (by decide) rfl ?_
                                                first | (exfalso; omega) | exact K273 _ _ _ _ (by unfold sp_tx sp_ta sp_tb; by_cases q1 : 4 ≤ t <;> by_cases q2 : t % 2 = 1 <;> by_cases q3 : t / 2 % 2 = 1 <;> simp only [q1, q2, q3, if_true, if_false] <;> omega) (by unfold sp_ty sp_ta sp_tb; by_cases q1 : 4 ≤ t <;> by_cases q2 : t % 2 = 1 <;> by_cases q3 : t / 2 % 2 = 1 <;> simp only [q1, q2, q3, if_true, if_false] <;> omega)
                                  exact mu_fg (LX 0 1 (by omega) (Or.inl ⟨rfl, fun i j h1 h2 => hpre i j h1 (by omega)⟩)) rfl (⟨Or.inl rfl, Or.inl rfl, Or.inl rfl, Or.inl rfl, Or.inl rfl, Or.inl rfl, Or.inl rfl, Or.inl rfl, Or.inl rfl, Or.inl rfl, Or.inl rfl, Or.inl rfl, Or.inl rfl, Or.inr rfl, Or.inr rfl, Or.inr rfl, Or.inr rfl, trivial⟩)
                            exact LY 0 1 (by omega) (Or.inl ⟨rfl, fun i j h1 h2 => absurd h2 (Nat.not_lt_zero j)⟩)
                      · try rw [mI_eq ⟨by omega, by omega⟩ ⟨by omega, by omega⟩] at c168
                        refine mu_goto (tgt := 355) B dX12_congruent_171 (by decide) ?_
                        first | (exfalso; omega) | exact KN (fun hh9 => by have h91 := hh9.1; have h92 := hh9.2.1; by_cases q1 : 4 ≤ t <;> simp only [q1, if_true, if_false] at h91 h92 <;> omega) _ _ _ _ _ _ _ _
              refine mu_il_8 B dX12_congruent_109 ?_
              refine mu_iconst (v := mI 4) B dX12_congruent_111 rfl ?_
              refine mu_iand B dX12_congruent_112 ?_
              refine mu_if_eq (tgt := 120) B dX12_congruent_113 (by decide) (fun c113 => ?_) (fun c113 => ?_)
              · rw [cg_4 t ht] at c113
                refine mu_iconst (v := mI 0) B dX12_congruent_120 rfl ?_
                refine mu_is_9 B dX12_congruent_121 (by decide) rfl ?_
                exact KA _ (by omega)
              · rw [cg_4 t ht] at c113
                refine mu_iconst (v := mI 1) B dX12_congruent_116 rfl ?_
                refine mu_goto (tgt := 121) B dX12_congruent_117 (by decide) ?_
                refine mu_is_9 B dX12_congruent_121 (by decide) rfl ?_
                exact KA _ (by omega)
          refine mu_iconst (v := mI 0) B dX12_congruent_99 rfl ?_
          refine mu_is_8 B dX12_congruent_100 (by decide) rfl ?_
          exact mu_fg (LT 0 () (by decide) (fun q hq => absurd hq (Nat.not_lt_zero q))) rfl (⟨Or.inl rfl, Or.inl rfl, Or.inl rfl, Or.inl rfl, Or.inl rfl, Or.inl rfl, Or.inl rfl, Or.inl rfl, Or.inl rfl, Or.inr rfl, Or.inr rfl, Or.inr rfl, Or.inr rfl, Or.inr rfl, Or.inr rfl, Or.inr rfl, Or.inr rfl, trivial⟩)
        · try rw [mI_eq0 ⟨by omega, by omega⟩] at c94
          refine mu_iconst (v := mI 1) B dX12_congruent_97 rfl ?_
          refine mu_iret E rfl (by decide) (by decide) dX12_congruent_98 ?_
          unfold cg_post
          rw [if_pos ⟨⟨by omega, by omega⟩, by omega, by omega⟩]
          exact ⟨hF2, fun _ => rfl, fun hh9 => absurd ⟨L, R, U, D, L', R', U', D', M, hlk, by rw [show M = M' by omega]; exact hlk2, Or.inl (by omega)⟩ hh9⟩
      · try rw [mI_eq ⟨by omega, by omega⟩ ⟨by omega, by omega⟩] at c87
        refine mu_iconst (v := mI 0) B dX12_congruent_90 rfl ?_
        refine mu_iret E rfl (by decide) (by decide) dX12_congruent_91 ?_
        unfold cg_post
        rw [if_pos ⟨⟨by omega, by omega⟩, by omega, by omega⟩]
        exact ⟨hF2, fun hh9 => absurd hh9 (cg_no hlk hlk2 (Or.inl (by omega))), fun _ => rfl⟩
    · have z13 := mu_bf c13
      refine mu_iconst (v := mI (-1)) B dX12_congruent_16 rfl ?_
      refine mu_iret E rfl (by decide) (by decide) dX12_congruent_17 ?_
      unfold cg_post
      first | (rw [if_neg (fun hh => z5 hh.1)]; exact ⟨rfl, rfl⟩) | (rw [if_neg (fun hh => z13 hh.2)]; exact ⟨rfl, rfl⟩)
