/-! ===== one step of a field ===== -/
def sp_stp (nb bo st : Nat) (c : Nat → Nat → Nat) : Nat → Nat → Nat := fun x y => if x < 256 ∧ y < 256 then sp_af 256 256 c nb bo st x y else 0
theorem sp_af_le {W H : Nat} {c : Nat → Nat → Nat} {nb bo st : Nat} {x y : Int} : sp_af W H c nb bo st x y ≤ 1 := by
  unfold sp_af
  have := Nat.mod_lt ((if sp_al W H c x y = 1 then st else bo) / 2 ^ sp_ne W H c nb x y) (show 0 < 2 by decide)
  omega
theorem sp_al_box {c : Nat → Nat → Nat} (h1 : ∀ i j, c i j ≤ 1) {L R U D : Int} (hb : ∀ i j, i < 256 → j < 256 → c i j = 1 → L ≤ i ∧ (i : Int) ≤ R ∧ U ≤ j ∧ (j : Int) ≤ D) {x y : Int} (h : x < L ∨ R < x ∨ y < U ∨ D < y) : sp_al 256 256 c x y = 0 := by
  unfold sp_al
  by_cases hh : 0 ≤ x ∧ 0 ≤ y ∧ x < (256 : Nat) ∧ y < (256 : Nat)
  · rw [if_pos hh]
    have h2 := h1 x.toNat y.toNat
    by_cases h3 : c x.toNat y.toNat = 1
    · have := hb x.toNat y.toNat (by omega) (by omega) h3
      omega
    · omega
  · rw [if_neg hh]
theorem sp_af_out {c : Nat → Nat → Nat} (h1 : ∀ i j, c i j ≤ 1) {nb bo st : Nat} (hbo : bo % 2 = 0) {L R U D : Int} (hb : ∀ i j, i < 256 → j < 256 → c i j = 1 → L ≤ i ∧ (i : Int) ≤ R ∧ U ≤ j ∧ (j : Int) ≤ D) {x y : Int} (h : x + 1 < L ∨ R + 1 < x ∨ y + 1 < U ∨ D + 1 < y) : sp_af 256 256 c nb bo st x y = 0 := by
  unfold sp_af
  have z : ∀ dx dy : Int, -1 ≤ dx → dx ≤ 1 → -1 ≤ dy → dy ≤ 1 → sp_al 256 256 c (x + dx) (y + dy) = 0 := fun dx dy a1 a2 a3 a4 => sp_al_box h1 hb (by omega)
  have hne : sp_ne 256 256 c nb x y = 0 := by
    unfold sp_ne
    rw [show x - 1 = x + -1 by omega, show y - 1 = y + -1 by omega]
    have e1 := z (-1) 0 (by decide) (by decide) (by decide) (by decide)
    have e2 := z 1 0 (by decide) (by decide) (by decide) (by decide)
    have e3 := z 0 (-1) (by decide) (by decide) (by decide) (by decide)
    have e4 := z 0 1 (by decide) (by decide) (by decide) (by decide)
    rw [Int.add_zero] at e1 e2 e3 e4
    rw [e1, e2, e3, e4, z (-1) (-1) (by decide) (by decide) (by decide) (by decide), z 1 1 (by decide) (by decide) (by decide) (by decide), z 1 (-1) (by decide) (by decide) (by decide) (by decide), z (-1) 1 (by decide) (by decide) (by decide) (by decide)]
    simp
  rw [hne, sp_al_box h1 hb (by omega), if_neg (by decide)]
  simpa using hbo
/-- the board where a part of the step has been laid -/
def sp_mix (c d : Nat → Nat → Nat) (x0 x1 y0 : Nat) (y x : Nat) : Nat → Nat → Nat := fun i j => if x0 ≤ i ∧ i ≤ x1 ∧ y0 ≤ j ∧ (j < y ∨ (j = y ∧ i < x)) then d i j else c i j
def st_S (m a fr : Nat) : Nat → Nat → Prop := fun q j => (q = m ∧ 19 ≤ j ∧ j ≤ 23) ∨ q = m + 12 ∨ (q = a ∧ fr ≤ j ∧ j < fr + 65536)
def st_post (w : mu_W) (m a N fr : Nat) (c : Nat → Nat → Nat) (r : Option Value) (w' : mu_W) : Prop := r = none ∧ Bd w' a N fr 256 256 c ∧ mu_Fi (st_S m a fr) w w'

set_option maxHeartbeats 4000000 in
set_option maxRecDepth 100000 in
theorem c_X12_step (G : mu_G) {w : mu_W} {m : Nat} (hm : mo_ok w m) {nr : Nat} {rs : Nat → mu_RS} (hru : MRu w m nr rs) {k : Nat} (hk : k < nr) (hq : rs_nb (rs k) ≠ 0) (hbo : rs_bo (rs k) % 2 = 0) {a N fr : Nat} {c : Nat → Nat → Nat} (hB : Bd w a N fr 256 256 c) (hne2 : a ≠ m + 12) (hne3 : ¬ (m + 2 ≤ a ∧ a ≤ m + 8)) : mu_Ct G M_X12_step [.ref m, .int (mI k), .ref a, .int (mI fr)] w (st_post w m a N fr (sp_stp (rs_nb (rs k)) (rs_bo (rs k)) (rs_st (rs k)) c)) := by
  have hk0 := hm.1
  have hN := hB.2.1
  have hfr := hB.2.2.1
  have hne : a ≠ m := fun e => by have h1 := hB.1; rw [e, hk0] at h1; cases h1
  have hstp : ∀ i j, (sp_stp (rs_nb (rs k)) (rs_bo (rs k)) (rs_st (rs k)) c) i j ≤ 1 := fun i j => by
    unfold sp_stp
    by_cases h : i < 256 ∧ j < 256
    · rw [if_pos h]; exact sp_af_le
    · rw [if_neg h]; decide
  refine mu_ofWA G M_X12_step [.ref m, .int (mI k), .ref a, .int (mI fr), mu_no, mu_no, mu_no, mu_no, mu_no, mu_no] (by decide) rfl (Nat.le_of_ble_eq_true rfl) ?_
  intro X E
  have B : mu_B X G cX12_step RX12 10 (mu_rm M_X12_step) := E.1
  show mu_WA X G 10 _ _ 0 0 0 _ []
  refine mu_al_0 B dX12_step_0 ?_
  refine mu_al_2 B dX12_step_1 ?_
  refine mu_il_3 B dX12_step_2 ?_
  refine mu_cV2 B dX12_step_3 mX12_204 ⟨⟨by decide, by decide⟩, by decide, by decide⟩ (Nat.le_of_ble_eq_true rfl) (by assumption) (c_X12_look G hm hB) (fun r3 w3 q3 => ?_)
  obtain ⟨rfl, L, R, U, D, M, hlk, ⟨h19, h20, h21, h22, h23⟩, hF3⟩ := q3
  generalize w3 = w3 at *
  have hm3 := hm.fi hF3
  have hk3 := hm3.1
  have hru3 : MRu w3 m nr rs := hru.eqs (hF3.2.2.2 m 3 (by unfold lk_S; omega)).1 (fun q r h5 h6 h7 => (hF3.2.2.2 q r (by unfold lk_S; omega)).1) (fun j hj => (hF3.2.2.2 _ j (by unfold lk_S; omega)).1) (fun j hj => (hF3.2.2.2 _ j (by unfold lk_S; omega)).1)
  have hB3 := hB.fi hF3 (fun j hj => hne hj.1)
  have hbd := hlk.bd
  have hMb : M ≤ 65536 := by rw [hlk.1]; have := cntR_le hB.2.2.2.2 256; have := cntX_le hB.2.2.2.2 256 0; omega
  refine mu_al_0 B dX12_step_6 ?_
  refine mu_getI B dX12_step_7 fX12_201 rfl (by assumption) ?_
  rw [h23]
  refine mu_if_ne (tgt := 14) B dX12_step_10 (by decide) (fun c10 => ?_) (fun c10 => ?_)
  · try rw [mI_eq0 ⟨by omega, by omega⟩] at c10
    have hbx := (hlk.2.2.2 (by omega)).1
    have hM : ∀ (x0i x1i y0i y1i : Int) (u8 u9 : Value), (L = 0 ∧ x0i = 0 ∨ L ≠ 0 ∧ x0i = L - 1) → (R = 255 ∧ x1i = R ∨ R ≠ 255 ∧ x1i = R + 1) → (U = 0 ∧ y0i = 0 ∨ U ≠ 0 ∧ y0i = U - 1) → (D = 255 ∧ y1i = D ∨ D ≠ 255 ∧ y1i = D + 1) → mu_WA X G 10 (mu_Q X G M_X12_step (st_post w m a N fr (sp_stp (rs_nb (rs k)) (rs_bo (rs k)) (rs_st (rs k)) c))) w3 0 0 102 [.ref m, .int (mI k), .ref a, .int (mI fr), .int (mI x0i), .int (mI x1i), .int (mI y0i), .int (mI y1i), u8, u9] [] := by
      intro x0i x1i y0i y1i u8 u9 e1 e2 e3 e4
      obtain ⟨x0, rfl⟩ : ∃ q : Nat, x0i = q := ⟨x0i.toNat, by omega⟩
      obtain ⟨x1, rfl⟩ : ∃ q : Nat, x1i = q := ⟨x1i.toNat, by omega⟩
      obtain ⟨y0, rfl⟩ : ∃ q : Nat, y0i = q := ⟨y0i.toNat, by omega⟩
      obtain ⟨y1, rfl⟩ : ∃ q : Nat, y1i = q := ⟨y1i.toNat, by omega⟩
      have hx1 : x1 < 256 := by omega
      have hy1 : y1 < 256 := by omega
      have hx01 : x0 ≤ x1 := by omega
      have hy01 : y0 ≤ y1 := by omega
      have hEq : ∀ w9, Bd w9 a N fr 256 256 (sp_mix c (sp_stp (rs_nb (rs k)) (rs_bo (rs k)) (rs_st (rs k)) c) x0 x1 y0 (y1 + 1) 0) → Bd w9 a N fr 256 256 (sp_stp (rs_nb (rs k)) (rs_bo (rs k)) (rs_st (rs k)) c) := by
        intro w9 h9
        refine ⟨h9.1, h9.2.1, h9.2.2.1, fun i j hi hj => ?_, hstp⟩
        rw [h9.2.2.2.1 i j hi hj]
        unfold sp_mix
        by_cases e8 : x0 ≤ i ∧ i ≤ x1 ∧ y0 ≤ j ∧ (j < y1 + 1 ∨ (j = y1 + 1 ∧ i < 0))
        · rw [if_pos e8]
        · rw [if_neg e8]
          unfold sp_stp
          rw [if_pos ⟨hi, hj⟩, sp_af_out hB.2.2.2.2 hbo (L := L) (R := R) (U := U) (D := D) (fun i j h1 h2 h3 => hlk.2.1 i j h1 (by omega) h3) (by omega)]
          have h8 := hB.2.2.2.2 i j
          by_cases h7 : c i j = 1
          · have := hlk.2.1 i j hi (by omega) h7; omega
          · rw [show c i j = 0 by omega]
      have LY2 : ∀ y (s : mu_W × Value), y ≤ y1 + 1 → (y0 ≤ y ∧ mu_Fi (st_S m a fr) w s.1 ∧ Bd s.1 a N fr 256 256 (sp_mix c (sp_stp (rs_nb (rs k)) (rs_bo (rs k)) (rs_st (rs k)) c) x0 x1 y0 y 0) ∧ (∀ i j, x0 ≤ i → i ≤ x1 → y0 ≤ j → j ≤ y1 → mu_iv s.1 (m + 12) (256 * j + i) = mI ((sp_stp (rs_nb (rs k)) (rs_bo (rs k)) (rs_st (rs k)) c) i j))) → mu_WA X G 10 (mu_Q X G M_X12_step (st_post w m a N fr (sp_stp (rs_nb (rs k)) (rs_bo (rs k)) (rs_st (rs k)) c))) s.1 0 0 172 [.ref m, .int (mI k), .ref a, .int (mI fr), .int (mI x0), .int (mI x1), .int (mI y0), .int (mI y1), .int (mI y), s.2] [] := by
        have L9 := mu_ind (y1 + 1) (fun y (s : mu_W × Value) => y0 ≤ y → mu_WA X G 10 (mu_Q X G M_X12_step (st_post w m a N fr (sp_stp (rs_nb (rs k)) (rs_bo (rs k)) (rs_st (rs k)) c))) s.1 0 0 172 [.ref m, .int (mI k), .ref a, .int (mI fr), .int (mI x0), .int (mI x1), .int (mI y0), .int (mI y1), .int (mI y), s.2] []) (fun y s => mu_Fi (st_S m a fr) w s.1 ∧ Bd s.1 a N fr 256 256 (sp_mix c (sp_stp (rs_nb (rs k)) (rs_bo (rs k)) (rs_st (rs k)) c) x0 x1 y0 y 0) ∧ (∀ i j, x0 ≤ i → i ≤ x1 → y0 ≤ j → j ≤ y1 → mu_iv s.1 (m + 12) (256 * j + i) = mI ((sp_stp (rs_nb (rs k)) (rs_bo (rs k)) (rs_st (rs k)) c) i j))) ?_
        · intro y s h1 h2; exact L9 y s h1 h2.2 h2.1
        rintro y ⟨w1, u9⟩ hy ⟨hF, hB1, hnx⟩ ihy hy0
        dsimp only at hF hB1 hnx ⊢
        replace ihy := fun s h1 h2 => ihy s h1 h2 (by omega)
        refine mu_il_8 B dX12_step_172 ?_
        refine mu_il_7 B dX12_step_174 ?_
        refine mu_icmp_gt (tgt := 229) B dX12_step_176 (by decide) (fun c176 => ?_) (fun c176 => ?_)
        · try rw [mI_lt ⟨by omega, by omega⟩ ⟨by omega, by omega⟩] at c176
          obtain rfl : y = y1 + 1 := by omega
          refine mu_vret E rfl (by decide) (by decide) dX12_step_229 ?_
          exact ⟨rfl, hEq _ hB1, hF⟩
        · try rw [mI_lt ⟨by omega, by omega⟩ ⟨by omega, by omega⟩] at c176
          refine mu_il_4 B dX12_step_179 ?_
          refine mu_is_9 B dX12_step_181 (by decide) rfl ?_
          have LX2 : ∀ x (s : mu_W), x ≤ x1 + 1 → (x0 ≤ x ∧ mu_Fi (st_S m a fr) w s ∧ Bd s a N fr 256 256 (sp_mix c (sp_stp (rs_nb (rs k)) (rs_bo (rs k)) (rs_st (rs k)) c) x0 x1 y0 y x) ∧ (∀ i j, x0 ≤ i → i ≤ x1 → y0 ≤ j → j ≤ y1 → mu_iv s (m + 12) (256 * j + i) = mI ((sp_stp (rs_nb (rs k)) (rs_bo (rs k)) (rs_st (rs k)) c) i j))) → mu_WA X G 10 (mu_Q X G M_X12_step (st_post w m a N fr (sp_stp (rs_nb (rs k)) (rs_bo (rs k)) (rs_st (rs k)) c))) s 0 0 183 [.ref m, .int (mI k), .ref a, .int (mI fr), .int (mI x0), .int (mI x1), .int (mI y0), .int (mI y1), .int (mI y), .int (mI x)] [] := by
            have L9 := mu_ind (x1 + 1) (fun x (s : mu_W) => x0 ≤ x → mu_WA X G 10 (mu_Q X G M_X12_step (st_post w m a N fr (sp_stp (rs_nb (rs k)) (rs_bo (rs k)) (rs_st (rs k)) c))) s 0 0 183 [.ref m, .int (mI k), .ref a, .int (mI fr), .int (mI x0), .int (mI x1), .int (mI y0), .int (mI y1), .int (mI y), .int (mI x)] []) (fun x s => mu_Fi (st_S m a fr) w s ∧ Bd s a N fr 256 256 (sp_mix c (sp_stp (rs_nb (rs k)) (rs_bo (rs k)) (rs_st (rs k)) c) x0 x1 y0 y x) ∧ (∀ i j, x0 ≤ i → i ≤ x1 → y0 ≤ j → j ≤ y1 → mu_iv s (m + 12) (256 * j + i) = mI ((sp_stp (rs_nb (rs k)) (rs_bo (rs k)) (rs_st (rs k)) c) i j))) ?_
            · intro x s h1 h2; exact L9 x s h1 h2.2 h2.1
            rintro x w1 hx ⟨hF, hB1, hnx⟩ ih hx0
            replace ih := fun s h1 h2 => ih s h1 h2 (by omega)
            have hk1 := (hm.fi hF).1
            have hm1 := hm.fi hF
            obtain ⟨r17, k17⟩ := mo_17 hm1
            have hka := hB1.1
            have hN1 := hB1.2.1
            have hfr1 := hB1.2.2.1
            refine mu_il_9 B dX12_step_183 ?_
            refine mu_il_5 B dX12_step_185 ?_
            refine mu_icmp_gt (tgt := 223) B dX12_step_187 (by decide) (fun c187 => ?_) (fun c187 => ?_)
            · try rw [mI_lt ⟨by omega, by omega⟩ ⟨by omega, by omega⟩] at c187
              obtain rfl : x = x1 + 1 := by omega
              refine mu_inc_8 (c := mI 1) B dX12_step_223 rfl (by decide) rfl ?_
              try rw [mI_add]
              refine mu_goto (tgt := 172) B dX12_step_226 (by decide) ?_
              refine mu_to (ihy (w1, .int (mI ((x1 + 1 : Nat) : Int))) (by omega) ⟨hF, ?_, hnx⟩) rfl (by rw [show ((y + 1 : Nat) : Int) = (y : Int) + 1 by omega])
              have e7 : sp_mix c (sp_stp (rs_nb (rs k)) (rs_bo (rs k)) (rs_st (rs k)) c) x0 x1 y0 (y + 1) 0 = sp_mix c (sp_stp (rs_nb (rs k)) (rs_bo (rs k)) (rs_st (rs k)) c) x0 x1 y0 y (x1 + 1) := by
                funext i j
                unfold sp_mix
                by_cases e8 : x0 ≤ i ∧ i ≤ x1 ∧ y0 ≤ j ∧ (j < y + 1 ∨ (j = y + 1 ∧ i < 0))
                · rw [if_pos e8, if_pos (by omega)]
                · rw [if_neg e8, if_neg (by omega)]
              rw [e7]
              exact hB1
            · try rw [mI_lt ⟨by omega, by omega⟩ ⟨by omega, by omega⟩] at c187
              refine mu_al_2 B dX12_step_190 ?_
              refine mu_il_3 B dX12_step_191 ?_
              refine mu_sipush (v := mI 256) B dX12_step_192 (by decide) ?_
              refine mu_il_8 B dX12_step_195 ?_
              refine mu_imul B dX12_step_197 ?_
              try rw [mI_mul]
              refine mu_iadd B dX12_step_198 ?_
              try rw [mI_add]
              refine mu_il_9 B dX12_step_199 ?_
              refine mu_iadd B dX12_step_201 ?_
              try rw [mI_add]
              rw [show (fr : Int) + 256 * (y : Int) + (x : Int) = ((fr + 256 * y + x : Nat) : Int) by omega]
              refine mu_al_0 B dX12_step_202 ?_
              refine mu_getR B dX12_step_203 fX12_46 rfl (by assumption) (by assumption) ?_
              refine mu_sipush (v := mI 256) B dX12_step_206 (by decide) ?_
              refine mu_il_8 B dX12_step_209 ?_
              refine mu_imul B dX12_step_211 ?_
              try rw [mI_mul]
              refine mu_il_9 B dX12_step_212 ?_
              refine mu_iadd B dX12_step_214 ?_
              try rw [mI_add]
              rw [show (256 : Int) * (y : Int) + (x : Int) = ((256 * y + x : Nat) : Int) by omega]
              refine mu_bald B dX12_step_215 (by assumption) (mI_inN (by omega) (by decide)) ?_
              rw [mI_clampN (by omega), hnx x y (by omega) (by omega) (by omega) (by omega)]
              refine mu_bast B dX12_step_216 (by assumption) (mI_inN (by omega) (by omega)) ?_
              rw [mI_clampN (by omega), show (mI (((sp_stp (rs_nb (rs k)) (rs_bo (rs k)) (rs_st (rs k)) c) x y : Nat) : Int)).toInt8.toInt32 = mI ((sp_stp (rs_nb (rs k)) (rs_bo (rs k)) (rs_st (rs k)) c) x y) from mb_lo _ (by have := hstp x y; omega)]
              refine mu_inc_9 (c := mI 1) B dX12_step_217 rfl (by decide) rfl ?_
              try rw [mI_add]
              refine mu_goto (tgt := 183) B dX12_step_220 (by decide) ?_
              refine mu_to (ih (mu_si w1 a (fr + 256 * y + x) (mI ((sp_stp (rs_nb (rs k)) (rs_bo (rs k)) (rs_st (rs k)) c) x y))) (by omega) ⟨hF.si (Or.inr (Or.inr ⟨rfl, by omega, by omega⟩)), ⟨hB1.1, hB1.2.1, hB1.2.2.1, fun i j hi hj => ?_, fun i j => ?_⟩, fun i j h1 h2 h3 h4 => ?_⟩) rfl (by rw [show ((x + 1 : Nat) : Int) = (x : Int) + 1 by omega])
              · show mu_iv (mu_si w1 a (fr + 256 * y + x) (mI ((sp_stp (rs_nb (rs k)) (rs_bo (rs k)) (rs_st (rs k)) c) x y))) a (fr + 256 * j + i) = _
                by_cases e9 : j = y ∧ i = x
                · rw [e9.1, e9.2, mu_iv_same]
                  unfold sp_mix
                  rw [if_pos (by omega)]
                · rw [mu_iv_oth _ _ (by omega), hB1.2.2.2.1 i j hi hj]
                  unfold sp_mix
                  by_cases e8 : x0 ≤ i ∧ i ≤ x1 ∧ y0 ≤ j ∧ (j < y ∨ (j = y ∧ i < x))
                  · rw [if_pos e8, if_pos (by omega)]
                  · rw [if_neg e8, if_neg (by omega)]
              · unfold sp_mix
                by_cases e8 : x0 ≤ i ∧ i ≤ x1 ∧ y0 ≤ j ∧ (j < y ∨ (j = y ∧ i < x + 1))
                · rw [if_pos e8]; exact hstp i j
                · rw [if_neg e8]; exact hB.2.2.2.2 i j
              · show mu_iv (mu_si w1 a (fr + 256 * y + x) (mI ((sp_stp (rs_nb (rs k)) (rs_bo (rs k)) (rs_st (rs k)) c) x y))) (m + 12) (256 * j + i) = _
                rw [mu_iv_oth _ _ (fun q => hne2 q.1.symm)]; exact hnx i j h1 h2 h3 h4
          refine LX2 x0 w1 (by omega) ⟨Nat.le_refl _, hF, ?_, hnx⟩
          have e7 : sp_mix c (sp_stp (rs_nb (rs k)) (rs_bo (rs k)) (rs_st (rs k)) c) x0 x1 y0 y x0 = sp_mix c (sp_stp (rs_nb (rs k)) (rs_bo (rs k)) (rs_st (rs k)) c) x0 x1 y0 y 0 := by
            funext i j
            unfold sp_mix
            by_cases e8 : x0 ≤ i ∧ i ≤ x1 ∧ y0 ≤ j ∧ (j < y ∨ (j = y ∧ i < 0))
            · rw [if_pos (by omega), if_pos e8]
            · rw [if_neg (by omega), if_neg e8]
          rw [e7]
          exact hB1
      have hCopy : ∀ (w1 : mu_W) (u9 : Value), mu_Fi (fun q j => q = m + 12) w3 w1 → (∀ i j, x0 ≤ i → i ≤ x1 → y0 ≤ j → j < y1 + 1 → mu_iv w1 (m + 12) (256 * j + i) = mI ((sp_stp (rs_nb (rs k)) (rs_bo (rs k)) (rs_st (rs k)) c) i j)) → mu_WA X G 10 (mu_Q X G M_X12_step (st_post w m a N fr (sp_stp (rs_nb (rs k)) (rs_bo (rs k)) (rs_st (rs k)) c))) w1 0 0 168 [.ref m, .int (mI k), .ref a, .int (mI fr), .int (mI x0), .int (mI x1), .int (mI y0), .int (mI y1), .int (mI ((y1 + 1 : Nat) : Int)), u9] [] := by
        intro w1 u9 hF hnx
        refine mu_il_6 B dX12_step_168 ?_
        refine mu_is_8 B dX12_step_170 (by decide) rfl ?_
        have hB1 := hB3.fi hF (fun j => hne2)
        refine LY2 y0 (w1, u9) (by omega) ⟨Nat.le_refl _, (hF3.mono (fun q j h => Or.inl h)).trans (hF.mono (fun q j h => Or.inr (Or.inl h))), ?_, fun i j h1 h2 h3 h4 => hnx i j h1 h2 h3 (by omega)⟩
        have e7 : sp_mix c (sp_stp (rs_nb (rs k)) (rs_bo (rs k)) (rs_st (rs k)) c) x0 x1 y0 y0 0 = c := by
          funext i j
          unfold sp_mix
          rw [if_neg (by omega)]
        rw [e7]
        exact hB1
      have LY1 : ∀ y (s : mu_W × Value), y ≤ y1 + 1 → (y0 ≤ y ∧ mu_Fi (fun q j => q = m + 12) w3 s.1 ∧ (∀ i j, x0 ≤ i → i ≤ x1 → y0 ≤ j → j < y → mu_iv s.1 (m + 12) (256 * j + i) = mI ((sp_stp (rs_nb (rs k)) (rs_bo (rs k)) (rs_st (rs k)) c) i j))) → mu_WA X G 10 (mu_Q X G M_X12_step (st_post w m a N fr (sp_stp (rs_nb (rs k)) (rs_bo (rs k)) (rs_st (rs k)) c))) s.1 0 0 106 [.ref m, .int (mI k), .ref a, .int (mI fr), .int (mI x0), .int (mI x1), .int (mI y0), .int (mI y1), .int (mI y), s.2] [] := by
        have L9 := mu_ind (y1 + 1) (fun y (s : mu_W × Value) => y0 ≤ y → mu_WA X G 10 (mu_Q X G M_X12_step (st_post w m a N fr (sp_stp (rs_nb (rs k)) (rs_bo (rs k)) (rs_st (rs k)) c))) s.1 0 0 106 [.ref m, .int (mI k), .ref a, .int (mI fr), .int (mI x0), .int (mI x1), .int (mI y0), .int (mI y1), .int (mI y), s.2] []) (fun y s => mu_Fi (fun q j => q = m + 12) w3 s.1 ∧ (∀ i j, x0 ≤ i → i ≤ x1 → y0 ≤ j → j < y → mu_iv s.1 (m + 12) (256 * j + i) = mI ((sp_stp (rs_nb (rs k)) (rs_bo (rs k)) (rs_st (rs k)) c) i j))) ?_
        · intro y s h1 h2; exact L9 y s h1 h2.2 h2.1
        rintro y ⟨w1, u9⟩ hy ⟨hF, hnx⟩ ihy hy0
        dsimp only at hF hnx ⊢
        replace ihy := fun s h1 h2 => ihy s h1 h2 (by omega)
        refine mu_il_8 B dX12_step_106 ?_
        refine mu_il_7 B dX12_step_108 ?_
        refine mu_icmp_gt (tgt := 168) B dX12_step_110 (by decide) (fun c110 => ?_) (fun c110 => ?_)
        · try rw [mI_lt ⟨by omega, by omega⟩ ⟨by omega, by omega⟩] at c110
          obtain rfl : y = y1 + 1 := by omega
          exact hCopy w1 u9 hF (fun i j h1 h2 h3 h4 => hnx i j h1 h2 h3 (by omega))
        · try rw [mI_lt ⟨by omega, by omega⟩ ⟨by omega, by omega⟩] at c110
          refine mu_il_4 B dX12_step_113 ?_
          refine mu_is_9 B dX12_step_115 (by decide) rfl ?_
          have LX1 : ∀ x (s : mu_W), x ≤ x1 + 1 → (x0 ≤ x ∧ mu_Fi (fun q j => q = m + 12) w3 s ∧ (∀ i j, x0 ≤ i → i ≤ x1 → y0 ≤ j → (j < y ∨ (j = y ∧ i < x)) → mu_iv s (m + 12) (256 * j + i) = mI ((sp_stp (rs_nb (rs k)) (rs_bo (rs k)) (rs_st (rs k)) c) i j))) → mu_WA X G 10 (mu_Q X G M_X12_step (st_post w m a N fr (sp_stp (rs_nb (rs k)) (rs_bo (rs k)) (rs_st (rs k)) c))) s 0 0 117 [.ref m, .int (mI k), .ref a, .int (mI fr), .int (mI x0), .int (mI x1), .int (mI y0), .int (mI y1), .int (mI y), .int (mI x)] [] := by
            have L9 := mu_ind (x1 + 1) (fun x (s : mu_W) => x0 ≤ x → mu_WA X G 10 (mu_Q X G M_X12_step (st_post w m a N fr (sp_stp (rs_nb (rs k)) (rs_bo (rs k)) (rs_st (rs k)) c))) s 0 0 117 [.ref m, .int (mI k), .ref a, .int (mI fr), .int (mI x0), .int (mI x1), .int (mI y0), .int (mI y1), .int (mI y), .int (mI x)] []) (fun x s => mu_Fi (fun q j => q = m + 12) w3 s ∧ (∀ i j, x0 ≤ i → i ≤ x1 → y0 ≤ j → (j < y ∨ (j = y ∧ i < x)) → mu_iv s (m + 12) (256 * j + i) = mI ((sp_stp (rs_nb (rs k)) (rs_bo (rs k)) (rs_st (rs k)) c) i j))) ?_
            · intro x s h1 h2; exact L9 x s h1 h2.2 h2.1
            rintro x w1 hx ⟨hF, hnx⟩ ih hx0
            replace ih := fun s h1 h2 => ih s h1 h2 (by omega)
            have hm1 := hm3.fi hF
            have hru1 : MRu w1 m nr rs := hru3.eqs (hF.2.2.2 m 3 (by omega)).1 (fun q r h5 h6 h7 => (hF.2.2.2 q r (by omega)).1) (fun j hj => (hF.2.2.2 _ j (by omega)).1) (fun j hj => (hF.2.2.2 _ j (by omega)).1)
            have hB1 := hB3.fi hF (fun j => hne2)
            have hk1 := hm1.1
            obtain ⟨r17, k17⟩ := mo_17 hm1
            refine mu_il_9 B dX12_step_117 ?_
            refine mu_il_5 B dX12_step_119 ?_
            refine mu_icmp_gt (tgt := 162) B dX12_step_121 (by decide) (fun c121 => ?_) (fun c121 => ?_)
            · try rw [mI_lt ⟨by omega, by omega⟩ ⟨by omega, by omega⟩] at c121
              obtain rfl : x = x1 + 1 := by omega
              refine mu_inc_8 (c := mI 1) B dX12_step_162 rfl (by decide) rfl ?_
              try rw [mI_add]
              refine mu_goto (tgt := 106) B dX12_step_165 (by decide) ?_
              exact mu_to (ihy (w1, .int (mI ((x1 + 1 : Nat) : Int))) (by omega) ⟨hF, fun i j h1 h2 h3 h4 => hnx i j h1 h2 h3 (by omega)⟩) rfl (by rw [show ((y + 1 : Nat) : Int) = (y : Int) + 1 by omega])
            · try rw [mI_lt ⟨by omega, by omega⟩ ⟨by omega, by omega⟩] at c121
              refine mu_al_0 B dX12_step_124 ?_
              refine mu_getR B dX12_step_125 fX12_46 rfl (by assumption) (by assumption) ?_
              refine mu_sipush (v := mI 256) B dX12_step_128 (by decide) ?_
              refine mu_il_8 B dX12_step_131 ?_
              refine mu_imul B dX12_step_133 ?_
              try rw [mI_mul]
              refine mu_il_9 B dX12_step_134 ?_
              refine mu_iadd B dX12_step_136 ?_
              try rw [mI_add]
              rw [show (256 : Int) * (y : Int) + (x : Int) = ((256 * y + x : Nat) : Int) by omega]
              refine mu_al_0 B dX12_step_137 ?_
              refine mu_il_1 B dX12_step_138 ?_
              refine mu_al_2 B dX12_step_139 ?_
              refine mu_il_3 B dX12_step_140 ?_
              refine mu_sipush (v := mI 256) B dX12_step_141 (by decide) ?_
              refine mu_sipush (v := mI 256) B dX12_step_144 (by decide) ?_
              refine mu_il_9 B dX12_step_147 ?_
              refine mu_il_8 B dX12_step_149 ?_
              refine mu_eV7 B dX12_step_151 mX12_208 ⟨⟨by decide, by decide⟩, by decide, by decide⟩ (Nat.le_of_ble_eq_true rfl) (by assumption) (c_X12_after G hm1 hru1 hk hq (W := 256) (H := 256) hB1 (by decide) (by decide) (x := (x : Int)) (y := (y : Int)) (by omega) (by omega)) ?_
              refine mu_i2b B dX12_step_154 rfl ?_
              refine mu_bast B dX12_step_155 (by assumption) (mI_inN (by omega) (by decide)) ?_
              rw [mI_clampN (by omega), show ((mI ((sp_af 256 256 c (rs_nb (rs k)) (rs_bo (rs k)) (rs_st (rs k)) x y : Nat) : Int)).toInt8.toInt32).toInt8.toInt32 = mI ((sp_stp (rs_nb (rs k)) (rs_bo (rs k)) (rs_st (rs k)) c) x y) from by have h9 := sp_af_le (W := 256) (H := 256) (c := c) (nb := rs_nb (rs k)) (bo := rs_bo (rs k)) (st := rs_st (rs k)) (x := x) (y := y); unfold sp_stp; rw [if_pos (by omega)]; exact (mb_mb _ (by omega)).trans (mb_lo _ (by omega))]
              refine mu_inc_9 (c := mI 1) B dX12_step_156 rfl (by decide) rfl ?_
              try rw [mI_add]
              refine mu_goto (tgt := 117) B dX12_step_159 (by decide) ?_
              refine mu_to (ih (mu_si w1 (m + 12) (256 * y + x) (mI ((sp_stp (rs_nb (rs k)) (rs_bo (rs k)) (rs_st (rs k)) c) x y))) (by omega) ⟨hF.si rfl, fun i j h1 h2 h3 h4 => ?_⟩) rfl (by rw [show ((x + 1 : Nat) : Int) = (x : Int) + 1 by omega])
              show mu_iv (mu_si w1 (m + 12) (256 * y + x) (mI ((sp_stp (rs_nb (rs k)) (rs_bo (rs k)) (rs_st (rs k)) c) x y))) (m + 12) (256 * j + i) = _
              by_cases e9 : j = y ∧ i = x
              · rw [e9.1, e9.2, mu_iv_same]
              · rw [mu_iv_oth _ _ (by omega)]; exact hnx i j h1 h2 h3 (by omega)
          exact LX1 x0 w1 (by omega) ⟨Nat.le_refl _, hF, fun i j h1 h2 h3 h4 => hnx i j h1 h2 h3 (by omega)⟩
      refine mu_il_6 B dX12_step_102 ?_
      refine mu_is_8 B dX12_step_104 (by decide) rfl ?_
      exact LY1 y0 (w3, u9) (by omega) ⟨Nat.le_refl _, mu_Fi.refl w3, fun i j h1 h2 h3 h4 => absurd h4 (by omega)⟩
    refine mu_al_0 B dX12_step_14 ?_
    refine mu_getI B dX12_step_15 fX12_189 rfl (by assumption) ?_
    rw [h19]
    refine mu_if_ne (tgt := 25) B dX12_step_18 (by decide) (fun c18 => ?_) (fun c18 => ?_)
    · try rw [mI_eq0 ⟨by omega, by omega⟩] at c18
      refine mu_al_0 B dX12_step_25 ?_
      refine mu_getI B dX12_step_26 fX12_189 rfl (by assumption) ?_
      rw [h19]
      refine mu_iconst (v := mI 1) B dX12_step_29 rfl ?_
      refine mu_isub B dX12_step_30 ?_
      try rw [mI_sub]
      refine mu_is_4 B dX12_step_31 (by decide) rfl ?_
      refine mu_al_0 B dX12_step_33 ?_
      refine mu_getI B dX12_step_34 fX12_192 rfl (by assumption) ?_
      rw [h20]
      refine mu_sipush (v := mI 255) B dX12_step_37 (by decide) ?_
      refine mu_icmp_ne (tgt := 50) B dX12_step_40 (by decide) (fun c40 => ?_) (fun c40 => ?_)
      · try rw [mI_eq ⟨by omega, by omega⟩ ⟨by omega, by omega⟩] at c40
        refine mu_al_0 B dX12_step_50 ?_
        refine mu_getI B dX12_step_51 fX12_192 rfl (by assumption) ?_
        rw [h20]
        refine mu_iconst (v := mI 1) B dX12_step_54 rfl ?_
        refine mu_iadd B dX12_step_55 ?_
        try rw [mI_add]
        refine mu_is_5 B dX12_step_56 (by decide) rfl ?_
        refine mu_al_0 B dX12_step_58 ?_
        refine mu_getI B dX12_step_59 fX12_195 rfl (by assumption) ?_
        rw [h21]
        refine mu_if_ne (tgt := 69) B dX12_step_62 (by decide) (fun c62 => ?_) (fun c62 => ?_)
        · try rw [mI_eq0 ⟨by omega, by omega⟩] at c62
          refine mu_al_0 B dX12_step_69 ?_
          refine mu_getI B dX12_step_70 fX12_195 rfl (by assumption) ?_
          rw [h21]
          refine mu_iconst (v := mI 1) B dX12_step_73 rfl ?_
          refine mu_isub B dX12_step_74 ?_
          try rw [mI_sub]
          refine mu_is_6 B dX12_step_75 (by decide) rfl ?_
          refine mu_al_0 B dX12_step_77 ?_
          refine mu_getI B dX12_step_78 fX12_198 rfl (by assumption) ?_
          rw [h22]
          refine mu_sipush (v := mI 255) B dX12_step_81 (by decide) ?_
          refine mu_icmp_ne (tgt := 94) B dX12_step_84 (by decide) (fun c84 => ?_) (fun c84 => ?_)
          · try rw [mI_eq ⟨by omega, by omega⟩ ⟨by omega, by omega⟩] at c84
            refine mu_al_0 B dX12_step_94 ?_
            refine mu_getI B dX12_step_95 fX12_198 rfl (by assumption) ?_
            rw [h22]
            refine mu_iconst (v := mI 1) B dX12_step_98 rfl ?_
            refine mu_iadd B dX12_step_99 ?_
            try rw [mI_add]
            refine mu_is_7 B dX12_step_100 (by decide) rfl ?_
            exact hM _ _ _ _ _ _ (by omega) (by omega) (by omega) (by omega)
          · try rw [mI_eq ⟨by omega, by omega⟩ ⟨by omega, by omega⟩] at c84
            refine mu_al_0 B dX12_step_87 ?_
            refine mu_getI B dX12_step_88 fX12_198 rfl (by assumption) ?_
            rw [h22]
            refine mu_goto (tgt := 100) B dX12_step_91 (by decide) ?_
            refine mu_is_7 B dX12_step_100 (by decide) rfl ?_
            exact hM _ _ _ _ _ _ (by omega) (by omega) (by omega) (by omega)
        · try rw [mI_eq0 ⟨by omega, by omega⟩] at c62
          refine mu_iconst (v := mI 0) B dX12_step_65 rfl ?_
          refine mu_goto (tgt := 75) B dX12_step_66 (by decide) ?_
          refine mu_is_6 B dX12_step_75 (by decide) rfl ?_
          refine mu_al_0 B dX12_step_77 ?_
          refine mu_getI B dX12_step_78 fX12_198 rfl (by assumption) ?_
          rw [h22]
          refine mu_sipush (v := mI 255) B dX12_step_81 (by decide) ?_
          refine mu_icmp_ne (tgt := 94) B dX12_step_84 (by decide) (fun c84 => ?_) (fun c84 => ?_)
          · try rw [mI_eq ⟨by omega, by omega⟩ ⟨by omega, by omega⟩] at c84
            refine mu_al_0 B dX12_step_94 ?_
            refine mu_getI B dX12_step_95 fX12_198 rfl (by assumption) ?_
            rw [h22]
            refine mu_iconst (v := mI 1) B dX12_step_98 rfl ?_
            refine mu_iadd B dX12_step_99 ?_
            try rw [mI_add]
            refine mu_is_7 B dX12_step_100 (by decide) rfl ?_
            exact hM _ _ _ _ _ _ (by omega) (by omega) (by omega) (by omega)
          · try rw [mI_eq ⟨by omega, by omega⟩ ⟨by omega, by omega⟩] at c84
            refine mu_al_0 B dX12_step_87 ?_
            refine mu_getI B dX12_step_88 fX12_198 rfl (by assumption) ?_
            rw [h22]
            refine mu_goto (tgt := 100) B dX12_step_91 (by decide) ?_
            refine mu_is_7 B dX12_step_100 (by decide) rfl ?_
            exact hM _ _ _ _ _ _ (by omega) (by omega) (by omega) (by omega)
      · try rw [mI_eq ⟨by omega, by omega⟩ ⟨by omega, by omega⟩] at c40
        refine mu_al_0 B dX12_step_43 ?_
        refine mu_getI B dX12_step_44 fX12_192 rfl (by assumption) ?_
        rw [h20]
        refine mu_goto (tgt := 56) B dX12_step_47 (by decide) ?_
        refine mu_is_5 B dX12_step_56 (by decide) rfl ?_
        refine mu_al_0 B dX12_step_58 ?_
        refine mu_getI B dX12_step_59 fX12_195 rfl (by assumption) ?_
        rw [h21]
        refine mu_if_ne (tgt := 69) B dX12_step_62 (by decide) (fun c62 => ?_) (fun c62 => ?_)
        · try rw [mI_eq0 ⟨by omega, by omega⟩] at c62
          refine mu_al_0 B dX12_step_69 ?_
          refine mu_getI B dX12_step_70 fX12_195 rfl (by assumption) ?_
          rw [h21]
          refine mu_iconst (v := mI 1) B dX12_step_73 rfl ?_
          refine mu_isub B dX12_step_74 ?_
          try rw [mI_sub]
          refine mu_is_6 B dX12_step_75 (by decide) rfl ?_
          refine mu_al_0 B dX12_step_77 ?_
          refine mu_getI B dX12_step_78 fX12_198 rfl (by assumption) ?_
          rw [h22]
          refine mu_sipush (v := mI 255) B dX12_step_81 (by decide) ?_
          refine mu_icmp_ne (tgt := 94) B dX12_step_84 (by decide) (fun c84 => ?_) (fun c84 => ?_)
          · try rw [mI_eq ⟨by omega, by omega⟩ ⟨by omega, by omega⟩] at c84
            refine mu_al_0 B dX12_step_94 ?_
            refine mu_getI B dX12_step_95 fX12_198 rfl (by assumption) ?_
            rw [h22]
            refine mu_iconst (v := mI 1) B dX12_step_98 rfl ?_
            refine mu_iadd B dX12_step_99 ?_
            try rw [mI_add]
            refine mu_is_7 B dX12_step_100 (by decide) rfl ?_
            exact hM _ _ _ _ _ _ (by omega) (by omega) (by omega) (by omega)
          · try rw [mI_eq ⟨by omega, by omega⟩ ⟨by omega, by omega⟩] at c84
            refine mu_al_0 B dX12_step_87 ?_
            refine mu_getI B dX12_step_88 fX12_198 rfl (by assumption) ?_
            rw [h22]
            refine mu_goto (tgt := 100) B dX12_step_91 (by decide) ?_
            refine mu_is_7 B dX12_step_100 (by decide) rfl ?_
            exact hM _ _ _ _ _ _ (by omega) (by omega) (by omega) (by omega)
        · try rw [mI_eq0 ⟨by omega, by omega⟩] at c62
          refine mu_iconst (v := mI 0) B dX12_step_65 rfl ?_
          refine mu_goto (tgt := 75) B dX12_step_66 (by decide) ?_
          refine mu_is_6 B dX12_step_75 (by decide) rfl ?_
          refine mu_al_0 B dX12_step_77 ?_
          refine mu_getI B dX12_step_78 fX12_198 rfl (by assumption) ?_
          rw [h22]
          refine mu_sipush (v := mI 255) B dX12_step_81 (by decide) ?_
          refine mu_icmp_ne (tgt := 94) B dX12_step_84 (by decide) (fun c84 => ?_) (fun c84 => ?_)
          · try rw [mI_eq ⟨by omega, by omega⟩ ⟨by omega, by omega⟩] at c84
            refine mu_al_0 B dX12_step_94 ?_
            refine mu_getI B dX12_step_95 fX12_198 rfl (by assumption) ?_
            rw [h22]
            refine mu_iconst (v := mI 1) B dX12_step_98 rfl ?_
            refine mu_iadd B dX12_step_99 ?_
            try rw [mI_add]
            refine mu_is_7 B dX12_step_100 (by decide) rfl ?_
            exact hM _ _ _ _ _ _ (by omega) (by omega) (by omega) (by omega)
          · try rw [mI_eq ⟨by omega, by omega⟩ ⟨by omega, by omega⟩] at c84
            refine mu_al_0 B dX12_step_87 ?_
            refine mu_getI B dX12_step_88 fX12_198 rfl (by assumption) ?_
            rw [h22]
            refine mu_goto (tgt := 100) B dX12_step_91 (by decide) ?_
            refine mu_is_7 B dX12_step_100 (by decide) rfl ?_
            exact hM _ _ _ _ _ _ (by omega) (by omega) (by omega) (by omega)
    · try rw [mI_eq0 ⟨by omega, by omega⟩] at c18
      refine mu_iconst (v := mI 0) B dX12_step_21 rfl ?_
      refine mu_goto (tgt := 31) B dX12_step_22 (by decide) ?_
      refine mu_is_4 B dX12_step_31 (by decide) rfl ?_
      refine mu_al_0 B dX12_step_33 ?_
      refine mu_getI B dX12_step_34 fX12_192 rfl (by assumption) ?_
      rw [h20]
      refine mu_sipush (v := mI 255) B dX12_step_37 (by decide) ?_
      refine mu_icmp_ne (tgt := 50) B dX12_step_40 (by decide) (fun c40 => ?_) (fun c40 => ?_)
      · try rw [mI_eq ⟨by omega, by omega⟩ ⟨by omega, by omega⟩] at c40
        refine mu_al_0 B dX12_step_50 ?_
        refine mu_getI B dX12_step_51 fX12_192 rfl (by assumption) ?_
        rw [h20]
        refine mu_iconst (v := mI 1) B dX12_step_54 rfl ?_
        refine mu_iadd B dX12_step_55 ?_
        try rw [mI_add]
        refine mu_is_5 B dX12_step_56 (by decide) rfl ?_
        refine mu_al_0 B dX12_step_58 ?_
        refine mu_getI B dX12_step_59 fX12_195 rfl (by assumption) ?_
        rw [h21]
        refine mu_if_ne (tgt := 69) B dX12_step_62 (by decide) (fun c62 => ?_) (fun c62 => ?_)
        · try rw [mI_eq0 ⟨by omega, by omega⟩] at c62
          refine mu_al_0 B dX12_step_69 ?_
          refine mu_getI B dX12_step_70 fX12_195 rfl (by assumption) ?_
          rw [h21]
          refine mu_iconst (v := mI 1) B dX12_step_73 rfl ?_
          refine mu_isub B dX12_step_74 ?_
          try rw [mI_sub]
          refine mu_is_6 B dX12_step_75 (by decide) rfl ?_
          refine mu_al_0 B dX12_step_77 ?_
          refine mu_getI B dX12_step_78 fX12_198 rfl (by assumption) ?_
          rw [h22]
          refine mu_sipush (v := mI 255) B dX12_step_81 (by decide) ?_
          refine mu_icmp_ne (tgt := 94) B dX12_step_84 (by decide) (fun c84 => ?_) (fun c84 => ?_)
          · try rw [mI_eq ⟨by omega, by omega⟩ ⟨by omega, by omega⟩] at c84
            refine mu_al_0 B dX12_step_94 ?_
            refine mu_getI B dX12_step_95 fX12_198 rfl (by assumption) ?_
            rw [h22]
            refine mu_iconst (v := mI 1) B dX12_step_98 rfl ?_
            refine mu_iadd B dX12_step_99 ?_
            try rw [mI_add]
            refine mu_is_7 B dX12_step_100 (by decide) rfl ?_
            exact hM _ _ _ _ _ _ (by omega) (by omega) (by omega) (by omega)
          · try rw [mI_eq ⟨by omega, by omega⟩ ⟨by omega, by omega⟩] at c84
            refine mu_al_0 B dX12_step_87 ?_
            refine mu_getI B dX12_step_88 fX12_198 rfl (by assumption) ?_
            rw [h22]
            refine mu_goto (tgt := 100) B dX12_step_91 (by decide) ?_
            refine mu_is_7 B dX12_step_100 (by decide) rfl ?_
            exact hM _ _ _ _ _ _ (by omega) (by omega) (by omega) (by omega)
        · try rw [mI_eq0 ⟨by omega, by omega⟩] at c62
          refine mu_iconst (v := mI 0) B dX12_step_65 rfl ?_
          refine mu_goto (tgt := 75) B dX12_step_66 (by decide) ?_
          refine mu_is_6 B dX12_step_75 (by decide) rfl ?_
          refine mu_al_0 B dX12_step_77 ?_
          refine mu_getI B dX12_step_78 fX12_198 rfl (by assumption) ?_
          rw [h22]
          refine mu_sipush (v := mI 255) B dX12_step_81 (by decide) ?_
          refine mu_icmp_ne (tgt := 94) B dX12_step_84 (by decide) (fun c84 => ?_) (fun c84 => ?_)
          · try rw [mI_eq ⟨by omega, by omega⟩ ⟨by omega, by omega⟩] at c84
            refine mu_al_0 B dX12_step_94 ?_
            refine mu_getI B dX12_step_95 fX12_198 rfl (by assumption) ?_
            rw [h22]
            refine mu_iconst (v := mI 1) B dX12_step_98 rfl ?_
            refine mu_iadd B dX12_step_99 ?_
            try rw [mI_add]
            refine mu_is_7 B dX12_step_100 (by decide) rfl ?_
            exact hM _ _ _ _ _ _ (by omega) (by omega) (by omega) (by omega)
          · try rw [mI_eq ⟨by omega, by omega⟩ ⟨by omega, by omega⟩] at c84
            refine mu_al_0 B dX12_step_87 ?_
            refine mu_getI B dX12_step_88 fX12_198 rfl (by assumption) ?_
            rw [h22]
            refine mu_goto (tgt := 100) B dX12_step_91 (by decide) ?_
            refine mu_is_7 B dX12_step_100 (by decide) rfl ?_
            exact hM _ _ _ _ _ _ (by omega) (by omega) (by omega) (by omega)
      · try rw [mI_eq ⟨by omega, by omega⟩ ⟨by omega, by omega⟩] at c40
        refine mu_al_0 B dX12_step_43 ?_
        refine mu_getI B dX12_step_44 fX12_192 rfl (by assumption) ?_
        rw [h20]
        refine mu_goto (tgt := 56) B dX12_step_47 (by decide) ?_
        refine mu_is_5 B dX12_step_56 (by decide) rfl ?_
        refine mu_al_0 B dX12_step_58 ?_
        refine mu_getI B dX12_step_59 fX12_195 rfl (by assumption) ?_
        rw [h21]
        refine mu_if_ne (tgt := 69) B dX12_step_62 (by decide) (fun c62 => ?_) (fun c62 => ?_)
        · try rw [mI_eq0 ⟨by omega, by omega⟩] at c62
          refine mu_al_0 B dX12_step_69 ?_
          refine mu_getI B dX12_step_70 fX12_195 rfl (by assumption) ?_
          rw [h21]
          refine mu_iconst (v := mI 1) B dX12_step_73 rfl ?_
          refine mu_isub B dX12_step_74 ?_
          try rw [mI_sub]
          refine mu_is_6 B dX12_step_75 (by decide) rfl ?_
          refine mu_al_0 B dX12_step_77 ?_
          refine mu_getI B dX12_step_78 fX12_198 rfl (by assumption) ?_
          rw [h22]
          refine mu_sipush (v := mI 255) B dX12_step_81 (by decide) ?_
          refine mu_icmp_ne (tgt := 94) B dX12_step_84 (by decide) (fun c84 => ?_) (fun c84 => ?_)
          · try rw [mI_eq ⟨by omega, by omega⟩ ⟨by omega, by omega⟩] at c84
            refine mu_al_0 B dX12_step_94 ?_
            refine mu_getI B dX12_step_95 fX12_198 rfl (by assumption) ?_
            rw [h22]
            refine mu_iconst (v := mI 1) B dX12_step_98 rfl ?_
            refine mu_iadd B dX12_step_99 ?_
            try rw [mI_add]
            refine mu_is_7 B dX12_step_100 (by decide) rfl ?_
            exact hM _ _ _ _ _ _ (by omega) (by omega) (by omega) (by omega)
          · try rw [mI_eq ⟨by omega, by omega⟩ ⟨by omega, by omega⟩] at c84
            refine mu_al_0 B dX12_step_87 ?_
            refine mu_getI B dX12_step_88 fX12_198 rfl (by assumption) ?_
            rw [h22]
            refine mu_goto (tgt := 100) B dX12_step_91 (by decide) ?_
            refine mu_is_7 B dX12_step_100 (by decide) rfl ?_
            exact hM _ _ _ _ _ _ (by omega) (by omega) (by omega) (by omega)
        · try rw [mI_eq0 ⟨by omega, by omega⟩] at c62
          refine mu_iconst (v := mI 0) B dX12_step_65 rfl ?_
          refine mu_goto (tgt := 75) B dX12_step_66 (by decide) ?_
          refine mu_is_6 B dX12_step_75 (by decide) rfl ?_
          refine mu_al_0 B dX12_step_77 ?_
          refine mu_getI B dX12_step_78 fX12_198 rfl (by assumption) ?_
          rw [h22]
          refine mu_sipush (v := mI 255) B dX12_step_81 (by decide) ?_
          refine mu_icmp_ne (tgt := 94) B dX12_step_84 (by decide) (fun c84 => ?_) (fun c84 => ?_)
          · try rw [mI_eq ⟨by omega, by omega⟩ ⟨by omega, by omega⟩] at c84
            refine mu_al_0 B dX12_step_94 ?_
            refine mu_getI B dX12_step_95 fX12_198 rfl (by assumption) ?_
            rw [h22]
            refine mu_iconst (v := mI 1) B dX12_step_98 rfl ?_
            refine mu_iadd B dX12_step_99 ?_
            try rw [mI_add]
            refine mu_is_7 B dX12_step_100 (by decide) rfl ?_
            exact hM _ _ _ _ _ _ (by omega) (by omega) (by omega) (by omega)
          · try rw [mI_eq ⟨by omega, by omega⟩ ⟨by omega, by omega⟩] at c84
            refine mu_al_0 B dX12_step_87 ?_
            refine mu_getI B dX12_step_88 fX12_198 rfl (by assumption) ?_
            rw [h22]
            refine mu_goto (tgt := 100) B dX12_step_91 (by decide) ?_
            refine mu_is_7 B dX12_step_100 (by decide) rfl ?_
            exact hM _ _ _ _ _ _ (by omega) (by omega) (by omega) (by omega)
  · try rw [mI_eq0 ⟨by omega, by omega⟩] at c10
    refine mu_vret E rfl (by decide) (by decide) dX12_step_13 ?_
    refine ⟨rfl, ⟨hB3.1, hB3.2.1, hB3.2.2.1, fun i j hi hj => ?_, hstp⟩, hF3.mono (fun q j h => Or.inl h)⟩
    have h0 := hlk.2.2.1 (by omega)
    have hz : ∀ i j, i < 256 → j < 256 → c i j = 0 := fun i j hi hj => by
      have h8 := hB.2.2.2.2 i j
      by_cases h7 : c i j = 1
      · have := hlk.2.1 i j hi (by omega) h7; omega
      · omega
    rw [hB3.2.2.2.1 i j hi hj, hz i j hi hj]
    unfold sp_stp
    rw [if_pos ⟨hi, hj⟩, sp_af_out hB.2.2.2.2 hbo (L := 1000) (R := 0) (U := 0) (D := 0) (fun i j h1 h2 h3 => absurd h3 (by rw [hz i j h1 h2]; decide)) (by omega)]
