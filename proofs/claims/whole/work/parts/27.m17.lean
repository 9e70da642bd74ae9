/-! ===== the reference: go ===== -/
def sp_fw (be : Nat → Nat) (S R C gen : Nat) (c : Nat → Nat → Nat) : Nat → Nat → Nat → Nat
  | 0 => c
  | k + 1 => sp_tu be S R C ((gen + k) % 2) (sp_fw be S R C gen c k) (R / 2)
def sp_bw (inv : Nat → Nat) (S R C gen : Nat) (c : Nat → Nat → Nat) : Nat → Nat → Nat → Nat
  | 0 => c
  | k + 1 => sp_tu inv S R C ((gen - (k + 1)) % 2) (sp_bw inv S R C gen c k) (R / 2)
theorem sp_fw_lt {be : Nat → Nat} {S R C gen : Nat} {c : Nat → Nat → Nat} (hS : 0 < S) (hc : ∀ a b, c a b < S) : ∀ k a b, sp_fw be S R C gen c k a b < S
  | 0 => hc
  | k + 1 => sp_tu_lt hS (sp_fw_lt hS hc k) _
theorem sp_bw_lt {be : Nat → Nat} {S R C gen : Nat} {c : Nat → Nat → Nat} (hS : 0 < S) (hc : ∀ a b, c a b < S) : ∀ k a b, sp_bw be S R C gen c k a b < S
  | 0 => hc
  | k + 1 => sp_tu_lt hS (sp_bw_lt hS hc k) _
def sp_gfw (rs : Nat → mu_RS) (g : mu_GS) (k : Nat) : Nat → Nat → Nat := sp_fw (rs_be (rs (gs_r g))) (rs_S (rs (gs_r g))) (gs_R g) (gs_C g) (gs_n g) (gs_c g) k
def sp_gbw (rs : Nat → mu_RS) (g : mu_GS) (k : Nat) : Nat → Nat → Nat := sp_bw (sp_inv (rs_be (rs (gs_r g))) (rs_N (rs (gs_r g)))) (rs_S (rs (gs_r g))) (gs_R g) (gs_C g) (gs_n g) (gs_c g) k
theorem gi_at (gs : Nat → mu_GS) (g n : Nat) (c : Nat → Nat → Nat) : gi_up gs g n c g = (gs_r (gs g), gs_R (gs g), gs_C (gs g), n, c) := by unfold gi_up rs_up; rw [if_pos rfl]
theorem gi_up2 (gs : Nat → mu_GS) (g n n' : Nat) (c c' : Nat → Nat → Nat) : gi_up (gi_up gs g n c) g n' c' = gi_up gs g n' c' := by
  funext q
  have h := gi_at gs g n c
  unfold gi_up rs_up at h ⊢
  by_cases e : q = g
  · rw [if_pos e, if_pos e, h]; rfl
  · rw [if_neg e, if_neg e, if_neg e]
def gg_S (m g : Nat) : Nat → Nat → Prop := fun q j => (q = m ∧ (j = 53 ∨ j = 54)) ∨ (q = m + 30 ∧ j = g) ∨ (q = m + 31 ∧ 256 * g ≤ j ∧ j < 256 * g + 256) ∨ q = m + 32
theorem MRu.gg {w w' : mu_W} {m nr g : Nat} {rs : Nat → mu_RS} (h : MRu w m nr rs) (hF : mu_Fi (gg_S m g) w w') : MRu w' m nr rs := h.eqs (hF.2.2.2 _ _ (by unfold gg_S; omega)).1 (fun a r h1 h2 _ => (hF.2.2.2 _ _ (by unfold gg_S; omega)).1) (fun j _ => (hF.2.2.2 _ _ (by unfold gg_S; omega)).1) (fun j _ => (hF.2.2.2 _ _ (by unfold gg_S; omega)).1)
theorem c_turnM (G : mu_G) {w : mu_W} {m : Nat} (hm : mo_ok w m) {nr : Nat} {rs : Nat → mu_RS} (hru : MRu w m nr rs) {ng : Nat} {gs : Nat → mu_GS} {g n : Nat} {c : Nat → Nat → Nat} (hgr : MGr w m nr rs ng (gi_up gs g n c)) {off t TN base : Nat} {x : Int} (hx : x = off) (hg : g < ng) (hoff : off ≤ 1) {tab : Nat → Nat} (hkt : mu_kd w t = some (100, TN)) (hTN : base + rs_N (rs (gs_r (gs g))) ≤ TN) (hTN2 : TN ≤ 1000000) (ht31 : t ≠ m + 31) (hT : ∀ b, b < rs_N (rs (gs_r (gs g))) → mu_iv w t (base + b) = mI (tab b) ∧ tab b < 1000) :
    mu_Ct G M_X12_turn [.ref m, .int (mI g), .int (mI x), .ref t, .int (mI base)] w (fun r w' => r = none ∧ mu_Fi (fl_S m g) w w' ∧ MGr w' m nr rs ng (gi_up gs g n (sp_tu tab (rs_S (rs (gs_r (gs g)))) (gs_R (gs g)) (gs_C (gs g)) off c (gs_R (gs g) / 2)))) := by
  subst hx
  have e := gi_at gs g n c
  have hh := c_X12_turn G hm hru hgr (g := g) (off := off) (t := t) (TN := TN) (base := base) hg hoff (tab := tab) hkt (by rw [e]; exact hTN) hTN2 ht31 (by rw [e]; exact hT)
  rw [e] at hh
  refine hh.mono ?_
  rintro r w' ⟨rfl, hF, hG⟩
  obtain ⟨g1, g2, g3, g4, g5, g6⟩ := hgr.2.2 g hg
  rw [e] at g1 g5
  have hS := rs_S_bd (hru.2.2 _ g1.1).1 g1.2.1
  have hc9 := hgr.cells (w' := w') (g := g) (n := n) hg g1.2.2.2.2.1 (c := sp_tu tab (rs_S (rs (gs_r (gs g)))) (gs_R (gs g)) (gs_C (gs g)) off c (gs_R (gs g) / 2)) (by rw [e]; exact sp_tu_lt (Nat.lt_of_lt_of_le (by decide) hS.1) g1.2.2.2.2.2 _) (hF.2.2.2 m 46 (by unfold fl_S; omega)).1 (fun q j h1 h2 => (hF.2.2.2 q j (by unfold fl_S; omega)).1) (fun j hj => (hF.2.2.2 _ j (by unfold fl_S; omega)).1) (hF.iv (by unfold fl_S; omega) g5) (fun j hj => (hF.2.2.2 _ j (by unfold fl_S; omega)).1) (by rw [e]; exact hG)
  rw [gi_up2] at hc9
  exact ⟨rfl, hF, hc9⟩
/-- the generation written -/
theorem MGr.gen {w : mu_W} {m nr : Nat} {rs : Nat → mu_RS} {ng : Nat} {gs : Nat → mu_GS} {g n : Nat} {c : Nat → Nat → Nat} (h : MGr w m nr rs ng (gi_up gs g n c)) (hg : g < ng) {n' : Nat} (hn : n' ≤ 1000000) {x : Int} (hx : x = n') : MGr (mu_si w (m + 30) g (mI x)) m nr rs ng (gi_up gs g n' c) := by
  subst hx
  have e := gi_at gs g n c
  obtain ⟨g1, g2, g3, g4, g5, g6⟩ := h.2.2 g hg
  rw [e] at g1 g6
  have hc9 := h.cells (w' := mu_si w (m + 30) g (mI n')) (g := g) (n := n') hg hn (c := c) (by rw [e]; exact g1.2.2.2.2.2) (mu_iv_oth _ _ (by omega)) (fun q j h1 h2 => mu_iv_oth _ _ (by omega)) (fun j hj => mu_iv_oth _ _ (by omega)) (mu_iv_same _ _ _ _) (fun j hj => mu_iv_oth _ _ (by omega)) (by rw [e]; exact fun i j hi hj => (mu_iv_oth _ _ (by omega)).trans (g6 i j hi hj))
  rw [gi_up2] at hc9
  exact hc9
def gg_post (w : mu_W) (m nr : Nat) (rs : Nat → mu_RS) (ng : Nat) (gs : Nat → mu_GS) (z n : Int) (r : Option Value) (w' : mu_W) : Prop :=
  if (0 ≤ z ∧ z < ng) ∧ n ≠ 0 ∧ -1000 ≤ n ∧ n ≤ 1000 then mu_Fi (gg_S m z.toNat) w w' ∧
    (n < 0 → (¬ sp_rev (rs_N (rs (gs_r (gs z.toNat)))) (rs_be (rs (gs_r (gs z.toNat)))) ∨ (gs_n (gs z.toNat) : Int) < -n) → r = some (.int (mI (-2))) ∧ MGr w' m nr rs ng gs) ∧
    (0 < n → r = some (.int (mI ((gs_n (gs z.toNat) : Int) + n))) ∧ MGr w' m nr rs ng (gi_up gs z.toNat (gs_n (gs z.toNat) + n.toNat) (sp_gfw rs (gs z.toNat) n.toNat))) ∧
    (n < 0 → sp_rev (rs_N (rs (gs_r (gs z.toNat)))) (rs_be (rs (gs_r (gs z.toNat)))) → -n ≤ (gs_n (gs z.toNat) : Int) → r = some (.int (mI ((gs_n (gs z.toNat) : Int) + n))) ∧ MGr w' m nr rs ng (gi_up gs z.toNat (gs_n (gs z.toNat) - (-n).toNat) (sp_gbw rs (gs z.toNat) (-n).toNat)))
  else r = some (.int (mI (-1))) ∧ w' = w
theorem fl_gg {m g : Nat} {w w' : mu_W} (h : mu_Fi (fl_S m g) w w') : mu_Fi (gg_S m g) w w' := h.mono (fun q j hh => by unfold fl_S at hh; unfold gg_S; omega)
theorem rv_gg {m g : Nat} {w w' : mu_W} (h : mu_Fi (rv_S m) w w') : mu_Fi (gg_S m g) w w' := h.mono (fun q j hh => by unfold rv_S at hh; unfold gg_S; omega)

set_option maxHeartbeats 4000000 in
set_option maxRecDepth 100000 in
theorem c_X12_go (G : mu_G) {w : mu_W} {m : Nat} (hm : mo_ok w m) {nr : Nat} {rs : Nat → mu_RS} (hru : MRu w m nr rs) {ng : Nat} {gs : Nat → mu_GS} (hgr : MGr w m nr rs ng gs) {z n : Int} (hz : mi_ok z) (hn : mi_ok n) (hgn : ∀ g, g < ng → gs_n (gs g) ≤ 999000) : mu_Ct G M_X12_go [.ref m, .int (mI z), .int (mI n)] w (fun r w' => gg_post w m nr rs ng gs z n r w') := by
  have hk0 := hm.1
  have hng := hgr.1
  obtain ⟨hz1, hz2⟩ := id hz
  obtain ⟨r51, k51⟩ := mo_51 hm
  obtain ⟨r47, k47⟩ := mo_47 hm
  obtain ⟨r6, k6⟩ := mo_6 hm
  obtain ⟨hn1, hn2⟩ := hn
  refine mu_ofWA G M_X12_go [.ref m, .int (mI z), .int (mI n), mu_no, mu_no] (by decide) rfl (Nat.le_of_ble_eq_true rfl) ?_
  intro X E
  have B : mu_B X G cX12_go RX12 5 (mu_rm M_X12_go) := E.1
  show mu_WA X G 5 _ _ 0 0 0 _ []
  refine mu_al_0 B dX12_go_0 ?_
  refine mu_il_1 B dX12_go_1 ?_
  refine mu_eV1 B dX12_go_2 mX12_316 ⟨⟨by decide, by decide⟩, by decide, by decide⟩ (Nat.le_of_ble_eq_true rfl) (by assumption) (c_X12_isGrid G hm (n := ng) hgr.2.1 hgr.1 hz) ?_
  refine mu_if_eq (tgt := 26) B dX12_go_5 (by decide) (fun c5 => ?_) (fun c5 => ?_)
  · have z5 := mu_bf c5
    refine mu_iconst (v := mI (-1)) B dX12_go_26 rfl ?_
    refine mu_iret E rfl (by decide) (by decide) dX12_go_27 ?_
    unfold gg_post
    first | (rw [if_neg (fun hh => z5 hh.1)]; exact ⟨rfl, rfl⟩) | (rw [if_neg (fun hh => by have := hh.2; omega)]; exact ⟨rfl, rfl⟩)
  · have z5 := mu_bt c5
    refine mu_il_2 B dX12_go_8 ?_
    refine mu_if_eq (tgt := 26) B dX12_go_9 (by decide) (fun c9 => ?_) (fun c9 => ?_)
    · try rw [mI_eq0 ⟨by omega, by omega⟩] at c9
      refine mu_iconst (v := mI (-1)) B dX12_go_26 rfl ?_
      refine mu_iret E rfl (by decide) (by decide) dX12_go_27 ?_
      unfold gg_post
      first | (rw [if_neg (fun hh => z5 hh.1)]; exact ⟨rfl, rfl⟩) | (rw [if_neg (fun hh => by have := hh.2; omega)]; exact ⟨rfl, rfl⟩)
    · try rw [mI_eq0 ⟨by omega, by omega⟩] at c9
      refine mu_il_2 B dX12_go_12 ?_
      refine mu_sipush (v := mI (-1000)) B dX12_go_13 (by decide) ?_
      refine mu_icmp_lt (tgt := 26) B dX12_go_16 (by decide) (fun c16 => ?_) (fun c16 => ?_)
      · try rw [mI_lt ⟨by omega, by omega⟩ ⟨by omega, by omega⟩] at c16
        refine mu_iconst (v := mI (-1)) B dX12_go_26 rfl ?_
        refine mu_iret E rfl (by decide) (by decide) dX12_go_27 ?_
        unfold gg_post
        first | (rw [if_neg (fun hh => z5 hh.1)]; exact ⟨rfl, rfl⟩) | (rw [if_neg (fun hh => by have := hh.2; omega)]; exact ⟨rfl, rfl⟩)
      · try rw [mI_lt ⟨by omega, by omega⟩ ⟨by omega, by omega⟩] at c16
        refine mu_il_2 B dX12_go_19 ?_
        refine mu_sipush (v := mI 1000) B dX12_go_20 (by decide) ?_
        refine mu_icmp_le (tgt := 28) B dX12_go_23 (by decide) (fun c23 => ?_) (fun c23 => ?_)
        · try rw [mI_le ⟨by omega, by omega⟩ ⟨by omega, by omega⟩] at c23
          obtain ⟨g, hg⟩ : ∃ g : Nat, z = g := ⟨z.toNat, by omega⟩
          subst hg
          obtain ⟨g1, g2, g3, g4, g5, g6⟩ := hgr.2.2 g (by omega)
          obtain ⟨⟨R1, R2, R3⟩, ⟨C1, C2, C3⟩⟩ : gs_sd (gs_R (gs g)) ∧ gs_sd (gs_C (gs g)) := ⟨g1.2.2.1, g1.2.2.2.1⟩
          obtain ⟨u1, u2, u3, u4, u5, u6⟩ := hru.2.2 (gs_r (gs g)) g1.1
          replace u6 := u6 g1.2.1
          have hS := rs_S_bd u1 g1.2.1
          have hnr := hru.1
          have hgr0 := g1.1
          have hN4 : rs_N (rs (gs_r (gs g))) ≤ 256 := (s4_le ⟨hS.1, hS.2.1⟩).2
          have hN1 : 16 ≤ rs_N (rs (gs_r (gs g))) := (s4_le ⟨hS.1, hS.2.1⟩).1
          have hbN : ∀ b, b < rs_N (rs (gs_r (gs g))) → rs_be (rs (gs_r (gs g))) b < rs_N (rs (gs_r (gs g))) := hS.2.2
          have hg : g < ng := by omega
          have hgn9 := hgn g hg
          obtain ⟨r50, k50⟩ := mo_50 hm
          refine mu_al_0 B dX12_go_28 ?_
          refine mu_getR B dX12_go_29 fX12_93 rfl (by assumption) (by assumption) ?_
          refine mu_il_1 B dX12_go_32 ?_
          refine mu_iald B dX12_go_33 (by assumption) (mI_inN (by omega) (by decide)) ?_
          rw [mI_clampN (by omega), g2]
          refine mu_is_3 B dX12_go_34 (by decide) rfl ?_
          refine mu_il_2 B dX12_go_35 ?_
          refine mu_if_ge (tgt := 61) B dX12_go_36 (by decide) (fun c36 => ?_) (fun c36 => ?_)
          · try rw [mI_ge0 ⟨by omega, by omega⟩] at c36
            refine mu_iconst (v := mI 0) B dX12_go_61 rfl ?_
            refine mu_is_4 B dX12_go_62 (by decide) rfl ?_
            first
              | exfalso; omega
              | skip
            by_cases hp : 0 < n
            · have LF : ∀ k (s : mu_W), k ≤ n.toNat → (mu_Fi (gg_S m g) w s ∧ MGr s m nr rs ng (gi_up gs g (gs_n (gs g) + k) (sp_gfw rs (gs g) k))) → mu_WA X G 5 (mu_Q X G M_X12_go (gg_post w m nr rs ng gs (g : Int) n)) s 0 0 107 [.ref m, .int (mI g), .int (mI n), .int (mI (gs_r (gs g) : Int)), .int (mI k)] [] := by
                refine mu_ind (n.toNat) (fun k (s : mu_W) => mu_WA X G 5 (mu_Q X G M_X12_go (gg_post w m nr rs ng gs (g : Int) n)) s 0 0 107 [.ref m, .int (mI g), .int (mI n), .int (mI (gs_r (gs g) : Int)), .int (mI k)] []) (fun k (s : mu_W) => mu_Fi (gg_S m g) w s ∧ MGr s m nr rs ng (gi_up gs g (gs_n (gs g) + k) (sp_gfw rs (gs g) k))) ?_
                rintro k w1 hk ⟨hF, hG⟩ ih
                have hm1 := hm.fi hF
                have hk1 := hm1.1
                obtain ⟨r50, k50⟩ := mo_50 hm1
                obtain ⟨r10, k10⟩ := mo_10 hm1
                obtain ⟨r52, k52⟩ := mo_52 hm1
                have hru1 := hru.gg hF
                have u6a := (hru1.2.2 (gs_r (gs g)) g1.1).2.2.2.2.2 g1.2.1
                have h30 := (hG.2.2 g hg).2.2.2.2.1
                rw [gi_at] at h30
                replace h30 : mu_iv w1 (m + 30) g = mI ((gs_n (gs g) + k : Nat) : Int) := h30
                refine mu_il_4 B dX12_go_107 ?_
                refine mu_il_2 B dX12_go_109 ?_
                refine mu_icmp_ge (tgt := 151) B dX12_go_110 (by decide) (fun c110 => ?_) (fun c110 => ?_)
                · try rw [mI_le ⟨by omega, by omega⟩ ⟨by omega, by omega⟩] at c110
                  obtain rfl : k = n.toNat := by omega
                  refine mu_iconst (v := mI 0) B dX12_go_151 rfl ?_
                  refine mu_is_4 B dX12_go_152 (by decide) rfl ?_
                  refine mu_il_4 B dX12_go_154 ?_
                  refine mu_il_2 B dX12_go_156 ?_
                  refine mu_ineg B dX12_go_157 ?_
                  try rw [mI_neg]
                  refine mu_icmp_ge (tgt := 195) B dX12_go_158 (by decide) (fun c158 => ?_) (fun c158 => ?_)
                  · try rw [mI_le ⟨by omega, by omega⟩ ⟨by omega, by omega⟩] at c158
                    refine mu_al_0 B dX12_go_195 ?_
                    refine mu_getR B dX12_go_196 fX12_102 rfl (by assumption) (by assumption) ?_
                    refine mu_il_1 B dX12_go_199 ?_
                    refine mu_iald B dX12_go_200 (by assumption) (mI_inN (by omega) (by decide)) ?_
                    rw [mI_clampN (by omega), h30]
                    refine mu_iret E rfl (by decide) (by decide) dX12_go_201 ?_
                    unfold gg_post
                    rw [if_pos ⟨by omega, by omega, by omega, by omega⟩, Int.toNat_natCast]
                    refine ⟨hF, fun hh => absurd hh (by omega), fun _ => ⟨by congr 3; omega, hG⟩, fun hh => absurd hh (by omega)⟩
                  · try rw [mI_le ⟨by omega, by omega⟩ ⟨by omega, by omega⟩] at c158
                    exfalso
                    omega
                · try rw [mI_le ⟨by omega, by omega⟩ ⟨by omega, by omega⟩] at c110
                  refine mu_al_0 B dX12_go_113 ?_
                  refine mu_il_1 B dX12_go_114 ?_
                  refine mu_al_0 B dX12_go_115 ?_
                  refine mu_getR B dX12_go_116 fX12_102 rfl (by assumption) (by assumption) ?_
                  refine mu_il_1 B dX12_go_119 ?_
                  refine mu_iald B dX12_go_120 (by assumption) (mI_inN (by omega) (by decide)) ?_
                  rw [mI_clampN (by omega), h30]
                  refine mu_iconst (v := mI 2) B dX12_go_121 rfl ?_
                  refine mu_irem B dX12_go_122 ?_ ?_
                  · decide
                  rw [mI_rem (by omega) (by omega) (by omega) (by omega)]
                  refine mu_al_0 B dX12_go_123 ?_
                  refine mu_getR B dX12_go_124 fX12_32 rfl (by assumption) (by assumption) ?_
                  refine mu_sipush (v := mI 256) B dX12_go_127 (by decide) ?_
                  refine mu_il_3 B dX12_go_130 ?_
                  refine mu_imul B dX12_go_131 ?_
                  try rw [mI_mul]
                  rw [show (256 : Int) * ((gs_r (gs g) : Nat) : Int) = ((256 * gs_r (gs g) : Nat) : Int) by omega]
                  refine mu_cV4 B dX12_go_132 mX12_340 ⟨⟨by decide, by decide⟩, by decide, by decide⟩ (Nat.le_of_ble_eq_true rfl) (by assumption) (c_turnM G hm1 hru1 hG (off := (gs_n (gs g) + k) % 2) (tab := rs_be (rs (gs_r (gs g)))) (by omega) (by omega) (by omega) k10 (by omega) (by omega) (by omega) (fun b hb => ⟨u6a.2 b hb, by have := hbN b hb; omega⟩)) (fun r132 w132 q132 => ?_)
                  obtain ⟨rfl, hF2, hG2⟩ := q132
                  have hFa := hF.trans (fl_gg hF2)
                  have hm2 := hm.fi hFa
                  have hk2 := hm2.1
                  obtain ⟨r50b, k50b⟩ := mo_50 hm2
                  have h30b := (hG2.2.2 g hg).2.2.2.2.1
                  rw [gi_at] at h30b
                  replace h30b : mu_iv w132 (m + 30) g = mI ((gs_n (gs g) + k : Nat) : Int) := h30b
                  show mu_WA X G 5 _ w132 0 0 135 _ []
                  refine mu_al_0 B dX12_go_135 ?_
                  refine mu_getR B dX12_go_136 fX12_102 rfl (by assumption) (by assumption) ?_
                  refine mu_il_1 B dX12_go_139 ?_
                  refine mu_dup2_11 B dX12_go_140 rfl rfl ?_
                  refine mu_iald B dX12_go_141 (by assumption) (mI_inN (by omega) (by decide)) ?_
                  rw [mI_clampN (by omega), h30b]
                  refine mu_iconst (v := mI 1) B dX12_go_142 rfl ?_
                  refine mu_iadd B dX12_go_143 ?_
                  try rw [mI_add]
                  refine mu_iast B dX12_go_144 (by assumption) (mI_inN (by omega) (by decide)) ?_
                  rw [mI_clampN (by omega)]
                  refine mu_inc_4 (c := mI 1) B dX12_go_145 rfl (by decide) rfl ?_
                  try rw [mI_add]
                  refine mu_goto (tgt := 107) B dX12_go_148 (by decide) ?_
                  refine mu_to (ih _ (by omega) ⟨hFa.si (Or.inr (Or.inl ⟨rfl, rfl⟩)), hG2.gen (by omega) (n' := gs_n (gs g) + (k + 1)) (by omega) (by omega)⟩) rfl (by rw [show ((k + 1 : Nat) : Int) = (k : Int) + 1 by omega])
              refine mu_il_4 B dX12_go_64 ?_
              refine mu_al_0 B dX12_go_66 ?_
              refine mu_il_3 B dX12_go_67 ?_
              refine mu_eV1 B dX12_go_68 mX12_328 ⟨⟨by decide, by decide⟩, by decide, by decide⟩ (Nat.le_of_ble_eq_true rfl) (by assumption) (c_X12_blocksOf G hm hru g1.1 g1.2.1) ?_
              rw [show rs_S (rs (gs_r (gs g))) * rs_S (rs (gs_r (gs g))) * rs_S (rs (gs_r (gs g))) * rs_S (rs (gs_r (gs g))) = rs_N (rs (gs_r (gs g))) from rfl]
              refine mu_icmp_ge (tgt := 104) B dX12_go_71 (by decide) (fun c71 => ?_) (fun c71 => ?_)
              · try rw [mI_le ⟨by omega, by omega⟩ ⟨by omega, by omega⟩] at c71
                exfalso
                omega
              · try rw [mI_le ⟨by omega, by omega⟩ ⟨by omega, by omega⟩] at c71
                refine mu_il_2 B dX12_go_74 ?_
                refine mu_if_ge (tgt := 104) B dX12_go_75 (by decide) (fun c75 => ?_) (fun c75 => ?_)
                · try rw [mI_ge0 ⟨by omega, by omega⟩] at c75
                  refine mu_iconst (v := mI 0) B dX12_go_104 rfl ?_
                  refine mu_is_4 B dX12_go_105 (by decide) rfl ?_
                  refine LF 0 w (Nat.zero_le _) ⟨mu_Fi.refl _, ?_⟩
                  have e9 : gi_up gs g (gs_n (gs g) + 0) (sp_gfw rs (gs g) 0) = gs := by funext q9; unfold gi_up rs_up; by_cases e8 : q9 = g; (rw [if_pos e8, e8]; rfl); rw [if_neg e8]
                  rw [e9]
                  exact hgr
                · try rw [mI_ge0 ⟨by omega, by omega⟩] at c75
                  exfalso
                  omega
            · exfalso
              omega
          · try rw [mI_ge0 ⟨by omega, by omega⟩] at c36
            try rw [mI_ge0 ⟨by omega, by omega⟩] at c36
            have hneg : n < 0 := by omega
            refine mu_al_0 B dX12_go_39 ?_
            refine mu_il_3 B dX12_go_40 ?_
            refine mu_cV1 B dX12_go_41 mX12_337 ⟨⟨by decide, by decide⟩, by decide, by decide⟩ (Nat.le_of_ble_eq_true rfl) (by assumption) (c_X12_isReversible G hm hru (k := gs_r (gs g)) g1.1 g1.2.1) (fun r41 w41 q41 => ?_)
            have hFv := q41.fi
            have hk9 := (hm.fi hFv).1
            obtain ⟨r50, k50⟩ := mo_50 (hm.fi hFv)
            obtain ⟨rfl, q41⟩ := q41
            show mu_WA X G 5 _ w41 _ _ _ _ [.int (rv_v (rs (gs_r (gs g))))]
            have h30 := hFv.iv (by unfold rv_S; omega) g5
            refine mu_if_eq (tgt := 58) B dX12_go_44 (by decide) (fun c44 => ?_) (fun c44 => ?_)
            · have hrev := rv_f c44
              refine mu_bipush (v := mI (-2)) B dX12_go_58 (by decide) ?_
              refine mu_iret E rfl (by decide) (by decide) dX12_go_60 ?_
              unfold gg_post
              rw [if_pos ⟨by omega, by omega, by omega, by omega⟩, Int.toNat_natCast]
              refine ⟨rv_gg hFv, fun _ _ => ⟨rfl, hgr.eqs (hFv.2.2.2 _ _ (by unfold rv_S; omega)).1 (fun q j h1 h2 => (hFv.2.2.2 q j (by unfold rv_S; omega)).1)⟩, fun hh => absurd hh (by omega), fun _ h8 h9 => ?_⟩
              first | exact absurd h8 hrev | (exfalso; omega)
            · have hrev := rv_t c44
              refine mu_al_0 B dX12_go_47 ?_
              refine mu_getR B dX12_go_48 fX12_102 rfl (by assumption) (by assumption) ?_
              refine mu_il_1 B dX12_go_51 ?_
              refine mu_iald B dX12_go_52 (by assumption) (mI_inN (by omega) (by decide)) ?_
              rw [mI_clampN (by omega), h30]
              refine mu_il_2 B dX12_go_53 ?_
              refine mu_ineg B dX12_go_54 ?_
              try rw [mI_neg]
              refine mu_icmp_ge (tgt := 61) B dX12_go_55 (by decide) (fun c55 => ?_) (fun c55 => ?_)
              · try rw [mI_le ⟨by omega, by omega⟩ ⟨by omega, by omega⟩] at c55
                refine mu_iconst (v := mI 0) B dX12_go_61 rfl ?_
                refine mu_is_4 B dX12_go_62 (by decide) rfl ?_
                have LB : ∀ k (s : mu_W), k ≤ (-n).toNat → (mu_Fi (gg_S m g) w s ∧ MGr s m nr rs ng (gi_up gs g (gs_n (gs g) - k) (sp_gbw rs (gs g) k)) ∧ ∀ b, b < rs_N (rs (gs_r (gs g))) → mu_iv s (m + 32) b = mI (sp_inv (rs_be (rs (gs_r (gs g)))) (rs_N (rs (gs_r (gs g)))) b)) → mu_WA X G 5 (mu_Q X G M_X12_go (gg_post w m nr rs ng gs (g : Int) n)) s 0 0 154 [.ref m, .int (mI g), .int (mI n), .int (mI (gs_r (gs g) : Int)), .int (mI k)] [] := by
                  refine mu_ind ((-n).toNat) (fun k (s : mu_W) => mu_WA X G 5 (mu_Q X G M_X12_go (gg_post w m nr rs ng gs (g : Int) n)) s 0 0 154 [.ref m, .int (mI g), .int (mI n), .int (mI (gs_r (gs g) : Int)), .int (mI k)] []) (fun k (s : mu_W) => mu_Fi (gg_S m g) w s ∧ MGr s m nr rs ng (gi_up gs g (gs_n (gs g) - k) (sp_gbw rs (gs g) k)) ∧ ∀ b, b < rs_N (rs (gs_r (gs g))) → mu_iv s (m + 32) b = mI (sp_inv (rs_be (rs (gs_r (gs g)))) (rs_N (rs (gs_r (gs g)))) b)) ?_
                  rintro k w1 hk ⟨hF, hG, hinv⟩ ih
                  have hm1 := hm.fi hF
                  have hk1 := hm1.1
                  obtain ⟨r50, k50⟩ := mo_50 hm1
                  obtain ⟨r10, k10⟩ := mo_10 hm1
                  obtain ⟨r52, k52⟩ := mo_52 hm1
                  have hru1 := hru.gg hF
                  have u6a := (hru1.2.2 (gs_r (gs g)) g1.1).2.2.2.2.2 g1.2.1
                  have h30 := (hG.2.2 g hg).2.2.2.2.1
                  rw [gi_at] at h30
                  replace h30 : mu_iv w1 (m + 30) g = mI ((gs_n (gs g) - k : Nat) : Int) := h30
                  refine mu_il_4 B dX12_go_154 ?_
                  refine mu_il_2 B dX12_go_156 ?_
                  refine mu_ineg B dX12_go_157 ?_
                  try rw [mI_neg]
                  refine mu_icmp_ge (tgt := 195) B dX12_go_158 (by decide) (fun c158 => ?_) (fun c158 => ?_)
                  · try rw [mI_le ⟨by omega, by omega⟩ ⟨by omega, by omega⟩] at c158
                    obtain rfl : k = (-n).toNat := by omega
                    refine mu_al_0 B dX12_go_195 ?_
                    refine mu_getR B dX12_go_196 fX12_102 rfl (by assumption) (by assumption) ?_
                    refine mu_il_1 B dX12_go_199 ?_
                    refine mu_iald B dX12_go_200 (by assumption) (mI_inN (by omega) (by decide)) ?_
                    rw [mI_clampN (by omega), h30]
                    refine mu_iret E rfl (by decide) (by decide) dX12_go_201 ?_
                    unfold gg_post
                    rw [if_pos ⟨by omega, by omega, by omega, by omega⟩, Int.toNat_natCast]
                    refine ⟨hF, fun _ hh => hh.elim (fun q => absurd hrev q) (fun q => absurd q (by omega)), fun hh => absurd hh (by omega), fun _ _ _ => ⟨by congr 3; omega, hG⟩⟩
                  · try rw [mI_le ⟨by omega, by omega⟩ ⟨by omega, by omega⟩] at c158
                    refine mu_al_0 B dX12_go_161 ?_
                    refine mu_getR B dX12_go_162 fX12_102 rfl (by assumption) (by assumption) ?_
                    refine mu_il_1 B dX12_go_165 ?_
                    refine mu_dup2_11 B dX12_go_166 rfl rfl ?_
                    refine mu_iald B dX12_go_167 (by assumption) (mI_inN (by omega) (by decide)) ?_
                    rw [mI_clampN (by omega), h30]
                    refine mu_iconst (v := mI 1) B dX12_go_168 rfl ?_
                    refine mu_isub B dX12_go_169 ?_
                    try rw [mI_sub]
                    refine mu_iast B dX12_go_170 (by assumption) (mI_inN (by omega) (by decide)) ?_
                    rw [mI_clampN (by omega)]
                    have hG3 := hG.gen (by omega) (n' := gs_n (gs g) - (k + 1)) (by omega) (x := ((gs_n (gs g) - k : Nat) : Int) - 1) (by omega)
                    have hF3 := hF.si (a := m + 30) (k := g) (x := mI (((gs_n (gs g) - k : Nat) : Int) - 1)) (Or.inr (Or.inl ⟨rfl, rfl⟩))
                    have hi3 : ∀ b, b < rs_N (rs (gs_r (gs g))) → mu_iv (mu_si w1 (m + 30) g (mI (((gs_n (gs g) - k : Nat) : Int) - 1))) (m + 32) b = _ := fun b hb => (mu_iv_oth _ _ (by omega)).trans (hinv b hb)
                    generalize mu_si w1 (m + 30) g (mI (((gs_n (gs g) - k : Nat) : Int) - 1)) = w3 at hG3 hF3 hi3 ⊢
                    have hm3 := hm.fi hF3
                    have hk3 := hm3.1
                    obtain ⟨r50b, k50b⟩ := mo_50 hm3
                    obtain ⟨r52b, k52b⟩ := mo_52 hm3
                    have h30b := (hG3.2.2 g hg).2.2.2.2.1
                    rw [gi_at] at h30b
                    replace h30b : mu_iv w3 (m + 30) g = mI ((gs_n (gs g) - (k + 1) : Nat) : Int) := h30b
                    have hru3 := hru.gg hF3
                    refine mu_al_0 B dX12_go_171 ?_
                    refine mu_il_1 B dX12_go_172 ?_
                    refine mu_al_0 B dX12_go_173 ?_
                    refine mu_getR B dX12_go_174 fX12_102 rfl (by assumption) (by assumption) ?_
                    refine mu_il_1 B dX12_go_177 ?_
                    refine mu_iald B dX12_go_178 (by assumption) (mI_inN (by omega) (by decide)) ?_
                    rw [mI_clampN (by omega), h30b]
                    refine mu_iconst (v := mI 2) B dX12_go_179 rfl ?_
                    refine mu_irem B dX12_go_180 ?_ ?_
                    · decide
                    rw [mI_rem (by omega) (by omega) (by omega) (by omega)]
                    refine mu_al_0 B dX12_go_181 ?_
                    refine mu_getR B dX12_go_182 fX12_108 rfl (by assumption) (by assumption) ?_
                    refine mu_iconst (v := mI 0) B dX12_go_185 rfl ?_
                    refine mu_cV4 B dX12_go_186 mX12_340 ⟨⟨by decide, by decide⟩, by decide, by decide⟩ (Nat.le_of_ble_eq_true rfl) (by assumption) (c_turnM G hm3 hru3 hG3 (off := (gs_n (gs g) - (k + 1)) % 2) (base := 0) (tab := sp_inv (rs_be (rs (gs_r (gs g)))) (rs_N (rs (gs_r (gs g))))) (by omega) (by omega) (by omega) k52b (by omega) (by omega) (by omega) (fun b hb => ⟨by rw [Nat.zero_add]; exact hi3 b hb, by have := (sp_inv_at hrev hbN hb).1; omega⟩)) (fun r186 w186 q186 => ?_)
                    obtain ⟨rfl, hF2, hG2⟩ := q186
                    have hFa := hF3.trans (fl_gg hF2)
                    show mu_WA X G 5 _ w186 0 0 189 _ []
                    refine mu_inc_4 (c := mI 1) B dX12_go_189 rfl (by decide) rfl ?_
                    try rw [mI_add]
                    refine mu_goto (tgt := 154) B dX12_go_192 (by decide) ?_
                    refine mu_to (ih _ (by omega) ⟨hFa, hG2, fun b hb => hF2.iv (by unfold fl_S; omega) (hi3 b hb)⟩) rfl (by rw [show ((k + 1 : Nat) : Int) = (k : Int) + 1 by omega])
                have LV : ∀ k (s : mu_W), k ≤ rs_N (rs (gs_r (gs g))) → (mu_Fi (gg_S m g) w s ∧ (∀ q j, q ≠ m + 32 → q ≠ m → mu_iv s q j = mu_iv w q j) ∧ (mu_iv s m 46 = mu_iv w m 46) ∧ ∀ j, j < k → mu_iv s (m + 32) (rs_be (rs (gs_r (gs g))) j) = mI j) → mu_WA X G 5 (mu_Q X G M_X12_go (gg_post w m nr rs ng gs (g : Int) n)) s 0 0 64 [.ref m, .int (mI g), .int (mI n), .int (mI (gs_r (gs g) : Int)), .int (mI k)] [] := by
                  refine mu_ind (rs_N (rs (gs_r (gs g)))) (fun k (s : mu_W) => mu_WA X G 5 (mu_Q X G M_X12_go (gg_post w m nr rs ng gs (g : Int) n)) s 0 0 64 [.ref m, .int (mI g), .int (mI n), .int (mI (gs_r (gs g) : Int)), .int (mI k)] []) (fun k (s : mu_W) => mu_Fi (gg_S m g) w s ∧ (∀ q j, q ≠ m + 32 → q ≠ m → mu_iv s q j = mu_iv w q j) ∧ (mu_iv s m 46 = mu_iv w m 46) ∧ ∀ j, j < k → mu_iv s (m + 32) (rs_be (rs (gs_r (gs g))) j) = mI j) ?_
                  rintro k w1 hk ⟨hF, hsm, h46, hiv⟩ ih
                  have hm1 := hm.fi hF
                  have hk1 := hm1.1
                  obtain ⟨r50, k50⟩ := mo_50 hm1
                  obtain ⟨r10, k10⟩ := mo_10 hm1
                  obtain ⟨r52, k52⟩ := mo_52 hm1
                  have hru1 := hru.gg hF
                  have u6a := (hru1.2.2 (gs_r (gs g)) g1.1).2.2.2.2.2 g1.2.1
                  refine mu_il_4 B dX12_go_64 ?_
                  refine mu_al_0 B dX12_go_66 ?_
                  refine mu_il_3 B dX12_go_67 ?_
                  refine mu_eV1 B dX12_go_68 mX12_328 ⟨⟨by decide, by decide⟩, by decide, by decide⟩ (Nat.le_of_ble_eq_true rfl) (by assumption) (c_X12_blocksOf G hm1 hru1 g1.1 g1.2.1) ?_
                  rw [show rs_S (rs (gs_r (gs g))) * rs_S (rs (gs_r (gs g))) * rs_S (rs (gs_r (gs g))) * rs_S (rs (gs_r (gs g))) = rs_N (rs (gs_r (gs g))) from rfl]
                  refine mu_icmp_ge (tgt := 104) B dX12_go_71 (by decide) (fun c71 => ?_) (fun c71 => ?_)
                  · try rw [mI_le ⟨by omega, by omega⟩ ⟨by omega, by omega⟩] at c71
                    obtain rfl : k = rs_N (rs (gs_r (gs g))) := by omega
                    refine mu_iconst (v := mI 0) B dX12_go_104 rfl ?_
                    refine mu_is_4 B dX12_go_105 (by decide) rfl ?_
                    refine mu_il_4 B dX12_go_107 ?_
                    refine mu_il_2 B dX12_go_109 ?_
                    refine mu_icmp_ge (tgt := 151) B dX12_go_110 (by decide) (fun c110 => ?_) (fun c110 => ?_)
                    · try rw [mI_le ⟨by omega, by omega⟩ ⟨by omega, by omega⟩] at c110
                      refine mu_iconst (v := mI 0) B dX12_go_151 rfl ?_
                      refine mu_is_4 B dX12_go_152 (by decide) rfl ?_
                      refine LB 0 w1 (Nat.zero_le _) ⟨hF, ?_, fun b hb => ?_⟩
                      · have e9 : gi_up gs g (gs_n (gs g) - 0) (sp_gbw rs (gs g) 0) = gs := by funext q9; unfold gi_up rs_up; by_cases e8 : q9 = g; (rw [if_pos e8, e8]; rfl); rw [if_neg e8]
                        rw [e9]
                        exact hgr.eqs h46 (fun q j h1 h2 => hsm q j (by omega) (by omega))
                      · have e9 := sp_inv_at hrev hbN hb
                        have e8 := hiv _ e9.1
                        rw [e9.2] at e8
                        exact e8
                    · try rw [mI_le ⟨by omega, by omega⟩ ⟨by omega, by omega⟩] at c110
                      exfalso
                      omega
                  · try rw [mI_le ⟨by omega, by omega⟩ ⟨by omega, by omega⟩] at c71
                    refine mu_il_2 B dX12_go_74 ?_
                    refine mu_if_ge (tgt := 104) B dX12_go_75 (by decide) (fun c75 => ?_) (fun c75 => ?_)
                    · try rw [mI_ge0 ⟨by omega, by omega⟩] at c75
                      exfalso
                      omega
                    · try rw [mI_ge0 ⟨by omega, by omega⟩] at c75
                      refine mu_al_0 B dX12_go_78 ?_
                      refine mu_getR B dX12_go_79 fX12_108 rfl (by assumption) (by assumption) ?_
                      refine mu_al_0 B dX12_go_82 ?_
                      refine mu_getR B dX12_go_83 fX12_32 rfl (by assumption) (by assumption) ?_
                      refine mu_sipush (v := mI 256) B dX12_go_86 (by decide) ?_
                      refine mu_il_3 B dX12_go_89 ?_
                      refine mu_imul B dX12_go_90 ?_
                      try rw [mI_mul]
                      refine mu_il_4 B dX12_go_91 ?_
                      refine mu_iadd B dX12_go_93 ?_
                      try rw [mI_add]
                      rw [show (256 : Int) * ((gs_r (gs g) : Nat) : Int) + (k : Int) = ((256 * gs_r (gs g) + k : Nat) : Int) by omega]
                      refine mu_iald B dX12_go_94 (by assumption) (mI_inN (by omega) (by decide)) ?_
                      rw [mI_clampN (by omega), u6a.2 k (by show k < rs_N (rs (gs_r (gs g))); omega)]
                      have hbk : rs_be (rs (gs_r (gs g))) k < rs_N (rs (gs_r (gs g))) := hS.2.2 k (by show k < rs_N (rs (gs_r (gs g))); omega)
                      refine mu_il_4 B dX12_go_95 ?_
                      refine mu_iast B dX12_go_97 (by assumption) (mI_inN (by omega) (by decide)) ?_
                      rw [mI_clampN (by omega)]
                      refine mu_inc_4 (c := mI 1) B dX12_go_98 rfl (by decide) rfl ?_
                      try rw [mI_add]
                      refine mu_goto (tgt := 64) B dX12_go_101 (by decide) ?_
                      refine mu_to (ih _ (by omega) ⟨hF.si (Or.inr (Or.inr (Or.inr rfl))), fun q j h1 h2 => (mu_iv_oth _ _ (by omega)).trans (hsm q j h1 h2), (mu_iv_oth _ _ (by omega)).trans h46, fun j hj => ?_⟩) rfl (by rw [show ((k + 1 : Nat) : Int) = (k : Int) + 1 by omega])
                      by_cases e9 : j = k
                      · rw [e9, mu_iv_same]
                      · rw [mu_iv_oth _ _ (fun hh => hrev j k (by omega) (by omega) hh.2)]; exact hiv j (by omega)
                exact LV 0 w41 (Nat.zero_le _) ⟨rv_gg hFv, fun q j h1 h2 => (hFv.2.2.2 q j (by unfold rv_S; omega)).1, (hFv.2.2.2 _ _ (by unfold rv_S; omega)).1, fun j hj => absurd hj (Nat.not_lt_zero j)⟩
              · try rw [mI_le ⟨by omega, by omega⟩ ⟨by omega, by omega⟩] at c55
                refine mu_bipush (v := mI (-2)) B dX12_go_58 (by decide) ?_
                refine mu_iret E rfl (by decide) (by decide) dX12_go_60 ?_
                unfold gg_post
                rw [if_pos ⟨by omega, by omega, by omega, by omega⟩, Int.toNat_natCast]
                refine ⟨rv_gg hFv, fun _ _ => ⟨rfl, hgr.eqs (hFv.2.2.2 _ _ (by unfold rv_S; omega)).1 (fun q j h1 h2 => (hFv.2.2.2 q j (by unfold rv_S; omega)).1)⟩, fun hh => absurd hh (by omega), fun _ h8 h9 => ?_⟩
                first | exact absurd h8 hrev | (exfalso; omega)
        · try rw [mI_le ⟨by omega, by omega⟩ ⟨by omega, by omega⟩] at c23
          refine mu_iconst (v := mI (-1)) B dX12_go_26 rfl ?_
          refine mu_iret E rfl (by decide) (by decide) dX12_go_27 ?_
          unfold gg_post
          first | (rw [if_neg (fun hh => z5 hh.1)]; exact ⟨rfl, rfl⟩) | (rw [if_neg (fun hh => by have := hh.2; omega)]; exact ⟨rfl, rfl⟩)
