/-! ===== blocks turned: cell k of the block at (i, j) ===== -/
def tq_i (R i k : Nat) : Nat := (i + k / 2) % R
def tq_j (C j k : Nat) : Nat := (j + k % 2) % C
/-- the block's number, by its first k cells -/
def tq_n (S R C i j : Nat) (c : Nat → Nat → Nat) : Nat → Nat
  | 0 => 0
  | k + 1 => tq_n S R C i j c k * S + c (tq_i R i k) (tq_j C j k)
/-- the block's last n cells written -/
def tq_w (S R C i j v : Nat) (c : Nat → Nat → Nat) : Nat → Nat → Nat → Nat
  | 0 => c
  | n + 1 => cu (tq_w S R C i j v c n) (tq_i R i (3 - n)) (tq_j C j (3 - n)) (v / S ^ n % S)
def sp_t1 (tab : Nat → Nat) (S R C i j : Nat) (c : Nat → Nat → Nat) : Nat → Nat → Nat := tq_w S R C i j (tab (tq_n S R C i j c 4)) c 4
def sp_tr (tab : Nat → Nat) (S R C i off : Nat) (c : Nat → Nat → Nat) : Nat → Nat → Nat → Nat
  | 0 => c
  | n + 1 => sp_t1 tab S R C i (off + 2 * n) (sp_tr tab S R C i off c n)
def sp_tu (tab : Nat → Nat) (S R C off : Nat) (c : Nat → Nat → Nat) : Nat → Nat → Nat → Nat
  | 0 => c
  | n + 1 => sp_tr tab S R C (off + 2 * n) off (sp_tu tab S R C off c n) (C / 2)
theorem tq_n_lt {S R C i j : Nat} {c : Nat → Nat → Nat} (hS : 0 < S) (hc : ∀ a b, c a b < S) : ∀ k, tq_n S R C i j c k < S ^ k
  | 0 => by rw [tq_n, Nat.pow_zero]; omega
  | k + 1 => by
    rw [tq_n, Nat.pow_succ]
    have h1 := tq_n_lt hS hc (R := R) (C := C) (i := i) (j := j) k
    have h2 := hc (tq_i R i k) (tq_j C j k)
    have h3 : (tq_n S R C i j c k + 1) * S ≤ S ^ k * S := Nat.mul_le_mul_right S h1
    rw [Nat.add_mul] at h3
    omega
theorem tq_w_lt {S R C i j v : Nat} {c : Nat → Nat → Nat} (hS : 0 < S) (hc : ∀ a b, c a b < S) : ∀ n a b, tq_w S R C i j v c n a b < S
  | 0 => hc
  | n + 1 => cu_lt (tq_w_lt hS hc n) (Nat.mod_lt _ hS)
theorem sp_tr_lt {tab : Nat → Nat} {S R C i off : Nat} {c : Nat → Nat → Nat} (hS : 0 < S) (hc : ∀ a b, c a b < S) : ∀ n a b, sp_tr tab S R C i off c n a b < S
  | 0 => hc
  | n + 1 => tq_w_lt hS (sp_tr_lt hS hc n) 4
theorem sp_tu_lt {tab : Nat → Nat} {S R C off : Nat} {c : Nat → Nat → Nat} (hS : 0 < S) (hc : ∀ a b, c a b < S) : ∀ n a b, sp_tu tab S R C off c n a b < S
  | 0 => hc
  | n + 1 => sp_tr_lt hS (sp_tu_lt hS hc n) _
theorem s_pow4 (S : Nat) : S ^ 4 = S * S * S * S := by rw [Nat.pow_succ, Nat.pow_succ, Nat.pow_succ, Nat.pow_succ, Nat.pow_zero, Nat.one_mul]
theorem tq_n_bd {S R C i j : Nat} {c : Nat → Nat → Nat} (hS : 2 ≤ S ∧ S ≤ 4) (hc : ∀ a b, c a b < S) {k : Nat} (hk : k ≤ 4) : tq_n S R C i j c k < 256 := by
  have h1 := tq_n_lt (show 0 < S by omega) hc (R := R) (C := C) (i := i) (j := j) k
  have h2 : S ^ k ≤ S ^ 4 := Nat.pow_le_pow_right (by omega) hk
  rw [s_pow4] at h2
  have := s4_le hS
  omega
def GC (w : mu_W) (m g R C : Nat) (c : Nat → Nat → Nat) : Prop := ∀ a b, a < R → b < C → mu_iv w (m + 31) (256 * g + C * a + b) = mI (c a b)
theorem GC.wr {w : mu_W} {m g R C : Nat} {c : Nat → Nat → Nat} (h : GC w m g R C c) {i j v : Nat} (hi : i < R) (hj : j < C) : GC (mu_si w (m + 31) (256 * g + C * i + j) (mI v)) m g R C (cu c i j v) := fun a b ha hb => by
  unfold cu
  by_cases e9 : a = i ∧ b = j
  · rw [if_pos e9, e9.1, e9.2, mu_iv_same]
  · rw [if_neg e9, mu_iv_oth _ _ (fun hh => e9 (gs_inj hb hj (by omega)))]
    exact h a b ha hb
theorem gpI (G : mu_G) {w : mu_W} {m : Nat} (hm : mo_ok w m) {g R C : Nat} {x y : Int} (i j : Nat) (hx : x = i) (hy : y = j) (hg : g < 8) (hr : mu_iv w (m + 28) g = mI R) (hc : mu_iv w (m + 29) g = mI C) (hR : 0 < R ∧ R ≤ 16) (hC : 0 < C ∧ C ≤ 16) (hi : i < 1000) (hj : j < 1000) : mu_Ct G M_X12_gridPlace [.ref m, .int (mI g), .int (mI x), .int (mI y)] w (fun r w' => r = some (.int (mI ((256 * g + C * (i % R) + j % C : Nat) : Int))) ∧ w' = w) := by
  subst hx hy
  exact c_X12_gridPlace G hm hg hr hc hR hC hi hj
def tn_post (w : mu_W) (m g R C : Nat) (c : Nat → Nat → Nat) (r : Option Value) (w' : mu_W) : Prop := r = none ∧ mu_Fi (fl_S m g) w w' ∧ GC w' m g R C c
theorem pg_surj : ∀ (N : Nat) (f : Nat → Nat), (∀ j, j < N → f j < N) → (∀ a b, a < N → b < N → f a = f b → a = b) → ∀ b, b < N → ∃ j, j < N ∧ f j = b
  | 0, f, _, _, b, hb => absurd hb (Nat.not_lt_zero b)
  | N + 1, f, hlt, hinj, b, hb => by
    have ih := pg_surj N (fun j => if f j = N then f N else f j) (fun j hj => by
      by_cases q : f j = N
      · rw [if_pos q]
        have h1 := hlt N (by omega)
        have h2 : f N ≠ N := fun e => by have := hinj j N (by omega) (by omega) (q.trans e.symm); omega
        omega
      · rw [if_neg q]; have := hlt j (by omega); omega) (fun a b ha hb h => by
      by_cases qa : f a = N
      · by_cases qb : f b = N
        · exact hinj a b (by omega) (by omega) (qa.trans qb.symm)
        · rw [if_pos qa, if_neg qb] at h
          have := hinj N b (by omega) (by omega) h; omega
      · by_cases qb : f b = N
        · rw [if_neg qa, if_pos qb] at h
          have := hinj a N (by omega) (by omega) h; omega
        · rw [if_neg qa, if_neg qb] at h
          exact hinj a b (by omega) (by omega) h)
    by_cases hbN : b = N
    · by_cases q : f N = N
      · exact ⟨N, by omega, by omega⟩
      · obtain ⟨j, hj, e⟩ := ih (f N) (by have := hlt N (by omega); omega)
        by_cases qj : f j = N
        · exact ⟨j, by omega, by omega⟩
        · rw [if_neg qj] at e
          have := hinj j N (by omega) (by omega) e; omega
    · obtain ⟨j, hj, e⟩ := ih b (by omega)
      by_cases qj : f j = N
      · rw [if_pos qj] at e; exact ⟨N, by omega, e⟩
      · rw [if_neg qj] at e; exact ⟨j, by omega, e⟩
/-- the block that becomes b (the greatest, of several) -/
def sp_inv (be : Nat → Nat) : Nat → Nat → Nat
  | 0, _ => 0
  | n + 1, b => if be n = b then n else sp_inv be n b
theorem sp_inv_eq {N : Nat} {be : Nat → Nat} (hr : sp_rev N be) {k : Nat} (hk : k < N) : sp_inv be N (be k) = k := by
  have : ∀ n, k < n → n ≤ N → sp_inv be n (be k) = k := by
    intro n
    induction n with
    | zero => intro h; exact absurd h (Nat.not_lt_zero k)
    | succ n ih =>
      intro h1 h2
      rw [sp_inv]
      by_cases e : be n = be k
      · rw [if_pos e]
        by_cases q : n = k
        · exact q
        · exact absurd e.symm (hr k n (by omega) (by omega))
      · rw [if_neg e]
        exact ih (by by_cases q : n = k; (rw [q] at e; exact absurd rfl e); omega) (by omega)
  exact this N hk (Nat.le_refl _)
theorem sp_inv_at {N : Nat} {be : Nat → Nat} (hr : sp_rev N be) (hb : ∀ k, k < N → be k < N) {b : Nat} (h : b < N) : sp_inv be N b < N ∧ be (sp_inv be N b) = b := by
  obtain ⟨j, hj, e⟩ := pg_surj N be hb (fun x y hx hy hxy => by
    by_cases q : x < y
    · exact absurd hxy (hr x y q hy)
    · by_cases q2 : y < x
      · exact absurd hxy.symm (hr y x q2 hx)
      · omega) b h
  subst e
  rw [sp_inv_eq hr hj]
  exact ⟨hj, rfl⟩

set_option maxHeartbeats 4000000 in
set_option maxRecDepth 100000 in
theorem c_X12_turn (G : mu_G) {w : mu_W} {m : Nat} (hm : mo_ok w m) {nr : Nat} {rs : Nat → mu_RS} (hru : MRu w m nr rs) {ng : Nat} {gs : Nat → mu_GS} (hgr : MGr w m nr rs ng gs) {g off t TN base : Nat} (hg : g < ng) (hoff : off ≤ 1) {tab : Nat → Nat} (hkt : mu_kd w t = some (100, TN)) (hTN : base + rs_N (rs (gs_r (gs g))) ≤ TN) (hTN2 : TN ≤ 1000000) (ht31 : t ≠ m + 31) (hT : ∀ b, b < rs_N (rs (gs_r (gs g))) → mu_iv w t (base + b) = mI (tab b) ∧ tab b < 1000) : mu_Ct G M_X12_turn [.ref m, .int (mI g), .int (mI off), .ref t, .int (mI base)] w (tn_post w m g (gs_R (gs g)) (gs_C (gs g)) (sp_tu tab (rs_S (rs (gs_r (gs g)))) (gs_R (gs g)) (gs_C (gs g)) off (gs_c (gs g)) ((gs_R (gs g)) / 2))) := by
  have hk0 := hm.1
  have hng := hgr.1
  obtain ⟨r51, k51⟩ := mo_51 hm
  obtain ⟨r47, k47⟩ := mo_47 hm
  obtain ⟨r6, k6⟩ := mo_6 hm
  obtain ⟨g1, g2, g3, g4, g5, g6⟩ := hgr.2.2 g hg
  obtain ⟨⟨R1, R2, R3⟩, ⟨C1, C2, C3⟩⟩ : gs_sd (gs_R (gs g)) ∧ gs_sd (gs_C (gs g)) := ⟨g1.2.2.1, g1.2.2.2.1⟩
  obtain ⟨u1, u2, u3, u4, u5, u6⟩ := hru.2.2 (gs_r (gs g)) g1.1
  replace u6 := u6 g1.2.1
  have hS := rs_S_bd u1 g1.2.1
  have hnr := hru.1
  have hgr0 := g1.1
  refine mu_ofWA G M_X12_turn [.ref m, .int (mI g), .int (mI off), .ref t, .int (mI base), mu_no, mu_no, mu_no, mu_no, mu_no, mu_no] (by decide) rfl (Nat.le_of_ble_eq_true rfl) ?_
  intro X E
  have B : mu_B X G cX12_turn RX12 11 (mu_rm M_X12_turn) := E.1
  show mu_WA X G 11 _ _ 0 0 0 _ []
  refine mu_al_0 B dX12_turn_0 ?_
  refine mu_getR B dX12_turn_1 fX12_20 rfl (by assumption) (by assumption) ?_
  refine mu_al_0 B dX12_turn_4 ?_
  refine mu_getR B dX12_turn_5 fX12_93 rfl (by assumption) (by assumption) ?_
  refine mu_il_1 B dX12_turn_8 ?_
  refine mu_iald B dX12_turn_9 (by assumption) (mI_inN (by omega) (by decide)) ?_
  rw [mI_clampN (by omega), g2]
  refine mu_iald B dX12_turn_10 (by assumption) (mI_inN (by omega) (by decide)) ?_
  rw [mI_clampN (by omega), u6.1]
  refine mu_is_5 B dX12_turn_11 (by decide) rfl ?_
  refine mu_il_2 B dX12_turn_13 ?_
  refine mu_is_6 B dX12_turn_14 (by decide) rfl ?_
  have LI : ∀ p (s : mu_W), p ≤ (gs_R (gs g)) / 2 → (mu_Fi (fl_S m g) w s ∧ GC s m g (gs_R (gs g)) (gs_C (gs g)) (sp_tu tab (rs_S (rs (gs_r (gs g)))) (gs_R (gs g)) (gs_C (gs g)) off (gs_c (gs g)) p)) → mu_WA X G 11 (mu_Q X G M_X12_turn (tn_post w m g (gs_R (gs g)) (gs_C (gs g)) (sp_tu tab (rs_S (rs (gs_r (gs g)))) (gs_R (gs g)) (gs_C (gs g)) off (gs_c (gs g)) ((gs_R (gs g)) / 2)))) s 0 0 16 [.ref m, .int (mI g), .int (mI off), .ref t, .int (mI base), .int (mI (rs_S (rs (gs_r (gs g))))), .int (mI (off + 2 * p)), mu_no, mu_no, mu_no, mu_no] [] := by
    refine mu_ind ((gs_R (gs g)) / 2) (fun p (s : mu_W) => mu_WA X G 11 (mu_Q X G M_X12_turn (tn_post w m g (gs_R (gs g)) (gs_C (gs g)) (sp_tu tab (rs_S (rs (gs_r (gs g)))) (gs_R (gs g)) (gs_C (gs g)) off (gs_c (gs g)) ((gs_R (gs g)) / 2)))) s 0 0 16 [.ref m, .int (mI g), .int (mI off), .ref t, .int (mI base), .int (mI (rs_S (rs (gs_r (gs g))))), .int (mI (off + 2 * p)), mu_no, mu_no, mu_no, mu_no] []) (fun p (s : mu_W) => mu_Fi (fl_S m g) w s ∧ GC s m g (gs_R (gs g)) (gs_C (gs g)) (sp_tu tab (rs_S (rs (gs_r (gs g)))) (gs_R (gs g)) (gs_C (gs g)) off (gs_c (gs g)) p)) ?_
    rintro p w1 hp ⟨hF, hG⟩ ihp
    have hm1 := hm.fi hF
    have hk1 := hm1.1
    obtain ⟨r51, k51⟩ := mo_51 hm1
    obtain ⟨r48, k48⟩ := mo_48 hm1
    obtain ⟨r49, k49⟩ := mo_49 hm1
    have g3a := hF.iv (by unfold fl_S; omega) g3
    have g4a := hF.iv (by unfold fl_S; omega) g4
    have hkt1 := hF.kd hkt
    have hT1 : ∀ b, b < rs_N (rs (gs_r (gs g))) → mu_iv w1 t (base + b) = mI (tab b) := fun b hb => hF.iv (by unfold fl_S; omega) (hT b hb).1
    refine mu_il_6 B dX12_turn_16 ?_
    refine mu_al_0 B dX12_turn_18 ?_
    refine mu_getR B dX12_turn_19 fX12_96 rfl (by assumption) (by assumption) ?_
    refine mu_il_1 B dX12_turn_22 ?_
    refine mu_iald B dX12_turn_23 (by assumption) (mI_inN (by omega) (by decide)) ?_
    rw [mI_clampN (by omega), g3a]
    refine mu_il_2 B dX12_turn_24 ?_
    refine mu_iadd B dX12_turn_25 ?_
    try rw [mI_add]
    refine mu_icmp_ge (tgt := 166) B dX12_turn_26 (by decide) (fun c26 => ?_) (fun c26 => ?_)
    · try rw [mI_le ⟨by omega, by omega⟩ ⟨by omega, by omega⟩] at c26
      obtain rfl : p = (gs_R (gs g)) / 2 := by omega
      refine mu_vret E rfl (by decide) (by decide) dX12_turn_166 ?_
      exact ⟨rfl, hF, hG⟩
    · try rw [mI_le ⟨by omega, by omega⟩ ⟨by omega, by omega⟩] at c26
      refine mu_il_2 B dX12_turn_29 ?_
      refine mu_is_7 B dX12_turn_30 (by decide) rfl ?_
      have LQ : ∀ q (s : mu_W), q ≤ (gs_C (gs g)) / 2 → (mu_Fi (fl_S m g) w s ∧ GC s m g (gs_R (gs g)) (gs_C (gs g)) (sp_tr tab (rs_S (rs (gs_r (gs g)))) (gs_R (gs g)) (gs_C (gs g)) (off + 2 * p) off (sp_tu tab (rs_S (rs (gs_r (gs g)))) (gs_R (gs g)) (gs_C (gs g)) off (gs_c (gs g)) p) q)) → mu_WA X G 11 (mu_Q X G M_X12_turn (tn_post w m g (gs_R (gs g)) (gs_C (gs g)) (sp_tu tab (rs_S (rs (gs_r (gs g)))) (gs_R (gs g)) (gs_C (gs g)) off (gs_c (gs g)) ((gs_R (gs g)) / 2)))) s 0 0 32 [.ref m, .int (mI g), .int (mI off), .ref t, .int (mI base), .int (mI (rs_S (rs (gs_r (gs g))))), .int (mI (off + 2 * p)), .int (mI (off + 2 * q)), mu_no, mu_no, mu_no] [] := by
        refine mu_ind ((gs_C (gs g)) / 2) (fun q (s : mu_W) => mu_WA X G 11 (mu_Q X G M_X12_turn (tn_post w m g (gs_R (gs g)) (gs_C (gs g)) (sp_tu tab (rs_S (rs (gs_r (gs g)))) (gs_R (gs g)) (gs_C (gs g)) off (gs_c (gs g)) ((gs_R (gs g)) / 2)))) s 0 0 32 [.ref m, .int (mI g), .int (mI off), .ref t, .int (mI base), .int (mI (rs_S (rs (gs_r (gs g))))), .int (mI (off + 2 * p)), .int (mI (off + 2 * q)), mu_no, mu_no, mu_no] []) (fun q (s : mu_W) => mu_Fi (fl_S m g) w s ∧ GC s m g (gs_R (gs g)) (gs_C (gs g)) (sp_tr tab (rs_S (rs (gs_r (gs g)))) (gs_R (gs g)) (gs_C (gs g)) (off + 2 * p) off (sp_tu tab (rs_S (rs (gs_r (gs g)))) (gs_R (gs g)) (gs_C (gs g)) off (gs_c (gs g)) p) q)) ?_
        rintro q w1 hq ⟨hF, hG⟩ ihq
        have hm1 := hm.fi hF
        have hk1 := hm1.1
        obtain ⟨r51, k51⟩ := mo_51 hm1
        obtain ⟨r48, k48⟩ := mo_48 hm1
        obtain ⟨r49, k49⟩ := mo_49 hm1
        have g3a := hF.iv (by unfold fl_S; omega) g3
        have g4a := hF.iv (by unfold fl_S; omega) g4
        have hkt1 := hF.kd hkt
        have hT1 : ∀ b, b < rs_N (rs (gs_r (gs g))) → mu_iv w1 t (base + b) = mI (tab b) := fun b hb => hF.iv (by unfold fl_S; omega) (hT b hb).1
        have hcl : ∀ a b, (sp_tr tab (rs_S (rs (gs_r (gs g)))) (gs_R (gs g)) (gs_C (gs g)) (off + 2 * p) off (sp_tu tab (rs_S (rs (gs_r (gs g)))) (gs_R (gs g)) (gs_C (gs g)) off (gs_c (gs g)) p) q) a b < (rs_S (rs (gs_r (gs g)))) := sp_tr_lt (by omega) (sp_tu_lt (by omega) g1.2.2.2.2.2 _) _
        refine mu_il_7 B dX12_turn_32 ?_
        refine mu_al_0 B dX12_turn_34 ?_
        refine mu_getR B dX12_turn_35 fX12_99 rfl (by assumption) (by assumption) ?_
        refine mu_il_1 B dX12_turn_38 ?_
        refine mu_iald B dX12_turn_39 (by assumption) (mI_inN (by omega) (by decide)) ?_
        rw [mI_clampN (by omega), g4a]
        refine mu_il_2 B dX12_turn_40 ?_
        refine mu_iadd B dX12_turn_41 ?_
        try rw [mI_add]
        refine mu_icmp_ge (tgt := 160) B dX12_turn_42 (by decide) (fun c42 => ?_) (fun c42 => ?_)
        · try rw [mI_le ⟨by omega, by omega⟩ ⟨by omega, by omega⟩] at c42
          obtain rfl : q = (gs_C (gs g)) / 2 := by omega
          refine mu_inc_6 (c := mI 2) B dX12_turn_160 rfl (by decide) rfl ?_
          try rw [mI_add]
          refine mu_goto (tgt := 16) B dX12_turn_163 (by decide) ?_
          refine mu_fg (ihp w1 (by omega) ⟨hF, hG⟩) rfl (by rw [show (off : Int) + 2 * ((p + 1 : Nat) : Int) = (off : Int) + 2 * (p : Int) + 2 by omega]; exact ⟨Or.inl rfl, Or.inl rfl, Or.inl rfl, Or.inl rfl, Or.inl rfl, Or.inl rfl, Or.inl rfl, Or.inr rfl, Or.inr rfl, Or.inr rfl, Or.inr rfl, trivial⟩)
        · try rw [mI_le ⟨by omega, by omega⟩ ⟨by omega, by omega⟩] at c42
          have hn4 : tq_n (rs_S (rs (gs_r (gs g)))) (gs_R (gs g)) (gs_C (gs g)) (off + 2 * p) (off + 2 * q) (sp_tr tab (rs_S (rs (gs_r (gs g)))) (gs_R (gs g)) (gs_C (gs g)) (off + 2 * p) off (sp_tu tab (rs_S (rs (gs_r (gs g)))) (gs_R (gs g)) (gs_C (gs g)) off (gs_c (gs g)) p) q) 4 < rs_N (rs (gs_r (gs g))) := by have := tq_n_lt (show 0 < (rs_S (rs (gs_r (gs g)))) by omega) hcl (R := (gs_R (gs g))) (C := (gs_C (gs g))) (i := (off + 2 * p)) (j := (off + 2 * q)) 4; rw [s_pow4] at this; exact this
          have htb := (hT _ hn4).2
          have LP : ∀ u8 : Int32, ∀ n (s : mu_W), n ≤ 4 → (mu_Fi (fl_S m g) w s ∧ GC s m g (gs_R (gs g)) (gs_C (gs g)) (tq_w (rs_S (rs (gs_r (gs g)))) (gs_R (gs g)) (gs_C (gs g)) (off + 2 * p) (off + 2 * q) (tab (tq_n (rs_S (rs (gs_r (gs g)))) (gs_R (gs g)) (gs_C (gs g)) (off + 2 * p) (off + 2 * q) (sp_tr tab (rs_S (rs (gs_r (gs g)))) (gs_R (gs g)) (gs_C (gs g)) (off + 2 * p) off (sp_tu tab (rs_S (rs (gs_r (gs g)))) (gs_R (gs g)) (gs_C (gs g)) off (gs_c (gs g)) p) q) 4)) (sp_tr tab (rs_S (rs (gs_r (gs g)))) (gs_R (gs g)) (gs_C (gs g)) (off + 2 * p) off (sp_tu tab (rs_S (rs (gs_r (gs g)))) (gs_R (gs g)) (gs_C (gs g)) off (gs_c (gs g)) p) q) n)) → mu_WA X G 11 (mu_Q X G M_X12_turn (tn_post w m g (gs_R (gs g)) (gs_C (gs g)) (sp_tu tab (rs_S (rs (gs_r (gs g)))) (gs_R (gs g)) (gs_C (gs g)) off (gs_c (gs g)) ((gs_R (gs g)) / 2)))) s 0 0 107 [.ref m, .int (mI g), .int (mI off), .ref t, .int (mI base), .int (mI (rs_S (rs (gs_r (gs g))))), .int (mI (off + 2 * p)), .int (mI (off + 2 * q)), .int u8, .int (mI (((tab (tq_n (rs_S (rs (gs_r (gs g)))) (gs_R (gs g)) (gs_C (gs g)) (off + 2 * p) (off + 2 * q) (sp_tr tab (rs_S (rs (gs_r (gs g)))) (gs_R (gs g)) (gs_C (gs g)) (off + 2 * p) off (sp_tu tab (rs_S (rs (gs_r (gs g)))) (gs_R (gs g)) (gs_C (gs g)) off (gs_c (gs g)) p) q) 4)) / (rs_S (rs (gs_r (gs g)))) ^ n : Nat) : Int)), .int (mI ((3 : Int) - (n : Int)))] [] := by
            intro u8
            refine mu_ind (4) (fun n (s : mu_W) => mu_WA X G 11 (mu_Q X G M_X12_turn (tn_post w m g (gs_R (gs g)) (gs_C (gs g)) (sp_tu tab (rs_S (rs (gs_r (gs g)))) (gs_R (gs g)) (gs_C (gs g)) off (gs_c (gs g)) ((gs_R (gs g)) / 2)))) s 0 0 107 [.ref m, .int (mI g), .int (mI off), .ref t, .int (mI base), .int (mI (rs_S (rs (gs_r (gs g))))), .int (mI (off + 2 * p)), .int (mI (off + 2 * q)), .int u8, .int (mI (((tab (tq_n (rs_S (rs (gs_r (gs g)))) (gs_R (gs g)) (gs_C (gs g)) (off + 2 * p) (off + 2 * q) (sp_tr tab (rs_S (rs (gs_r (gs g)))) (gs_R (gs g)) (gs_C (gs g)) (off + 2 * p) off (sp_tu tab (rs_S (rs (gs_r (gs g)))) (gs_R (gs g)) (gs_C (gs g)) off (gs_c (gs g)) p) q) 4)) / (rs_S (rs (gs_r (gs g)))) ^ n : Nat) : Int)), .int (mI ((3 : Int) - (n : Int)))] []) (fun n (s : mu_W) => mu_Fi (fl_S m g) w s ∧ GC s m g (gs_R (gs g)) (gs_C (gs g)) (tq_w (rs_S (rs (gs_r (gs g)))) (gs_R (gs g)) (gs_C (gs g)) (off + 2 * p) (off + 2 * q) (tab (tq_n (rs_S (rs (gs_r (gs g)))) (gs_R (gs g)) (gs_C (gs g)) (off + 2 * p) (off + 2 * q) (sp_tr tab (rs_S (rs (gs_r (gs g)))) (gs_R (gs g)) (gs_C (gs g)) (off + 2 * p) off (sp_tu tab (rs_S (rs (gs_r (gs g)))) (gs_R (gs g)) (gs_C (gs g)) off (gs_c (gs g)) p) q) 4)) (sp_tr tab (rs_S (rs (gs_r (gs g)))) (gs_R (gs g)) (gs_C (gs g)) (off + 2 * p) off (sp_tu tab (rs_S (rs (gs_r (gs g)))) (gs_R (gs g)) (gs_C (gs g)) off (gs_c (gs g)) p) q) n)) ?_
            rintro n w1 hn ⟨hF, hG⟩ ih
            have hm1 := hm.fi hF
            have hk1 := hm1.1
            obtain ⟨r51, k51⟩ := mo_51 hm1
            obtain ⟨r48, k48⟩ := mo_48 hm1
            obtain ⟨r49, k49⟩ := mo_49 hm1
            have g3a := hF.iv (by unfold fl_S; omega) g3
            have g4a := hF.iv (by unfold fl_S; omega) g4
            have hkt1 := hF.kd hkt
            have hT1 : ∀ b, b < rs_N (rs (gs_r (gs g))) → mu_iv w1 t (base + b) = mI (tab b) := fun b hb => hF.iv (by unfold fl_S; omega) (hT b hb).1
            have hv9 := Nat.div_le_self (tab (tq_n (rs_S (rs (gs_r (gs g)))) (gs_R (gs g)) (gs_C (gs g)) (off + 2 * p) (off + 2 * q) (sp_tr tab (rs_S (rs (gs_r (gs g)))) (gs_R (gs g)) (gs_C (gs g)) (off + 2 * p) off (sp_tu tab (rs_S (rs (gs_r (gs g)))) (gs_R (gs g)) (gs_C (gs g)) off (gs_c (gs g)) p) q) 4)) ((rs_S (rs (gs_r (gs g)))) ^ n)
            refine mu_il_10 B dX12_turn_107 ?_
            refine mu_if_lt (tgt := 154) B dX12_turn_109 (by decide) (fun c109 => ?_) (fun c109 => ?_)
            · try rw [mI_lt0 ⟨by omega, by omega⟩] at c109
              obtain rfl : n = 4 := by omega
              refine mu_inc_7 (c := mI 2) B dX12_turn_154 rfl (by decide) rfl ?_
              try rw [mI_add]
              refine mu_goto (tgt := 32) B dX12_turn_157 (by decide) ?_
              refine mu_fg (ihq w1 (by omega) ⟨hF, hG⟩) rfl (by rw [show (off : Int) + 2 * ((q + 1 : Nat) : Int) = (off : Int) + 2 * (q : Int) + 2 by omega]; exact ⟨Or.inl rfl, Or.inl rfl, Or.inl rfl, Or.inl rfl, Or.inl rfl, Or.inl rfl, Or.inl rfl, Or.inl rfl, Or.inr rfl, Or.inr rfl, Or.inr rfl, trivial⟩)
            · try rw [mI_lt0 ⟨by omega, by omega⟩] at c109
              refine mu_al_0 B dX12_turn_112 ?_
              refine mu_getR B dX12_turn_113 fX12_105 rfl (by assumption) (by assumption) ?_
              refine mu_al_0 B dX12_turn_116 ?_
              refine mu_il_1 B dX12_turn_117 ?_
              refine mu_il_6 B dX12_turn_118 ?_
              refine mu_il_10 B dX12_turn_120 ?_
              refine mu_iconst (v := mI 2) B dX12_turn_122 rfl ?_
              refine mu_idiv B dX12_turn_123 ?_ ?_
              · decide
              rw [mI_div (by omega) (by omega) (by omega) (by omega)]
              refine mu_iadd B dX12_turn_124 ?_
              try rw [mI_add]
              refine mu_il_7 B dX12_turn_125 ?_
              refine mu_il_10 B dX12_turn_127 ?_
              refine mu_iconst (v := mI 2) B dX12_turn_129 rfl ?_
              refine mu_irem B dX12_turn_130 ?_ ?_
              · decide
              rw [mI_rem (by omega) (by omega) (by omega) (by omega)]
              refine mu_iadd B dX12_turn_131 ?_
              try rw [mI_add]
              refine mu_eV3 B dX12_turn_132 mX12_323 ⟨⟨by decide, by decide⟩, by decide, by decide⟩ (Nat.le_of_ble_eq_true rfl) (by assumption) (gpI G hm1 ((off + 2 * p) + (3 - n) / 2) ((off + 2 * q) + (3 - n) % 2) (by omega) (by omega) (by omega) g3a g4a ⟨by omega, by omega⟩ ⟨by omega, by omega⟩ (by omega) (by omega)) ?_
              have hx9 := gs_ix g1.2.2.1 g1.2.2.2.1 (Nat.mod_lt ((off + 2 * p) + (3 - n) / 2) (show 0 < (gs_R (gs g)) by omega)) (Nat.mod_lt ((off + 2 * q) + (3 - n) % 2) (show 0 < (gs_C (gs g)) by omega))
              refine mu_il_9 B dX12_turn_135 ?_
              refine mu_il_5 B dX12_turn_137 ?_
              refine mu_irem B dX12_turn_139 ?_ ?_
              · exact mu_ne (by omega) (by omega)
              rw [mI_rem (Int.natCast_nonneg _) (by omega) (by omega) (by omega)]
              rw [show (((tab (tq_n (rs_S (rs (gs_r (gs g)))) (gs_R (gs g)) (gs_C (gs g)) (off + 2 * p) (off + 2 * q) (sp_tr tab (rs_S (rs (gs_r (gs g)))) (gs_R (gs g)) (gs_C (gs g)) (off + 2 * p) off (sp_tu tab (rs_S (rs (gs_r (gs g)))) (gs_R (gs g)) (gs_C (gs g)) off (gs_c (gs g)) p) q) 4)) / (rs_S (rs (gs_r (gs g)))) ^ n : Nat) : Int) % ((rs_S (rs (gs_r (gs g)))) : Int) = (((tab (tq_n (rs_S (rs (gs_r (gs g)))) (gs_R (gs g)) (gs_C (gs g)) (off + 2 * p) (off + 2 * q) (sp_tr tab (rs_S (rs (gs_r (gs g)))) (gs_R (gs g)) (gs_C (gs g)) (off + 2 * p) off (sp_tu tab (rs_S (rs (gs_r (gs g)))) (gs_R (gs g)) (gs_C (gs g)) off (gs_c (gs g)) p) q) 4)) / (rs_S (rs (gs_r (gs g)))) ^ n % (rs_S (rs (gs_r (gs g)))) : Nat) : Int) from rfl]
              refine mu_iast B dX12_turn_140 (by assumption) (mI_inN (by omega) (by decide)) ?_
              rw [mI_clampN (by omega)]
              refine mu_il_9 B dX12_turn_141 ?_
              refine mu_il_5 B dX12_turn_143 ?_
              refine mu_idiv B dX12_turn_145 ?_ ?_
              · exact mu_ne (by omega) (by omega)
              rw [mI_div (Int.natCast_nonneg _) (by omega) (by omega) (by omega)]
              refine mu_is_9 B dX12_turn_146 (by decide) rfl ?_
              refine mu_inc_10 (c := mI (-1)) B dX12_turn_148 rfl (by decide) rfl ?_
              try rw [mI_add]
              refine mu_goto (tgt := 107) B dX12_turn_151 (by decide) ?_
              refine mu_to (ih (mu_si w1 (m + 31) (256 * g + (gs_C (gs g)) * (((off + 2 * p) + (3 - n) / 2) % (gs_R (gs g))) + ((off + 2 * q) + (3 - n) % 2) % (gs_C (gs g))) (mI (((tab (tq_n (rs_S (rs (gs_r (gs g)))) (gs_R (gs g)) (gs_C (gs g)) (off + 2 * p) (off + 2 * q) (sp_tr tab (rs_S (rs (gs_r (gs g)))) (gs_R (gs g)) (gs_C (gs g)) (off + 2 * p) off (sp_tu tab (rs_S (rs (gs_r (gs g)))) (gs_R (gs g)) (gs_C (gs g)) off (gs_c (gs g)) p) q) 4)) / (rs_S (rs (gs_r (gs g)))) ^ n % (rs_S (rs (gs_r (gs g)))) : Nat) : Int))) (by omega) ⟨hF.si ⟨rfl, by omega, by omega⟩, hG.wr (Nat.mod_lt _ (by omega)) (Nat.mod_lt _ (by omega))⟩) rfl ?_
              rw [Nat.pow_succ, ← Nat.div_div_eq_div_mul, show (3 : Int) - ((n + 1 : Nat) : Int) = (3 : Int) - (n : Int) + -1 by omega]
              rfl
          have KP : ∀ u9 u10 : Value, mu_WA X G 11 (mu_Q X G M_X12_turn (tn_post w m g (gs_R (gs g)) (gs_C (gs g)) (sp_tu tab (rs_S (rs (gs_r (gs g)))) (gs_R (gs g)) (gs_C (gs g)) off (gs_c (gs g)) ((gs_R (gs g)) / 2)))) w1 0 0 95 [.ref m, .int (mI g), .int (mI off), .ref t, .int (mI base), .int (mI (rs_S (rs (gs_r (gs g))))), .int (mI (off + 2 * p)), .int (mI (off + 2 * q)), .int (mI (tq_n (rs_S (rs (gs_r (gs g)))) (gs_R (gs g)) (gs_C (gs g)) (off + 2 * p) (off + 2 * q) (sp_tr tab (rs_S (rs (gs_r (gs g)))) (gs_R (gs g)) (gs_C (gs g)) (off + 2 * p) off (sp_tu tab (rs_S (rs (gs_r (gs g)))) (gs_R (gs g)) (gs_C (gs g)) off (gs_c (gs g)) p) q) 4 : Int)), u9, u10] [] := by
            intro u9 u10
            refine mu_al_3 B dX12_turn_95 ?_
            refine mu_il_4 B dX12_turn_96 ?_
            refine mu_il_8 B dX12_turn_98 ?_
            refine mu_iadd B dX12_turn_100 ?_
            try rw [mI_add]
            rw [show (base : Int) + (tq_n (rs_S (rs (gs_r (gs g)))) (gs_R (gs g)) (gs_C (gs g)) (off + 2 * p) (off + 2 * q) (sp_tr tab (rs_S (rs (gs_r (gs g)))) (gs_R (gs g)) (gs_C (gs g)) (off + 2 * p) off (sp_tu tab (rs_S (rs (gs_r (gs g)))) (gs_R (gs g)) (gs_C (gs g)) off (gs_c (gs g)) p) q) 4 : Int) = ((base + tq_n (rs_S (rs (gs_r (gs g)))) (gs_R (gs g)) (gs_C (gs g)) (off + 2 * p) (off + 2 * q) (sp_tr tab (rs_S (rs (gs_r (gs g)))) (gs_R (gs g)) (gs_C (gs g)) (off + 2 * p) off (sp_tu tab (rs_S (rs (gs_r (gs g)))) (gs_R (gs g)) (gs_C (gs g)) off (gs_c (gs g)) p) q) 4 : Nat) : Int) by omega]
            refine mu_iald B dX12_turn_101 (by assumption) (mI_inN (by omega) (by omega)) ?_
            rw [mI_clampN (by omega), hT1 _ hn4]
            refine mu_is_9 B dX12_turn_102 (by decide) rfl ?_
            refine mu_iconst (v := mI 3) B dX12_turn_104 rfl ?_
            refine mu_is_10 B dX12_turn_105 (by decide) rfl ?_
            refine mu_to (LP (mI (tq_n (rs_S (rs (gs_r (gs g)))) (gs_R (gs g)) (gs_C (gs g)) (off + 2 * p) (off + 2 * q) (sp_tr tab (rs_S (rs (gs_r (gs g)))) (gs_R (gs g)) (gs_C (gs g)) (off + 2 * p) off (sp_tu tab (rs_S (rs (gs_r (gs g)))) (gs_R (gs g)) (gs_C (gs g)) off (gs_c (gs g)) p) q) 4 : Int)) 0 w1 (by decide) ⟨hF, hG⟩) rfl ?_
            rw [Nat.pow_zero, Nat.div_one]
            rfl
          have LG : ∀ k (s : Unit), k ≤ 4 → (True) → mu_WA X G 11 (mu_Q X G M_X12_turn (tn_post w m g (gs_R (gs g)) (gs_C (gs g)) (sp_tu tab (rs_S (rs (gs_r (gs g)))) (gs_R (gs g)) (gs_C (gs g)) off (gs_c (gs g)) ((gs_R (gs g)) / 2)))) w1 0 0 51 [.ref m, .int (mI g), .int (mI off), .ref t, .int (mI base), .int (mI (rs_S (rs (gs_r (gs g))))), .int (mI (off + 2 * p)), .int (mI (off + 2 * q)), .int (mI (tq_n (rs_S (rs (gs_r (gs g)))) (gs_R (gs g)) (gs_C (gs g)) (off + 2 * p) (off + 2 * q) (sp_tr tab (rs_S (rs (gs_r (gs g)))) (gs_R (gs g)) (gs_C (gs g)) (off + 2 * p) off (sp_tu tab (rs_S (rs (gs_r (gs g)))) (gs_R (gs g)) (gs_C (gs g)) off (gs_c (gs g)) p) q) k : Int)), .int (mI k), mu_no] [] := by
            refine mu_ind (4) (fun k (s : Unit) => mu_WA X G 11 (mu_Q X G M_X12_turn (tn_post w m g (gs_R (gs g)) (gs_C (gs g)) (sp_tu tab (rs_S (rs (gs_r (gs g)))) (gs_R (gs g)) (gs_C (gs g)) off (gs_c (gs g)) ((gs_R (gs g)) / 2)))) w1 0 0 51 [.ref m, .int (mI g), .int (mI off), .ref t, .int (mI base), .int (mI (rs_S (rs (gs_r (gs g))))), .int (mI (off + 2 * p)), .int (mI (off + 2 * q)), .int (mI (tq_n (rs_S (rs (gs_r (gs g)))) (gs_R (gs g)) (gs_C (gs g)) (off + 2 * p) (off + 2 * q) (sp_tr tab (rs_S (rs (gs_r (gs g)))) (gs_R (gs g)) (gs_C (gs g)) (off + 2 * p) off (sp_tu tab (rs_S (rs (gs_r (gs g)))) (gs_R (gs g)) (gs_C (gs g)) off (gs_c (gs g)) p) q) k : Int)), .int (mI k), mu_no] []) (fun k (s : Unit) => True) ?_
            intro k s hk _ ih
            have hn9 := tq_n_bd (R := (gs_R (gs g))) (C := (gs_C (gs g))) (i := (off + 2 * p)) (j := (off + 2 * q)) ⟨hS.1, hS.2.1⟩ hcl hk
            refine mu_il_9 B dX12_turn_51 ?_
            refine mu_iconst (v := mI 4) B dX12_turn_53 rfl ?_
            refine mu_icmp_ge (tgt := 95) B dX12_turn_54 (by decide) (fun c54 => ?_) (fun c54 => ?_)
            · try rw [mI_le ⟨by omega, by omega⟩ ⟨by omega, by omega⟩] at c54
              obtain rfl : k = 4 := by omega
              exact KP _ _
            · try rw [mI_le ⟨by omega, by omega⟩ ⟨by omega, by omega⟩] at c54
              refine mu_il_8 B dX12_turn_57 ?_
              refine mu_il_5 B dX12_turn_59 ?_
              refine mu_imul B dX12_turn_61 ?_
              try rw [mI_mul]
              refine mu_al_0 B dX12_turn_62 ?_
              refine mu_getR B dX12_turn_63 fX12_105 rfl (by assumption) (by assumption) ?_
              refine mu_al_0 B dX12_turn_66 ?_
              refine mu_il_1 B dX12_turn_67 ?_
              refine mu_il_6 B dX12_turn_68 ?_
              refine mu_il_9 B dX12_turn_70 ?_
              refine mu_iconst (v := mI 2) B dX12_turn_72 rfl ?_
              refine mu_idiv B dX12_turn_73 ?_ ?_
              · decide
              rw [mI_div (by omega) (by omega) (by omega) (by omega)]
              refine mu_iadd B dX12_turn_74 ?_
              try rw [mI_add]
              refine mu_il_7 B dX12_turn_75 ?_
              refine mu_il_9 B dX12_turn_77 ?_
              refine mu_iconst (v := mI 2) B dX12_turn_79 rfl ?_
              refine mu_irem B dX12_turn_80 ?_ ?_
              · decide
              rw [mI_rem (by omega) (by omega) (by omega) (by omega)]
              refine mu_iadd B dX12_turn_81 ?_
              try rw [mI_add]
              refine mu_eV3 B dX12_turn_82 mX12_323 ⟨⟨by decide, by decide⟩, by decide, by decide⟩ (Nat.le_of_ble_eq_true rfl) (by assumption) (gpI G hm1 ((off + 2 * p) + k / 2) ((off + 2 * q) + k % 2) (by omega) (by omega) (by omega) g3a g4a ⟨by omega, by omega⟩ ⟨by omega, by omega⟩ (by omega) (by omega)) ?_
              have hx9 := gs_ix g1.2.2.1 g1.2.2.2.1 (Nat.mod_lt ((off + 2 * p) + k / 2) (show 0 < (gs_R (gs g)) by omega)) (Nat.mod_lt ((off + 2 * q) + k % 2) (show 0 < (gs_C (gs g)) by omega))
              refine mu_iald B dX12_turn_85 (by assumption) (mI_inN (by omega) (by decide)) ?_
              rw [mI_clampN (by omega), hG _ _ (Nat.mod_lt _ (by omega)) (Nat.mod_lt _ (by omega))]
              refine mu_iadd B dX12_turn_86 ?_
              try rw [mI_add]
              refine mu_is_8 B dX12_turn_87 (by decide) rfl ?_
              refine mu_inc_9 (c := mI 1) B dX12_turn_89 rfl (by decide) rfl ?_
              try rw [mI_add]
              refine mu_goto (tgt := 51) B dX12_turn_92 (by decide) ?_
              refine mu_to (ih () (by omega) trivial) rfl ?_
              rw [tq_n, show ((k + 1 : Nat) : Int) = (k : Int) + 1 by omega]
              rfl
          refine mu_iconst (v := mI 0) B dX12_turn_45 rfl ?_
          refine mu_is_8 B dX12_turn_46 (by decide) rfl ?_
          refine mu_iconst (v := mI 0) B dX12_turn_48 rfl ?_
          refine mu_is_9 B dX12_turn_49 (by decide) rfl ?_
          exact mu_fg (LG 0 () (by decide) trivial) rfl (⟨Or.inl rfl, Or.inl rfl, Or.inl rfl, Or.inl rfl, Or.inl rfl, Or.inl rfl, Or.inl rfl, Or.inl rfl, Or.inl rfl, Or.inl rfl, Or.inr rfl, trivial⟩)
      exact mu_fg (LQ 0 w1 (Nat.zero_le _) ⟨hF, hG⟩) rfl (⟨Or.inl rfl, Or.inl rfl, Or.inl rfl, Or.inl rfl, Or.inl rfl, Or.inl rfl, Or.inl rfl, Or.inl rfl, Or.inr rfl, Or.inr rfl, Or.inr rfl, trivial⟩)
  exact mu_fg (LI 0 w (Nat.zero_le _) ⟨mu_Fi.refl _, g6⟩) rfl (⟨Or.inl rfl, Or.inl rfl, Or.inl rfl, Or.inl rfl, Or.inl rfl, Or.inl rfl, Or.inl rfl, Or.inr rfl, Or.inr rfl, Or.inr rfl, Or.inr rfl, trivial⟩)
