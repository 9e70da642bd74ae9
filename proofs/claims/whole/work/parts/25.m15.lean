/-! ===== the reference: amount, fill, reversible ===== -/
def sp_am (C : Nat) (c : Nat → Nat → Nat) (v : Nat) : Nat → Nat
  | 0 => 0
  | k + 1 => sp_am C c v k + (if c (k / C) (k % C) = v then 1 else 0)
theorem sp_am_le (C : Nat) (c : Nat → Nat → Nat) (v : Nat) : ∀ k, sp_am C c v k ≤ k
  | 0 => Nat.le_refl _
  | k + 1 => by
    rw [sp_am]
    have := sp_am_le C c v k
    by_cases h : c (k / C) (k % C) = v
    · rw [if_pos h]; omega
    · rw [if_neg h]; omega
theorem gs_kk {R C k : Nat} (hk : k < R * C) : k / C < R ∧ k % C < C ∧ C * (k / C) + k % C = k := by
  have hC : 0 < C := by
    rcases Nat.eq_zero_or_pos C with h | h
    · rw [h, Nat.mul_zero] at hk; omega
    · exact h
  exact ⟨(Nat.div_lt_iff_lt_mul hC).mpr hk, Nat.mod_lt _ hC, Nat.div_add_mod k C⟩
/-- the numbers that fill draws -/
def sp_t (seed : Int32) : Nat → Int32
  | 0 => seed
  | k + 1 => sp_t seed k * mI 1664525 + mI 1013904223
def sp_u (seed : Int32) (k : Nat) : Nat := (sp_t seed (k + 1)).toBitVec.toNat / 65536
def sp_fv (seed : Int32) (share s k : Nat) : Nat := if share ≤ sp_u seed k % 100 then 0 else 1 + sp_u seed k / 100 % (s - 1)
def sp_fn (seed : Int32) (share s : Nat) : Nat → Nat
  | 0 => 0
  | k + 1 => sp_fn seed share s k + (if sp_fv seed share s k = 0 then 0 else 1)
theorem sp_u_lt (seed : Int32) (k : Nat) : sp_u seed k < 65536 := by
  unfold sp_u
  have := (sp_t seed (k + 1)).toBitVec.isLt
  omega
theorem sp_fv_lt {seed : Int32} {share s k : Nat} (hs : 2 ≤ s) : sp_fv seed share s k < s := by
  unfold sp_fv
  have := Nat.mod_lt (sp_u seed k / 100) (show 0 < s - 1 by omega)
  by_cases h : share ≤ sp_u seed k % 100
  · rw [if_pos h]; omega
  · rw [if_neg h]; omega
theorem sp_fn_le (seed : Int32) (share s : Nat) : ∀ k, sp_fn seed share s k ≤ k
  | 0 => Nat.le_refl _
  | k + 1 => by
    rw [sp_fn]
    have := sp_fn_le seed share s k
    by_cases h : sp_fv seed share s k = 0
    · rw [if_pos h]; omega
    · rw [if_neg h]; omega
theorem sp_u_eq (seed : Int32) (k : Nat) : ((sp_t seed (k + 1)).toUInt32 >>> ((mI 16).toUInt32 &&& Int32.toUInt32 31)).toInt32 = mI (sp_u seed k) := by
  have h := mu_ush (sp_t seed (k + 1)) (k := 16) (by decide)
  apply Int32.toBitVec_inj.mp
  apply BitVec.eq_of_toNat_eq
  have h2 := sp_u_lt seed k
  rw [mI_bv, show ((16 : Nat) : Int) = 16 from rfl] at *
  rw [h]
  show sp_u seed k = _
  omega
/-- the cells of a grid by its number, up to K, then as they were -/
def sp_fl (seed : Int32) (share s C K : Nat) (c : Nat → Nat → Nat) : Nat → Nat → Nat := fun i j => if C * i + j < K then sp_fv seed share s (C * i + j) else c i j

theorem mu_mq {X : mu_X} {G : mu_G} {M : mu_M} {nL k n pc : Nat} {w : mu_W} {lv st : List Value} {Q Q2 : Option Value → mu_W → Prop} (h : mu_WA X G nL (mu_Q X G M Q) w k n pc lv st) (hq : ∀ r w', Q r w' → Q2 r w') : mu_WA X G nL (mu_Q X G M Q2) w k n pc lv st := by
  intro H locs ls h1 h2 h3 T h4 h5
  obtain ⟨t, a, b⟩ := h H locs ls h1 h2 h3 T h4 h5
  refine ⟨t, a, ?_⟩
  obtain ⟨o, b1, b2, ⟨⟨r, w', e1, e2, e3⟩, e4⟩, b3⟩ := b
  exact ⟨o, b1, b2, ⟨⟨r, w', e1, hq r w' e2, e3⟩, e4⟩, b3⟩

set_option maxHeartbeats 4000000 in
set_option maxRecDepth 100000 in
theorem c_X12_amount (G : mu_G) {w : mu_W} {m : Nat} (hm : mo_ok w m) {nr : Nat} {rs : Nat → mu_RS} (hru : MRu w m nr rs) {ng : Nat} {gs : Nat → mu_GS} (hgr : MGr w m nr rs ng gs) {z y : Int} (hz : mi_ok z) (hy : mi_ok y) : mu_Ct G M_X12_amount [.ref m, .int (mI z), .int (mI y)] w (fun r w' => r = some (.int (if (0 ≤ z ∧ z < ng) ∧ 0 ≤ y ∧ y < rs_S (rs (gs_r (gs z.toNat))) then mI ((sp_am (gs_C (gs z.toNat)) (gs_c (gs z.toNat)) y.toNat (gs_R (gs z.toNat) * gs_C (gs z.toNat)) : Nat) : Int) else mI (-1))) ∧ w' = w) := by
  have hk0 := hm.1
  have hng := hgr.1
  obtain ⟨hz1, hz2⟩ := id hz
  obtain ⟨r51, k51⟩ := mo_51 hm
  obtain ⟨r47, k47⟩ := mo_47 hm
  obtain ⟨r6, k6⟩ := mo_6 hm
  obtain ⟨r48, k48⟩ := mo_48 hm
  obtain ⟨r49, k49⟩ := mo_49 hm
  obtain ⟨hy1, hy2⟩ := hy
  refine mu_ofWA G M_X12_amount [.ref m, .int (mI z), .int (mI y), mu_no, mu_no] (by decide) rfl (Nat.le_of_ble_eq_true rfl) ?_
  intro X E
  have B : mu_B X G cX12_amount RX12 5 (mu_rm M_X12_amount) := E.1
  show mu_WA X G 5 _ _ 0 0 0 _ []
  refine mu_al_0 B dX12_amount_0 ?_
  refine mu_il_1 B dX12_amount_1 ?_
  refine mu_eV1 B dX12_amount_2 mX12_316 ⟨⟨by decide, by decide⟩, by decide, by decide⟩ (Nat.le_of_ble_eq_true rfl) (by assumption) (c_X12_isGrid G hm (n := ng) hgr.2.1 hgr.1 hz) ?_
  refine mu_if_eq (tgt := 27) B dX12_amount_5 (by decide) (fun c5 => ?_) (fun c5 => ?_)
  · have z5 := mu_bf c5
    refine mu_iconst (v := mI (-1)) B dX12_amount_27 rfl ?_
    refine mu_iret E rfl (by decide) (by decide) dX12_amount_28 ?_
    first | (rw [if_neg (fun hh => z5 hh.1)]; exact ⟨rfl, rfl⟩) | (rw [if_neg (fun hh => by have := hh.2; rw [Int.toNat_natCast] at this; omega)]; exact ⟨rfl, rfl⟩)
  · have z5 := mu_bt c5
    obtain ⟨g, hg⟩ : ∃ g : Nat, z = g := ⟨z.toNat, by omega⟩
    subst hg
    obtain ⟨g1, g2, g3, g4, g5, g6⟩ := hgr.2.2 g (by omega)
    obtain ⟨⟨R1, R2, R3⟩, ⟨C1, C2, C3⟩⟩ : gs_sd (gs_R (gs g)) ∧ gs_sd (gs_C (gs g)) := ⟨g1.2.2.1, g1.2.2.2.1⟩
    obtain ⟨u1, u2, u3, u4, u5, u6⟩ := hru.2.2 (gs_r (gs g)) g1.1
    replace u6 := u6 g1.2.1
    have hS := rs_S_bd u1 g1.2.1
    have hnr := hru.1
    have hgr0 := g1.1
    refine mu_il_2 B dX12_amount_8 ?_
    refine mu_if_lt (tgt := 27) B dX12_amount_9 (by decide) (fun c9 => ?_) (fun c9 => ?_)
    · try rw [mI_lt0 ⟨by omega, by omega⟩] at c9
      refine mu_iconst (v := mI (-1)) B dX12_amount_27 rfl ?_
      refine mu_iret E rfl (by decide) (by decide) dX12_amount_28 ?_
      first | (rw [if_neg (fun hh => z5 hh.1)]; exact ⟨rfl, rfl⟩) | (rw [if_neg (fun hh => by have := hh.2; rw [Int.toNat_natCast] at this; omega)]; exact ⟨rfl, rfl⟩)
    · try rw [mI_lt0 ⟨by omega, by omega⟩] at c9
      refine mu_il_2 B dX12_amount_12 ?_
      refine mu_al_0 B dX12_amount_13 ?_
      refine mu_getR B dX12_amount_14 fX12_20 rfl (by assumption) (by assumption) ?_
      refine mu_al_0 B dX12_amount_17 ?_
      refine mu_getR B dX12_amount_18 fX12_93 rfl (by assumption) (by assumption) ?_
      refine mu_il_1 B dX12_amount_21 ?_
      refine mu_iald B dX12_amount_22 (by assumption) (mI_inN (by omega) (by decide)) ?_
      rw [mI_clampN (by omega), g2]
      refine mu_iald B dX12_amount_23 (by assumption) (mI_inN (by omega) (by decide)) ?_
      rw [mI_clampN (by omega), u6.1]
      refine mu_icmp_lt (tgt := 29) B dX12_amount_24 (by decide) (fun c24 => ?_) (fun c24 => ?_)
      · try rw [mI_lt ⟨by omega, by omega⟩ ⟨by omega, by omega⟩] at c24
        obtain ⟨v, hv⟩ : ∃ v : Nat, y = v := ⟨y.toNat, by omega⟩
        subst hv
        have hRC : gs_R (gs g) * gs_C (gs g) ≤ 256 := (gs_ix g1.2.2.1 g1.2.2.2.1 (i := 0) (j := 0) (by omega) (by omega)).2
        have LA : ∀ k (s : Unit), k ≤ gs_R (gs g) * gs_C (gs g) → (True) → mu_WA X G 5 (mu_Q X G M_X12_amount (fun r w' => r = some (.int (mI ((sp_am (gs_C (gs g)) (gs_c (gs g)) v (gs_R (gs g) * gs_C (gs g)) : Nat) : Int))) ∧ w' = w)) w 0 0 34 [.ref m, .int (mI g), .int (mI v), .int (mI (sp_am (gs_C (gs g)) (gs_c (gs g)) v k : Int)), .int (mI k)] [] := by
          refine mu_ind (gs_R (gs g) * gs_C (gs g)) (fun k (s : Unit) => mu_WA X G 5 (mu_Q X G M_X12_amount (fun r w' => r = some (.int (mI ((sp_am (gs_C (gs g)) (gs_c (gs g)) v (gs_R (gs g) * gs_C (gs g)) : Nat) : Int))) ∧ w' = w)) w 0 0 34 [.ref m, .int (mI g), .int (mI v), .int (mI (sp_am (gs_C (gs g)) (gs_c (gs g)) v k : Int)), .int (mI k)] []) (fun k (s : Unit) => True) ?_
          intro k s hk _ ih
          have hle := sp_am_le (gs_C (gs g)) (gs_c (gs g)) v k
          refine mu_il_4 B dX12_amount_34 ?_
          refine mu_al_0 B dX12_amount_36 ?_
          refine mu_getR B dX12_amount_37 fX12_96 rfl (by assumption) (by assumption) ?_
          refine mu_il_1 B dX12_amount_40 ?_
          refine mu_iald B dX12_amount_41 (by assumption) (mI_inN (by omega) (by decide)) ?_
          rw [mI_clampN (by omega), g3]
          refine mu_al_0 B dX12_amount_42 ?_
          refine mu_getR B dX12_amount_43 fX12_99 rfl (by assumption) (by assumption) ?_
          refine mu_il_1 B dX12_amount_46 ?_
          refine mu_iald B dX12_amount_47 (by assumption) (mI_inN (by omega) (by decide)) ?_
          rw [mI_clampN (by omega), g4]
          refine mu_imul B dX12_amount_48 ?_
          try rw [mI_mul]
          rw [← Int.natCast_mul]
          refine mu_icmp_ge (tgt := 83) B dX12_amount_49 (by decide) (fun c49 => ?_) (fun c49 => ?_)
          · try rw [mI_le ⟨by omega, by omega⟩ ⟨by omega, by omega⟩] at c49
            obtain rfl : k = gs_R (gs g) * gs_C (gs g) := by omega
            refine mu_il_3 B dX12_amount_83 ?_
            refine mu_iret E rfl (by decide) (by decide) dX12_amount_84 ?_
            exact ⟨rfl, rfl⟩
          · try rw [mI_le ⟨by omega, by omega⟩ ⟨by omega, by omega⟩] at c49
            have hk9 : k < gs_R (gs g) * gs_C (gs g) := by omega
            obtain ⟨e1, e2, e3⟩ := gs_kk hk9
            have hck : mu_iv w (m + 31) (256 * g + k) = mI (gs_c (gs g) (k / gs_C (gs g)) (k % gs_C (gs g))) := by rw [← g6 _ _ e1 e2, Nat.add_assoc, e3]
            have hcb := g1.2.2.2.2.2 (k / gs_C (gs g)) (k % gs_C (gs g))
            refine mu_il_3 B dX12_amount_52 ?_
            refine mu_al_0 B dX12_amount_53 ?_
            refine mu_getR B dX12_amount_54 fX12_105 rfl (by assumption) (by assumption) ?_
            refine mu_sipush (v := mI 256) B dX12_amount_57 (by decide) ?_
            refine mu_il_1 B dX12_amount_60 ?_
            refine mu_imul B dX12_amount_61 ?_
            try rw [mI_mul]
            refine mu_il_4 B dX12_amount_62 ?_
            refine mu_iadd B dX12_amount_64 ?_
            try rw [mI_add]
            rw [show (256 : Int) * (g : Int) + (k : Int) = ((256 * g + k : Nat) : Int) by omega]
            refine mu_iald B dX12_amount_65 (by assumption) (mI_inN (by omega) (by decide)) ?_
            rw [mI_clampN (by omega), hck]
            refine mu_il_2 B dX12_amount_66 ?_
            refine mu_icmp_ne (tgt := 74) B dX12_amount_67 (by decide) (fun c67 => ?_) (fun c67 => ?_)
            · try rw [mI_eq ⟨by omega, by omega⟩ ⟨by omega, by omega⟩] at c67
              refine mu_iconst (v := mI 0) B dX12_amount_74 rfl ?_
              refine mu_iadd B dX12_amount_75 ?_
              try rw [mI_add]
              refine mu_is_3 B dX12_amount_76 (by decide) rfl ?_
              refine mu_inc_4 (c := mI 1) B dX12_amount_77 rfl (by decide) rfl ?_
              try rw [mI_add]
              refine mu_goto (tgt := 34) B dX12_amount_80 (by decide) ?_
              refine mu_to (ih () (by omega) trivial) rfl (by rw [sp_am, show ((k + 1 : Nat) : Int) = (k : Int) + 1 by omega]; first | rw [if_pos (by omega), show ((sp_am (gs_C (gs g)) (gs_c (gs g)) v k + 1 : Nat) : Int) = (sp_am (gs_C (gs g)) (gs_c (gs g)) v k : Int) + 1 by omega] | rw [if_neg (by omega), Nat.add_zero, Int.add_zero])
            · try rw [mI_eq ⟨by omega, by omega⟩ ⟨by omega, by omega⟩] at c67
              refine mu_iconst (v := mI 1) B dX12_amount_70 rfl ?_
              refine mu_goto (tgt := 75) B dX12_amount_71 (by decide) ?_
              refine mu_iadd B dX12_amount_75 ?_
              try rw [mI_add]
              refine mu_is_3 B dX12_amount_76 (by decide) rfl ?_
              refine mu_inc_4 (c := mI 1) B dX12_amount_77 rfl (by decide) rfl ?_
              try rw [mI_add]
              refine mu_goto (tgt := 34) B dX12_amount_80 (by decide) ?_
              refine mu_to (ih () (by omega) trivial) rfl (by rw [sp_am, show ((k + 1 : Nat) : Int) = (k : Int) + 1 by omega]; first | rw [if_pos (by omega), show ((sp_am (gs_C (gs g)) (gs_c (gs g)) v k + 1 : Nat) : Int) = (sp_am (gs_C (gs g)) (gs_c (gs g)) v k : Int) + 1 by omega] | rw [if_neg (by omega), Nat.add_zero, Int.add_zero])
        refine mu_iconst (v := mI 0) B dX12_amount_29 rfl ?_
        refine mu_is_3 B dX12_amount_30 (by decide) rfl ?_
        refine mu_iconst (v := mI 0) B dX12_amount_31 rfl ?_
        refine mu_is_4 B dX12_amount_32 (by decide) rfl ?_
        exact mu_mq (LA 0 () (Nat.zero_le _) trivial) (fun r w' h => by rw [if_pos ⟨by omega, by rw [Int.toNat_natCast]; omega⟩]; exact h)
      · try rw [mI_lt ⟨by omega, by omega⟩ ⟨by omega, by omega⟩] at c24
        refine mu_iconst (v := mI (-1)) B dX12_amount_27 rfl ?_
        refine mu_iret E rfl (by decide) (by decide) dX12_amount_28 ?_
        first | (rw [if_neg (fun hh => z5 hh.1)]; exact ⟨rfl, rfl⟩) | (rw [if_neg (fun hh => by have := hh.2; rw [Int.toNat_natCast] at this; omega)]; exact ⟨rfl, rfl⟩)

def sp_rev (N : Nat) (be : Nat → Nat) : Prop := ∀ a b, a < b → b < N → be a ≠ be b
def sp_clash (N : Nat) (be : Nat → Nat) (a b : Nat) : Prop := a < b ∧ b < N ∧ be a = be b ∧ (∀ a' b', a' < a → a' < b' → b' < N → be a' ≠ be b') ∧ ∀ b', a < b' → b' < b → be a ≠ be b'
theorem sp_clash.uniq {N : Nat} {be : Nat → Nat} {a b a' b' : Nat} (h : sp_clash N be a b) (h' : sp_clash N be a' b') : a = a' ∧ b = b' := by
  obtain ⟨h1, h2, h3, h4, h5⟩ := h
  obtain ⟨g1, g2, g3, g4, g5⟩ := h'
  have e : a = a' := by
    by_cases q : a < a'
    · exact absurd h3 (g4 a b q h1 h2)
    · by_cases q2 : a' < a
      · exact absurd g3 (h4 a' b' q2 g1 g2)
      · omega
  subst e
  refine ⟨rfl, ?_⟩
  by_cases q : b < b'
  · exact absurd h3 (g5 b h1 q)
  · by_cases q2 : b' < b
    · exact absurd g3 (h5 b' g1 q2)
    · omega
def rs_N (r : mu_RS) : Nat := rs_S r * rs_S r * rs_S r * rs_S r
noncomputable def rv_v (r : mu_RS) : Int32 := @ite _ (sp_rev (rs_N r) (rs_be r)) (Classical.propDecidable _) (mI 1) (mI 0)
def rv_post (w : mu_W) (m : Nat) (rr : mu_RS) (r : Option Value) (w' : mu_W) : Prop := r = some (.int (rv_v rr)) ∧ (sp_rev (rs_N rr) (rs_be rr) → w' = w) ∧ (¬ sp_rev (rs_N rr) (rs_be rr) → ∃ a b, sp_clash (rs_N rr) (rs_be rr) a b ∧ w' = mu_si (mu_si w m 53 (mI a)) m 54 (mI b))
theorem rv_t {r : mu_RS} (h : ¬ rv_v r = 0) : sp_rev (rs_N r) (rs_be r) := by unfold rv_v at h; exact @mu_bt _ (Classical.propDecidable _) h
theorem rv_f {r : mu_RS} (h : rv_v r = 0) : ¬ sp_rev (rs_N r) (rs_be r) := by unfold rv_v at h; exact @mu_bf _ (Classical.propDecidable _) h
theorem rv_1 {r : mu_RS} (h : sp_rev (rs_N r) (rs_be r)) : rv_v r = mI 1 := by unfold rv_v; rw [if_pos h]
theorem rv_0 {r : mu_RS} (h : ¬ sp_rev (rs_N r) (rs_be r)) : rv_v r = mI 0 := by unfold rv_v; rw [if_neg h]
def rv_S (m : Nat) : Nat → Nat → Prop := fun q j => q = m ∧ (j = 53 ∨ j = 54)
theorem rv_post.fi {w w' : mu_W} {m : Nat} {rr : mu_RS} {r : Option Value} (h : rv_post w m rr r w') : mu_Fi (rv_S m) w w' := by
  by_cases q : sp_rev (rs_N rr) (rs_be rr)
  · rw [h.2.1 q]; exact mu_Fi.refl _
  · obtain ⟨a, b, -, e⟩ := h.2.2 q
    rw [e]
    exact ((mu_Fi.refl _).si ⟨rfl, Or.inl rfl⟩).si ⟨rfl, Or.inr rfl⟩

set_option maxHeartbeats 4000000 in
set_option maxRecDepth 100000 in
theorem c_X12_isReversible (G : mu_G) {w : mu_W} {m : Nat} (hm : mo_ok w m) {nr : Nat} {rs : Nat → mu_RS} (hru : MRu w m nr rs) {k : Nat} (hk : k < nr) (h0 : rs_nb (rs k) = 0) : mu_Ct G M_X12_isReversible [.ref m, .int (mI k)] w (fun r w' => rv_post w m (rs k) r w') := by
  have hk0 := hm.1
  obtain ⟨r10, k10⟩ := mo_10 hm
  have hnr := hru.1
  obtain ⟨u1, u2, u3, u4, u5, u6⟩ := hru.2.2 k hk
  replace u6 := u6 h0
  have hS := rs_S_bd u1 h0
  have hN4 : rs_N (rs k) ≤ 256 := (s4_le ⟨hS.1, hS.2.1⟩).2
  refine mu_ofWA G M_X12_isReversible [.ref m, .int (mI k), mu_no, mu_no] (by decide) rfl (Nat.le_of_ble_eq_true rfl) ?_
  intro X E
  have B : mu_B X G cX12_isReversible RX12 4 (mu_rm M_X12_isReversible) := E.1
  have LA : ∀ a (s : Unit), a ≤ rs_N (rs k) → (∀ a' b', a' < a → a' < b' → b' < rs_N (rs k) → rs_be (rs k) a' ≠ rs_be (rs k) b') → mu_WA X G 4 (mu_Q X G M_X12_isReversible (rv_post w m (rs k))) w 0 0 2 [.ref m, .int (mI k), .int (mI a), mu_no] [] := by
    refine mu_ind (rs_N (rs k)) (fun a (s : Unit) => mu_WA X G 4 (mu_Q X G M_X12_isReversible (rv_post w m (rs k))) w 0 0 2 [.ref m, .int (mI k), .int (mI a), mu_no] []) (fun a (s : Unit) => ∀ a' b', a' < a → a' < b' → b' < rs_N (rs k) → rs_be (rs k) a' ≠ rs_be (rs k) b') ?_
    intro a s ha hA iha
    refine mu_il_2 B dX12_isReversible_2 ?_
    refine mu_al_0 B dX12_isReversible_3 ?_
    refine mu_il_1 B dX12_isReversible_4 ?_
    refine mu_eV1 B dX12_isReversible_5 mX12_328 ⟨⟨by decide, by decide⟩, by decide, by decide⟩ (Nat.le_of_ble_eq_true rfl) (by assumption) (c_X12_blocksOf G hm hru hk h0) ?_
    rw [show rs_S (rs k) * rs_S (rs k) * rs_S (rs k) * rs_S (rs k) = rs_N (rs k) from rfl]
    refine mu_icmp_ge (tgt := 78) B dX12_isReversible_8 (by decide) (fun c8 => ?_) (fun c8 => ?_)
    · try rw [mI_le ⟨by omega, by omega⟩ ⟨by omega, by omega⟩] at c8
      obtain rfl : a = rs_N (rs k) := by omega
      refine mu_iconst (v := mI 1) B dX12_isReversible_78 rfl ?_
      refine mu_zret E rfl (by decide) (by decide) dX12_isReversible_79 (Or.inr rfl) ?_
      have hyes : sp_rev (rs_N (rs k)) (rs_be (rs k)) := fun a9 b9 h1 h2 => hA a9 b9 (by have : b9 < rs_N (rs k) := h2; omega) h1 h2
      exact ⟨by rw [rv_1 hyes], fun _ => rfl, fun hh => absurd hyes hh⟩
    · try rw [mI_le ⟨by omega, by omega⟩ ⟨by omega, by omega⟩] at c8
      refine mu_il_2 B dX12_isReversible_11 ?_
      refine mu_iconst (v := mI 1) B dX12_isReversible_12 rfl ?_
      refine mu_iadd B dX12_isReversible_13 ?_
      try rw [mI_add]
      refine mu_is_3 B dX12_isReversible_14 (by decide) rfl ?_
      have LB : ∀ b (s : Unit), b ≤ rs_N (rs k) → (a + 1 ≤ b ∧ (∀ b', a < b' → b' < b → rs_be (rs k) a ≠ rs_be (rs k) b')) → mu_WA X G 4 (mu_Q X G M_X12_isReversible (rv_post w m (rs k))) w 0 0 15 [.ref m, .int (mI k), .int (mI a), .int (mI b)] [] := by
        have L9 := mu_ind (rs_N (rs k)) (fun b (s : Unit) => a + 1 ≤ b → mu_WA X G 4 (mu_Q X G M_X12_isReversible (rv_post w m (rs k))) w 0 0 15 [.ref m, .int (mI k), .int (mI a), .int (mI b)] []) (fun b (s : Unit) => ∀ b', a < b' → b' < b → rs_be (rs k) a ≠ rs_be (rs k) b') ?_
        · intro b s h1 h2; exact L9 b s h1 h2.2 h2.1
        intro b s hb hP ih hlo
        refine mu_il_3 B dX12_isReversible_15 ?_
        refine mu_al_0 B dX12_isReversible_16 ?_
        refine mu_il_1 B dX12_isReversible_17 ?_
        refine mu_eV1 B dX12_isReversible_18 mX12_328 ⟨⟨by decide, by decide⟩, by decide, by decide⟩ (Nat.le_of_ble_eq_true rfl) (by assumption) (c_X12_blocksOf G hm hru hk h0) ?_
        rw [show rs_S (rs k) * rs_S (rs k) * rs_S (rs k) * rs_S (rs k) = rs_N (rs k) from rfl]
        refine mu_icmp_ge (tgt := 72) B dX12_isReversible_21 (by decide) (fun c21 => ?_) (fun c21 => ?_)
        · try rw [mI_le ⟨by omega, by omega⟩ ⟨by omega, by omega⟩] at c21
          refine mu_inc_2 (c := mI 1) B dX12_isReversible_72 rfl (by decide) rfl ?_
          rw [mI_add]
          refine mu_goto (tgt := 2) B dX12_isReversible_75 (by decide) ?_
          refine mu_fg (iha () (by omega) (fun a9 b9 h1 h2 h3 => ?_)) rfl (by rw [show ((a + 1 : Nat) : Int) = (a : Int) + 1 by omega]; exact ⟨Or.inl rfl, Or.inl rfl, Or.inl rfl, Or.inr rfl, trivial⟩)
          by_cases e9 : a9 = a
          · rw [e9] at h2 ⊢; exact hP b9 h2 (by have : b9 < rs_N (rs k) := h3; omega)
          · exact hA a9 b9 (by omega) h2 h3
        · try rw [mI_le ⟨by omega, by omega⟩ ⟨by omega, by omega⟩] at c21
          refine mu_al_0 B dX12_isReversible_24 ?_
          refine mu_getR B dX12_isReversible_25 fX12_32 rfl (by assumption) (by assumption) ?_
          refine mu_sipush (v := mI 256) B dX12_isReversible_28 (by decide) ?_
          refine mu_il_1 B dX12_isReversible_31 ?_
          refine mu_imul B dX12_isReversible_32 ?_
          try rw [mI_mul]
          refine mu_il_2 B dX12_isReversible_33 ?_
          refine mu_iadd B dX12_isReversible_34 ?_
          try rw [mI_add]
          rw [show (256 : Int) * (k : Int) + (a : Int) = ((256 * k + a : Nat) : Int) by omega]
          refine mu_iald B dX12_isReversible_35 (by assumption) (mI_inN (by omega) (by decide)) ?_
          rw [mI_clampN (by omega), u6.2 a (by show a < rs_N (rs k); omega)]
          refine mu_al_0 B dX12_isReversible_36 ?_
          refine mu_getR B dX12_isReversible_37 fX12_32 rfl (by assumption) (by assumption) ?_
          refine mu_sipush (v := mI 256) B dX12_isReversible_40 (by decide) ?_
          refine mu_il_1 B dX12_isReversible_43 ?_
          refine mu_imul B dX12_isReversible_44 ?_
          try rw [mI_mul]
          refine mu_il_3 B dX12_isReversible_45 ?_
          refine mu_iadd B dX12_isReversible_46 ?_
          try rw [mI_add]
          rw [show (256 : Int) * (k : Int) + (b : Int) = ((256 * k + b : Nat) : Int) by omega]
          refine mu_iald B dX12_isReversible_47 (by assumption) (mI_inN (by omega) (by decide)) ?_
          rw [mI_clampN (by omega), u6.2 b (by show b < rs_N (rs k); omega)]
          have q1 : rs_be (rs k) a < rs_N (rs k) := hS.2.2 a (by show a < rs_N (rs k); omega)
          have q2 : rs_be (rs k) b < rs_N (rs k) := hS.2.2 b (by show b < rs_N (rs k); omega)
          refine mu_icmp_eq (tgt := 54) B dX12_isReversible_48 (by decide) (fun c48 => ?_) (fun c48 => ?_)
          · try rw [mI_eq ⟨by omega, by omega⟩ ⟨by omega, by omega⟩] at c48
            refine mu_al_0 B dX12_isReversible_54 ?_
            refine mu_il_2 B dX12_isReversible_55 ?_
            refine mu_putI B dX12_isReversible_56 fX12_331 fwX12_53 rfl (by assumption) ?_
            refine mu_al_0 B dX12_isReversible_59 ?_
            refine mu_il_3 B dX12_isReversible_60 ?_
            refine mu_putI B dX12_isReversible_61 fX12_334 fwX12_54 rfl (by assumption) ?_
            refine mu_iconst (v := mI 0) B dX12_isReversible_64 rfl ?_
            refine mu_zret E rfl (by decide) (by decide) dX12_isReversible_65 (Or.inl rfl) ?_
            have hno : ¬ sp_rev (rs_N (rs k)) (rs_be (rs k)) := fun hh => hh a b (by omega) (by show b < rs_N (rs k); omega) (by omega)
            exact ⟨by rw [rv_0 hno], fun hh => absurd hh hno, fun _ => ⟨a, b, ⟨by omega, by show b < rs_N (rs k); omega, by omega, hA, hP⟩, rfl⟩⟩
          · try rw [mI_eq ⟨by omega, by omega⟩ ⟨by omega, by omega⟩] at c48
            refine mu_goto (tgt := 66) B dX12_isReversible_51 (by decide) ?_
            refine mu_inc_3 (c := mI 1) B dX12_isReversible_66 rfl (by decide) rfl ?_
            try rw [mI_add]
            refine mu_goto (tgt := 15) B dX12_isReversible_69 (by decide) ?_
            exact mu_to (ih () (by omega) (fun b9 h1 h2 => by by_cases e9 : b9 = b; (rw [e9]; omega); exact hP b9 h1 (by omega)) (by omega)) rfl (by rw [show ((b + 1 : Nat) : Int) = (b : Int) + 1 by omega])
      exact mu_to (LB (a + 1) () (by omega) ⟨Nat.le_refl _, fun b9 h1 h2 => absurd h1 (by omega)⟩) rfl (by rw [show ((a + 1 : Nat) : Int) = (a : Int) + 1 by omega])
  show mu_WA X G 4 _ _ 0 0 0 _ []
  refine mu_iconst (v := mI 0) B dX12_isReversible_0 rfl ?_
  refine mu_is_2 B dX12_isReversible_1 (by decide) rfl ?_
  exact LA 0 () (Nat.zero_le _) (fun a9 b9 h1 => absurd h1 (Nat.not_lt_zero a9))

set_option maxHeartbeats 4000000 in
set_option maxRecDepth 100000 in
theorem c_X12_reversible (G : mu_G) {w : mu_W} {m : Nat} (hm : mo_ok w m) {nr : Nat} {rs : Nat → mu_RS} (hru : MRu w m nr rs) {z : Int} (hz : mi_ok z) : mu_Ct G M_X12_reversible [.ref m, .int (mI z)] w (fun r w' => mu_Fi (rv_S m) w w' ∧ r = some (.int (if ¬ (0 ≤ z ∧ z < nr) then mI (-1) else if ¬ rs_nb (rs z.toNat) = 0 then mI (-2) else rv_v (rs z.toNat)))) := by
  have hk0 := hm.1
  have hnr := hru.1
  obtain ⟨hz1, hz2⟩ := id hz
  refine mu_ofWA G M_X12_reversible [.ref m, .int (mI z)] (by decide) rfl (Nat.le_of_ble_eq_true rfl) ?_
  intro X E
  have B : mu_B X G cX12_reversible RX12 2 (mu_rm M_X12_reversible) := E.1
  show mu_WA X G 2 _ _ 0 0 0 _ []
  refine mu_al_0 B dX12_reversible_0 ?_
  refine mu_il_1 B dX12_reversible_1 ?_
  refine mu_eV1 B dX12_reversible_2 mX12_161 ⟨⟨by decide, by decide⟩, by decide, by decide⟩ (Nat.le_of_ble_eq_true rfl) (by assumption) (c_X12_isRule G hm (n := nr) hru.2.1 hru.1 hz) ?_
  refine mu_if_ne (tgt := 12) B dX12_reversible_5 (by decide) (fun c5 => ?_) (fun c5 => ?_)
  · have z5 := mu_bt c5
    obtain ⟨k, hk⟩ : ∃ k : Nat, z = k := ⟨z.toNat, by omega⟩
    subst hk
    obtain ⟨u1, u2, u3, u4, u5, u6⟩ := hru.2.2 k (by omega)
    have hnb := (rs_nb_bd u1).1
    refine mu_al_0 B dX12_reversible_12 ?_
    refine mu_il_1 B dX12_reversible_13 ?_
    refine mu_eV1 B dX12_reversible_14 mX12_158 ⟨⟨by decide, by decide⟩, by decide, by decide⟩ (Nat.le_of_ble_eq_true rfl) (by assumption) (c_X12_isBlocks G hm (k := k) (a := (rs_nb (rs k) : Int)) u4 (by omega) ⟨by omega, by omega⟩) ?_
    refine mu_if_ne (tgt := 25) B dX12_reversible_17 (by decide) (fun c17 => ?_) (fun c17 => ?_)
    · have z17 := mu_bt c17
      refine mu_al_0 B dX12_reversible_25 ?_
      refine mu_il_1 B dX12_reversible_26 ?_
      refine mu_cV1 B dX12_reversible_27 mX12_337 ⟨⟨by decide, by decide⟩, by decide, by decide⟩ (Nat.le_of_ble_eq_true rfl) (by assumption) (c_X12_isReversible G hm hru (k := k) (by omega) (by omega)) (fun r27 w27 q27 => ?_)
      have hF := q27.fi
      obtain ⟨rfl, q27⟩ := q27
      show mu_WA X G 2 _ w27 _ _ _ _ [.int (rv_v (rs k))]
      refine mu_if_eq (tgt := 37) B dX12_reversible_30 (by decide) (fun c30 => ?_) (fun c30 => ?_)
      · have hv := rv_0 (rv_f c30)
        refine mu_iconst (v := mI 0) B dX12_reversible_37 rfl ?_
        refine mu_iret E rfl (by decide) (by decide) dX12_reversible_38 ?_
        first | (rw [if_pos z5]; exact ⟨mu_Fi.refl _, rfl⟩) | (rw [if_neg (fun hh => hh z5), Int.toNat_natCast, if_pos (by omega)]; exact ⟨mu_Fi.refl _, rfl⟩) | (rw [if_neg (fun hh => hh z5), Int.toNat_natCast, if_neg (fun hh => hh (by omega)), hv]; exact ⟨hF, rfl⟩)
      · have hv := rv_1 (rv_t c30)
        refine mu_iconst (v := mI 1) B dX12_reversible_33 rfl ?_
        refine mu_goto (tgt := 38) B dX12_reversible_34 (by decide) ?_
        refine mu_iret E rfl (by decide) (by decide) dX12_reversible_38 ?_
        first | (rw [if_pos z5]; exact ⟨mu_Fi.refl _, rfl⟩) | (rw [if_neg (fun hh => hh z5), Int.toNat_natCast, if_pos (by omega)]; exact ⟨mu_Fi.refl _, rfl⟩) | (rw [if_neg (fun hh => hh z5), Int.toNat_natCast, if_neg (fun hh => hh (by omega)), hv]; exact ⟨hF, rfl⟩)
    · have z17 := mu_bf c17
      refine mu_bipush (v := mI (-2)) B dX12_reversible_20 (by decide) ?_
      refine mu_goto (tgt := 38) B dX12_reversible_22 (by decide) ?_
      refine mu_iret E rfl (by decide) (by decide) dX12_reversible_38 ?_
      first | (rw [if_pos z5]; exact ⟨mu_Fi.refl _, rfl⟩) | (rw [if_neg (fun hh => hh z5), Int.toNat_natCast, if_pos (by omega)]; exact ⟨mu_Fi.refl _, rfl⟩) | (rw [if_neg (fun hh => hh z5), Int.toNat_natCast, if_neg (fun hh => hh (by omega)), hv]; exact ⟨hF, rfl⟩)
  · have z5 := mu_bf c5
    refine mu_iconst (v := mI (-1)) B dX12_reversible_8 rfl ?_
    refine mu_goto (tgt := 38) B dX12_reversible_9 (by decide) ?_
    refine mu_iret E rfl (by decide) (by decide) dX12_reversible_38 ?_
    first | (rw [if_pos z5]; exact ⟨mu_Fi.refl _, rfl⟩) | (rw [if_neg (fun hh => hh z5), Int.toNat_natCast, if_pos (by omega)]; exact ⟨mu_Fi.refl _, rfl⟩) | (rw [if_neg (fun hh => hh z5), Int.toNat_natCast, if_neg (fun hh => hh (by omega)), hv]; exact ⟨hF, rfl⟩)

def cl_post (w : mu_W) (m nr : Nat) (rs : Nat → mu_RS) (z y : Int) (r : Option Value) (w' : mu_W) : Prop := mu_Fi (rv_S m) w w' ∧
  (¬ ((0 ≤ z ∧ z < nr) ∧ 0 ≤ y ∧ y ≤ 1) → r = some (.int (mI (-1)))) ∧ ((0 ≤ z ∧ z < nr) ∧ 0 ≤ y ∧ y ≤ 1 → ((¬ rs_nb (rs z.toNat) = 0 ∨ sp_rev (rs_N (rs z.toNat)) (rs_be (rs z.toNat))) → r = some (.int (mI (-2)))) ∧
    (rs_nb (rs z.toNat) = 0 → ¬ sp_rev (rs_N (rs z.toNat)) (rs_be (rs z.toNat)) → ∃ a b : Nat, sp_clash (rs_N (rs z.toNat)) (rs_be (rs z.toNat)) a b ∧ r = some (.int (mI (if y = 0 then (a : Int) else b)))))

set_option maxHeartbeats 4000000 in
set_option maxRecDepth 100000 in
theorem c_X12_clash (G : mu_G) {w : mu_W} {m : Nat} (hm : mo_ok w m) {nr : Nat} {rs : Nat → mu_RS} (hru : MRu w m nr rs) {z y : Int} (hz : mi_ok z) (hy : mi_ok y) : mu_Ct G M_X12_clash [.ref m, .int (mI z), .int (mI y)] w (fun r w' => cl_post w m nr rs z y r w') := by
  have hk0 := hm.1
  have hnr := hru.1
  obtain ⟨hz1, hz2⟩ := id hz
  obtain ⟨hy1, hy2⟩ := hy
  refine mu_ofWA G M_X12_clash [.ref m, .int (mI z), .int (mI y)] (by decide) rfl (Nat.le_of_ble_eq_true rfl) ?_
  intro X E
  have B : mu_B X G cX12_clash RX12 3 (mu_rm M_X12_clash) := E.1
  show mu_WA X G 3 _ _ 0 0 0 _ []
  refine mu_al_0 B dX12_clash_0 ?_
  refine mu_il_1 B dX12_clash_1 ?_
  refine mu_eV1 B dX12_clash_2 mX12_161 ⟨⟨by decide, by decide⟩, by decide, by decide⟩ (Nat.le_of_ble_eq_true rfl) (by assumption) (c_X12_isRule G hm (n := nr) hru.2.1 hru.1 hz) ?_
  refine mu_if_eq (tgt := 17) B dX12_clash_5 (by decide) (fun c5 => ?_) (fun c5 => ?_)
  · have z5 := mu_bf c5
    refine mu_iconst (v := mI (-1)) B dX12_clash_17 rfl ?_
    refine mu_iret E rfl (by decide) (by decide) dX12_clash_18 ?_
    refine ⟨mu_Fi.refl _, fun _ => rfl, fun hh => ?_⟩
    first | exact absurd hh.1 z5 | (exfalso; omega)
  · have z5 := mu_bt c5
    refine mu_il_2 B dX12_clash_8 ?_
    refine mu_if_lt (tgt := 17) B dX12_clash_9 (by decide) (fun c9 => ?_) (fun c9 => ?_)
    · try rw [mI_lt0 ⟨by omega, by omega⟩] at c9
      refine mu_iconst (v := mI (-1)) B dX12_clash_17 rfl ?_
      refine mu_iret E rfl (by decide) (by decide) dX12_clash_18 ?_
      refine ⟨mu_Fi.refl _, fun _ => rfl, fun hh => ?_⟩
      first | exact absurd hh.1 z5 | (exfalso; omega)
    · try rw [mI_lt0 ⟨by omega, by omega⟩] at c9
      refine mu_il_2 B dX12_clash_12 ?_
      refine mu_iconst (v := mI 1) B dX12_clash_13 rfl ?_
      refine mu_icmp_le (tgt := 19) B dX12_clash_14 (by decide) (fun c14 => ?_) (fun c14 => ?_)
      · try rw [mI_le ⟨by omega, by omega⟩ ⟨by omega, by omega⟩] at c14
        obtain ⟨k, hk⟩ : ∃ k : Nat, z = k := ⟨z.toNat, by omega⟩
        subst hk
        obtain ⟨u1, u2, u3, u4, u5, u6⟩ := hru.2.2 k (by omega)
        have hnb := (rs_nb_bd u1).1
        refine mu_al_0 B dX12_clash_19 ?_
        refine mu_il_1 B dX12_clash_20 ?_
        refine mu_eV1 B dX12_clash_21 mX12_158 ⟨⟨by decide, by decide⟩, by decide, by decide⟩ (Nat.le_of_ble_eq_true rfl) (by assumption) (c_X12_isBlocks G hm (k := k) (a := (rs_nb (rs k) : Int)) u4 (by omega) ⟨by omega, by omega⟩) ?_
        refine mu_if_eq (tgt := 35) B dX12_clash_24 (by decide) (fun c24 => ?_) (fun c24 => ?_)
        · have z24 := mu_bf c24
          refine mu_bipush (v := mI (-2)) B dX12_clash_35 (by decide) ?_
          refine mu_iret E rfl (by decide) (by decide) dX12_clash_37 ?_
          first | exact ⟨mu_Fi.refl _, fun hh => absurd ⟨by omega, by omega⟩ hh, fun _ => ⟨fun _ => rfl, fun hh => by rw [Int.toNat_natCast] at hh; exact absurd hh (by omega)⟩⟩ | exact ⟨hF, fun hh => absurd ⟨by omega, by omega⟩ hh, fun _ => ⟨fun _ => rfl, fun _ hh => by rw [Int.toNat_natCast] at hh; exact absurd hv hh⟩⟩
        · have z24 := mu_bt c24
          refine mu_al_0 B dX12_clash_27 ?_
          refine mu_il_1 B dX12_clash_28 ?_
          refine mu_cV1 B dX12_clash_29 mX12_337 ⟨⟨by decide, by decide⟩, by decide, by decide⟩ (Nat.le_of_ble_eq_true rfl) (by assumption) (c_X12_isReversible G hm hru (k := k) (by omega) (by omega)) (fun r29 w29 q29 => ?_)
          have hF := q29.fi
          have hk9 := (hm.fi hF).1
          obtain ⟨rfl, q29⟩ := q29
          show mu_WA X G 3 _ w29 _ _ _ _ [.int (rv_v (rs k))]
          refine mu_if_eq (tgt := 38) B dX12_clash_32 (by decide) (fun c32 => ?_) (fun c32 => ?_)
          · have hv := rv_f c32
            obtain ⟨a, b, hcl, hw9⟩ := q29.2 hv
            refine mu_il_2 B dX12_clash_38 ?_
            refine mu_if_ne (tgt := 49) B dX12_clash_39 (by decide) (fun c39 => ?_) (fun c39 => ?_)
            · try rw [mI_eq0 ⟨by omega, by omega⟩] at c39
              refine mu_al_0 B dX12_clash_49 ?_
              refine mu_getI B dX12_clash_50 fX12_334 rfl (by assumption) ?_
              rw [show mu_iv w29 m 54 = mI b from by rw [hw9, mu_iv_same]]
              refine mu_iret E rfl (by decide) (by decide) dX12_clash_53 ?_
              exact ⟨hF, fun hh => absurd ⟨by omega, by omega⟩ hh, fun _ => ⟨fun hh => by rw [Int.toNat_natCast] at hh; rcases hh with hh | hh; (exact absurd z24 (by omega)); exact absurd hh hv, fun _ _ => ⟨a, b, by rw [Int.toNat_natCast]; exact hcl, by first | rw [if_pos (by omega)] | rw [if_neg (by omega)]⟩⟩⟩
            · try rw [mI_eq0 ⟨by omega, by omega⟩] at c39
              refine mu_al_0 B dX12_clash_42 ?_
              refine mu_getI B dX12_clash_43 fX12_331 rfl (by assumption) ?_
              rw [show mu_iv w29 m 53 = mI a from by rw [hw9, mu_iv_oth _ _ (by omega), mu_iv_same]]
              refine mu_goto (tgt := 53) B dX12_clash_46 (by decide) ?_
              refine mu_iret E rfl (by decide) (by decide) dX12_clash_53 ?_
              exact ⟨hF, fun hh => absurd ⟨by omega, by omega⟩ hh, fun _ => ⟨fun hh => by rw [Int.toNat_natCast] at hh; rcases hh with hh | hh; (exact absurd z24 (by omega)); exact absurd hh hv, fun _ _ => ⟨a, b, by rw [Int.toNat_natCast]; exact hcl, by first | rw [if_pos (by omega)] | rw [if_neg (by omega)]⟩⟩⟩
          · have hv := rv_t c32
            refine mu_bipush (v := mI (-2)) B dX12_clash_35 (by decide) ?_
            refine mu_iret E rfl (by decide) (by decide) dX12_clash_37 ?_
            first | exact ⟨mu_Fi.refl _, fun hh => absurd ⟨by omega, by omega⟩ hh, fun _ => ⟨fun _ => rfl, fun hh => by rw [Int.toNat_natCast] at hh; exact absurd hh (by omega)⟩⟩ | exact ⟨hF, fun hh => absurd ⟨by omega, by omega⟩ hh, fun _ => ⟨fun _ => rfl, fun _ hh => by rw [Int.toNat_natCast] at hh; exact absurd hv hh⟩⟩
      · try rw [mI_le ⟨by omega, by omega⟩ ⟨by omega, by omega⟩] at c14
        refine mu_iconst (v := mI (-1)) B dX12_clash_17 rfl ?_
        refine mu_iret E rfl (by decide) (by decide) dX12_clash_18 ?_
        refine ⟨mu_Fi.refl _, fun _ => rfl, fun hh => ?_⟩
        first | exact absurd hh.1 z5 | (exfalso; omega)

def fl_S (m g : Nat) : Nat → Nat → Prop := fun q j => q = m + 31 ∧ 256 * g ≤ j ∧ j < 256 * g + 256
theorem sp_fl_lt {seed : Int32} {share s C K : Nat} {c : Nat → Nat → Nat} (hs : 2 ≤ s) (hc : ∀ i j, c i j < s) (i j : Nat) : sp_fl seed share s C K c i j < s := by
  unfold sp_fl
  by_cases h : C * i + j < K
  · rw [if_pos h]; exact sp_fv_lt hs
  · rw [if_neg h]; exact hc i j
def fl_post (w : mu_W) (m nr : Nat) (rs : Nat → mu_RS) (ng : Nat) (gs : Nat → mu_GS) (z : Int) (seed : Int32) (y : Int) (r : Option Value) (w' : mu_W) : Prop :=
  if (0 ≤ z ∧ z < ng) ∧ 0 ≤ y ∧ y ≤ 100 then r = some (.int (mI ((sp_fn seed y.toNat (rs_S (rs (gs_r (gs z.toNat)))) (gs_R (gs z.toNat) * gs_C (gs z.toNat)) : Nat) : Int))) ∧ mu_Fi (fl_S m z.toNat) w w' ∧ MGr w' m nr rs ng (gi_up gs z.toNat (gs_n (gs z.toNat)) (sp_fl seed y.toNat (rs_S (rs (gs_r (gs z.toNat)))) (gs_C (gs z.toNat)) (gs_R (gs z.toNat) * gs_C (gs z.toNat)) (gs_c (gs z.toNat)))) else r = some (.int (mI (-1))) ∧ w' = w

set_option maxHeartbeats 4000000 in
set_option maxRecDepth 100000 in
theorem c_X12_fill (G : mu_G) {w : mu_W} {m : Nat} (hm : mo_ok w m) {nr : Nat} {rs : Nat → mu_RS} (hru : MRu w m nr rs) {ng : Nat} {gs : Nat → mu_GS} (hgr : MGr w m nr rs ng gs) {z y : Int} {seed : Int32} (hz : mi_ok z) (hy : mi_ok y) : mu_Ct G M_X12_fill [.ref m, .int (mI z), .int seed, .int (mI y)] w (fun r w' => fl_post w m nr rs ng gs z seed y r w') := by
  have hk0 := hm.1
  have hng := hgr.1
  obtain ⟨hz1, hz2⟩ := id hz
  obtain ⟨r51, k51⟩ := mo_51 hm
  obtain ⟨r47, k47⟩ := mo_47 hm
  obtain ⟨r6, k6⟩ := mo_6 hm
  obtain ⟨hy1, hy2⟩ := hy
  refine mu_ofWA G M_X12_fill [.ref m, .int (mI z), .int seed, .int (mI y), mu_no, mu_no, mu_no, mu_no, mu_no, mu_no, mu_no] (by decide) rfl (Nat.le_of_ble_eq_true rfl) ?_
  intro X E
  have B : mu_B X G cX12_fill RX12 11 (mu_rm M_X12_fill) := E.1
  show mu_WA X G 11 _ _ 0 0 0 _ []
  refine mu_al_0 B dX12_fill_0 ?_
  refine mu_il_1 B dX12_fill_1 ?_
  refine mu_eV1 B dX12_fill_2 mX12_316 ⟨⟨by decide, by decide⟩, by decide, by decide⟩ (Nat.le_of_ble_eq_true rfl) (by assumption) (c_X12_isGrid G hm (n := ng) hgr.2.1 hgr.1 hz) ?_
  refine mu_if_eq (tgt := 18) B dX12_fill_5 (by decide) (fun c5 => ?_) (fun c5 => ?_)
  · have z5 := mu_bf c5
    refine mu_iconst (v := mI (-1)) B dX12_fill_18 rfl ?_
    refine mu_iret E rfl (by decide) (by decide) dX12_fill_19 ?_
    unfold fl_post
    first | (rw [if_neg (fun hh => z5 hh.1)]; exact ⟨rfl, rfl⟩) | (rw [if_neg (fun hh => by have := hh.2; omega)]; exact ⟨rfl, rfl⟩)
  · have z5 := mu_bt c5
    refine mu_il_3 B dX12_fill_8 ?_
    refine mu_if_lt (tgt := 18) B dX12_fill_9 (by decide) (fun c9 => ?_) (fun c9 => ?_)
    · try rw [mI_lt0 ⟨by omega, by omega⟩] at c9
      refine mu_iconst (v := mI (-1)) B dX12_fill_18 rfl ?_
      refine mu_iret E rfl (by decide) (by decide) dX12_fill_19 ?_
      unfold fl_post
      first | (rw [if_neg (fun hh => z5 hh.1)]; exact ⟨rfl, rfl⟩) | (rw [if_neg (fun hh => by have := hh.2; omega)]; exact ⟨rfl, rfl⟩)
    · try rw [mI_lt0 ⟨by omega, by omega⟩] at c9
      refine mu_il_3 B dX12_fill_12 ?_
      refine mu_bipush (v := mI 100) B dX12_fill_13 (by decide) ?_
      refine mu_icmp_le (tgt := 20) B dX12_fill_15 (by decide) (fun c15 => ?_) (fun c15 => ?_)
      · try rw [mI_le ⟨by omega, by omega⟩ ⟨by omega, by omega⟩] at c15
        obtain ⟨g, hg⟩ : ∃ g : Nat, z = g := ⟨z.toNat, by omega⟩
        subst hg
        obtain ⟨g1, g2, g3, g4, g5, g6⟩ := hgr.2.2 g (by omega)
        obtain ⟨⟨R1, R2, R3⟩, ⟨C1, C2, C3⟩⟩ : gs_sd (gs_R (gs g)) ∧ gs_sd (gs_C (gs g)) := ⟨g1.2.2.1, g1.2.2.2.1⟩
        obtain ⟨u1, u2, u3, u4, u5, u6⟩ := hru.2.2 (gs_r (gs g)) g1.1
        replace u6 := u6 g1.2.1
        have hS := rs_S_bd u1 g1.2.1
        have hnr := hru.1
        have hgr0 := g1.1
        obtain ⟨sh, hsh⟩ : ∃ sh : Nat, y = sh := ⟨y.toNat, by omega⟩
        subst hsh
        have hRC : gs_R (gs g) * gs_C (gs g) ≤ 256 := (gs_ix g1.2.2.1 g1.2.2.2.1 (i := 0) (j := 0) (by omega) (by omega)).2
        have LI : ∀ i (s : mu_W), i ≤ gs_R (gs g) → (mu_Fi (fl_S m g) w s ∧ ∀ a b, a < gs_R (gs g) → b < gs_C (gs g) → mu_iv s (m + 31) (256 * g + gs_C (gs g) * a + b) = mI (sp_fl seed sh (rs_S (rs (gs_r (gs g)))) (gs_C (gs g)) (gs_C (gs g) * i) (gs_c (gs g)) a b)) → mu_WA X G 11 (mu_Q X G M_X12_fill (fl_post w m nr rs ng gs (g : Int) seed (sh : Int))) s 0 0 42 [.ref m, .int (mI g), .int seed, .int (mI sh), .int (sp_t seed (gs_C (gs g) * i)), .int (mI (sp_fn seed sh (rs_S (rs (gs_r (gs g)))) (gs_C (gs g) * i) : Int)), .int (mI ((rs_S (rs (gs_r (gs g)))) : Int)), .int (mI i), mu_no, mu_no, mu_no] [] := by
          refine mu_ind (gs_R (gs g)) (fun i (s : mu_W) => mu_WA X G 11 (mu_Q X G M_X12_fill (fl_post w m nr rs ng gs (g : Int) seed (sh : Int))) s 0 0 42 [.ref m, .int (mI g), .int seed, .int (mI sh), .int (sp_t seed (gs_C (gs g) * i)), .int (mI (sp_fn seed sh (rs_S (rs (gs_r (gs g)))) (gs_C (gs g) * i) : Int)), .int (mI ((rs_S (rs (gs_r (gs g)))) : Int)), .int (mI i), mu_no, mu_no, mu_no] []) (fun i (s : mu_W) => mu_Fi (fl_S m g) w s ∧ ∀ a b, a < gs_R (gs g) → b < gs_C (gs g) → mu_iv s (m + 31) (256 * g + gs_C (gs g) * a + b) = mI (sp_fl seed sh (rs_S (rs (gs_r (gs g)))) (gs_C (gs g)) (gs_C (gs g) * i) (gs_c (gs g)) a b)) ?_
          rintro i w1 hi ⟨hF, hcl⟩ ihi
          have hm1 := hm.fi hF
          have hk1 := hm1.1
          obtain ⟨r51, k51⟩ := mo_51 hm1
          obtain ⟨r48, k48⟩ := mo_48 hm1
          obtain ⟨r49, k49⟩ := mo_49 hm1
          have g3a := hF.iv (by unfold fl_S; omega) g3
          have g4a := hF.iv (by unfold fl_S; omega) g4
          refine mu_il_7 B dX12_fill_42 ?_
          refine mu_al_0 B dX12_fill_44 ?_
          refine mu_getR B dX12_fill_45 fX12_96 rfl (by assumption) (by assumption) ?_
          refine mu_il_1 B dX12_fill_48 ?_
          refine mu_iald B dX12_fill_49 (by assumption) (mI_inN (by omega) (by decide)) ?_
          rw [mI_clampN (by omega), g3a]
          refine mu_icmp_ge (tgt := 156) B dX12_fill_50 (by decide) (fun c50 => ?_) (fun c50 => ?_)
          · try rw [mI_le ⟨by omega, by omega⟩ ⟨by omega, by omega⟩] at c50
            obtain rfl : i = gs_R (gs g) := by omega
            refine mu_il_5 B dX12_fill_156 ?_
            refine mu_iret E rfl (by decide) (by decide) dX12_fill_158 ?_
            unfold fl_post
            rw [if_pos ⟨by omega, by omega, by omega⟩, Int.toNat_natCast, Int.toNat_natCast]
            rw [Nat.mul_comm (gs_C (gs g))] at hcl ⊢
            refine ⟨rfl, hF, hgr.cells (by omega) g1.2.2.2.2.1 (sp_fl_lt hS.1 g1.2.2.2.2.2) (hF.2.2.2 m 46 (by unfold fl_S; omega)).1 (fun q j h1 h2 => (hF.2.2.2 q j (by unfold fl_S; omega)).1) (fun j hj => (hF.2.2.2 _ j (by unfold fl_S; omega)).1) (hF.iv (by unfold fl_S; omega) g5) (fun j hj => (hF.2.2.2 _ j (by unfold fl_S; omega)).1) hcl⟩
          · try rw [mI_le ⟨by omega, by omega⟩ ⟨by omega, by omega⟩] at c50
            have hi9 : i < gs_R (gs g) := by omega
            refine mu_iconst (v := mI 0) B dX12_fill_53 rfl ?_
            refine mu_is_8 B dX12_fill_54 (by decide) rfl ?_
            have LJ : ∀ j (s : mu_W), j ≤ gs_C (gs g) → (mu_Fi (fl_S m g) w s ∧ ∀ a b, a < gs_R (gs g) → b < gs_C (gs g) → mu_iv s (m + 31) (256 * g + gs_C (gs g) * a + b) = mI (sp_fl seed sh (rs_S (rs (gs_r (gs g)))) (gs_C (gs g)) (gs_C (gs g) * i + j) (gs_c (gs g)) a b)) → mu_WA X G 11 (mu_Q X G M_X12_fill (fl_post w m nr rs ng gs (g : Int) seed (sh : Int))) s 0 0 56 [.ref m, .int (mI g), .int seed, .int (mI sh), .int (sp_t seed (gs_C (gs g) * i + j)), .int (mI (sp_fn seed sh (rs_S (rs (gs_r (gs g)))) (gs_C (gs g) * i + j) : Int)), .int (mI ((rs_S (rs (gs_r (gs g)))) : Int)), .int (mI i), .int (mI j), mu_no, mu_no] [] := by
              refine mu_ind (gs_C (gs g)) (fun j (s : mu_W) => mu_WA X G 11 (mu_Q X G M_X12_fill (fl_post w m nr rs ng gs (g : Int) seed (sh : Int))) s 0 0 56 [.ref m, .int (mI g), .int seed, .int (mI sh), .int (sp_t seed (gs_C (gs g) * i + j)), .int (mI (sp_fn seed sh (rs_S (rs (gs_r (gs g)))) (gs_C (gs g) * i + j) : Int)), .int (mI ((rs_S (rs (gs_r (gs g)))) : Int)), .int (mI i), .int (mI j), mu_no, mu_no] []) (fun j (s : mu_W) => mu_Fi (fl_S m g) w s ∧ ∀ a b, a < gs_R (gs g) → b < gs_C (gs g) → mu_iv s (m + 31) (256 * g + gs_C (gs g) * a + b) = mI (sp_fl seed sh (rs_S (rs (gs_r (gs g)))) (gs_C (gs g)) (gs_C (gs g) * i + j) (gs_c (gs g)) a b)) ?_
              rintro j w1 hj ⟨hF, hcl⟩ ih
              have hm1 := hm.fi hF
              have hk1 := hm1.1
              obtain ⟨r51, k51⟩ := mo_51 hm1
              obtain ⟨r48, k48⟩ := mo_48 hm1
              obtain ⟨r49, k49⟩ := mo_49 hm1
              have g3a := hF.iv (by unfold fl_S; omega) g3
              have g4a := hF.iv (by unfold fl_S; omega) g4
              have hfn := sp_fn_le seed sh (rs_S (rs (gs_r (gs g)))) (gs_C (gs g) * i + j)
              have hRC2 : gs_C (gs g) * i + j ≤ 256 := by have := Nat.mul_le_mul_left (gs_C (gs g)) (show i + 1 ≤ gs_R (gs g) by omega); rw [Nat.mul_succ, Nat.mul_comm _ (gs_R (gs g))] at this; omega
              refine mu_il_8 B dX12_fill_56 ?_
              refine mu_al_0 B dX12_fill_58 ?_
              refine mu_getR B dX12_fill_59 fX12_99 rfl (by assumption) (by assumption) ?_
              refine mu_il_1 B dX12_fill_62 ?_
              refine mu_iald B dX12_fill_63 (by assumption) (mI_inN (by omega) (by decide)) ?_
              rw [mI_clampN (by omega), g4a]
              refine mu_icmp_ge (tgt := 150) B dX12_fill_64 (by decide) (fun c64 => ?_) (fun c64 => ?_)
              · try rw [mI_le ⟨by omega, by omega⟩ ⟨by omega, by omega⟩] at c64
                obtain rfl : j = gs_C (gs g) := by omega
                refine mu_inc_7 (c := mI 1) B dX12_fill_150 rfl (by decide) rfl ?_
                rw [mI_add]
                refine mu_goto (tgt := 42) B dX12_fill_153 (by decide) ?_
                refine mu_fg (ihi w1 (by omega) ⟨hF, by rw [Nat.mul_succ]; exact hcl⟩) rfl (by rw [Nat.mul_succ, show ((i + 1 : Nat) : Int) = (i : Int) + 1 by omega]; exact ⟨Or.inl rfl, Or.inl rfl, Or.inl rfl, Or.inl rfl, Or.inl rfl, Or.inl rfl, Or.inl rfl, Or.inl rfl, Or.inr rfl, Or.inr rfl, Or.inr rfl, trivial⟩)
              · try rw [mI_le ⟨by omega, by omega⟩ ⟨by omega, by omega⟩] at c64
                have hj9 : j < gs_C (gs g) := by omega
                have hix := gs_ix g1.2.2.1 g1.2.2.2.1 hi9 hj9
                have hvl := sp_fv_lt (seed := seed) (share := sh) (k := gs_C (gs g) * i + j) hS.1
                have K111 : ∀ (z : Int) (u9 : Int32) (u10 : Value), z = (sp_fv seed sh (rs_S (rs (gs_r (gs g)))) (gs_C (gs g) * i + j) : Int) → mu_WA X G 11 (mu_Q X G M_X12_fill (fl_post w m nr rs ng gs (g : Int) seed (sh : Int))) w1 0 0 111 [.ref m, .int (mI g), .int seed, .int (mI sh), .int (sp_t seed (gs_C (gs g) * i + j + 1)), .int (mI (sp_fn seed sh (rs_S (rs (gs_r (gs g)))) (gs_C (gs g) * i + j) : Int)), .int (mI ((rs_S (rs (gs_r (gs g)))) : Int)), .int (mI i), .int (mI j), .int u9, u10] [.int (mI z)] := by
                  intro z u9 u10 hz9
                  refine mu_is_10 B dX12_fill_111 (by decide) rfl ?_
                  refine mu_al_0 B dX12_fill_113 ?_
                  refine mu_getR B dX12_fill_114 fX12_105 rfl (by assumption) (by assumption) ?_
                  refine mu_al_0 B dX12_fill_117 ?_
                  refine mu_il_1 B dX12_fill_118 ?_
                  refine mu_il_7 B dX12_fill_119 ?_
                  refine mu_il_8 B dX12_fill_121 ?_
                  refine mu_eV3 B dX12_fill_123 mX12_323 ⟨⟨by decide, by decide⟩, by decide, by decide⟩ (Nat.le_of_ble_eq_true rfl) (by assumption) (c_X12_gridPlace G hm1 (i := i) (j := j) (by omega) g3a g4a ⟨by omega, by omega⟩ ⟨by omega, by omega⟩ (by omega) (by omega)) ?_
                  rw [Nat.mod_eq_of_lt hi9, Nat.mod_eq_of_lt hj9]
                  refine mu_il_10 B dX12_fill_126 ?_
                  refine mu_iast B dX12_fill_128 (by assumption) (mI_inN (by omega) (by decide)) ?_
                  rw [mI_clampN (by omega)]
                  refine mu_il_5 B dX12_fill_129 ?_
                  refine mu_il_10 B dX12_fill_131 ?_
                  refine mu_if_eq (tgt := 140) B dX12_fill_133 (by decide) (fun c133 => ?_) (fun c133 => ?_)
                  · try rw [mI_eq0 ⟨by omega, by omega⟩] at c133
                    refine mu_iconst (v := mI 0) B dX12_fill_140 rfl ?_
                    refine mu_iadd B dX12_fill_141 ?_
                    try rw [mI_add]
                    refine mu_is_5 B dX12_fill_142 (by decide) rfl ?_
                    refine mu_inc_8 (c := mI 1) B dX12_fill_144 rfl (by decide) rfl ?_
                    try rw [mI_add]
                    refine mu_goto (tgt := 56) B dX12_fill_147 (by decide) ?_
                    refine mu_fg (ih (mu_si w1 (m + 31) (256 * g + gs_C (gs g) * i + j) (mI z)) (by omega) ⟨hF.si ⟨rfl, by omega, by omega⟩, fun a b ha hb => ?_⟩) rfl (by rw [Nat.add_assoc, show ((j + 1 : Nat) : Int) = (j : Int) + 1 by omega] at *; rw [← Nat.add_assoc, sp_fn]; first | (rw [if_pos (by omega), Nat.add_zero, Int.add_zero]; exact ⟨Or.inl rfl, Or.inl rfl, Or.inl rfl, Or.inl rfl, Or.inl rfl, Or.inl rfl, Or.inl rfl, Or.inl rfl, Or.inl rfl, Or.inr rfl, Or.inr rfl, trivial⟩) | (rw [if_neg (by omega), show ((sp_fn seed sh (rs_S (rs (gs_r (gs g)))) (gs_C (gs g) * i + j) + 1 : Nat) : Int) = (sp_fn seed sh (rs_S (rs (gs_r (gs g)))) (gs_C (gs g) * i + j) : Int) + 1 by omega]; exact ⟨Or.inl rfl, Or.inl rfl, Or.inl rfl, Or.inl rfl, Or.inl rfl, Or.inl rfl, Or.inl rfl, Or.inl rfl, Or.inl rfl, Or.inr rfl, Or.inr rfl, trivial⟩))
                    by_cases e9 : a = i ∧ b = j
                    · rw [e9.1, e9.2, mu_iv_same]
                      unfold sp_fl
                      rw [if_pos (by omega), hz9]
                    · rw [mu_iv_oth _ _ (fun hh => e9 (gs_inj hb hj9 (by omega))), hcl a b ha hb]
                      unfold sp_fl
                      by_cases e8 : gs_C (gs g) * a + b < gs_C (gs g) * i + j
                      · rw [if_pos e8, if_pos (by omega)]
                      · rw [if_neg e8, if_neg (fun hh => e9 (gs_inj hb hj9 (by omega)))]
                  · try rw [mI_eq0 ⟨by omega, by omega⟩] at c133
                    refine mu_iconst (v := mI 1) B dX12_fill_136 rfl ?_
                    refine mu_goto (tgt := 141) B dX12_fill_137 (by decide) ?_
                    refine mu_iadd B dX12_fill_141 ?_
                    try rw [mI_add]
                    refine mu_is_5 B dX12_fill_142 (by decide) rfl ?_
                    refine mu_inc_8 (c := mI 1) B dX12_fill_144 rfl (by decide) rfl ?_
                    try rw [mI_add]
                    refine mu_goto (tgt := 56) B dX12_fill_147 (by decide) ?_
                    refine mu_fg (ih (mu_si w1 (m + 31) (256 * g + gs_C (gs g) * i + j) (mI z)) (by omega) ⟨hF.si ⟨rfl, by omega, by omega⟩, fun a b ha hb => ?_⟩) rfl (by rw [Nat.add_assoc, show ((j + 1 : Nat) : Int) = (j : Int) + 1 by omega] at *; rw [← Nat.add_assoc, sp_fn]; first | (rw [if_pos (by omega), Nat.add_zero, Int.add_zero]; exact ⟨Or.inl rfl, Or.inl rfl, Or.inl rfl, Or.inl rfl, Or.inl rfl, Or.inl rfl, Or.inl rfl, Or.inl rfl, Or.inl rfl, Or.inr rfl, Or.inr rfl, trivial⟩) | (rw [if_neg (by omega), show ((sp_fn seed sh (rs_S (rs (gs_r (gs g)))) (gs_C (gs g) * i + j) + 1 : Nat) : Int) = (sp_fn seed sh (rs_S (rs (gs_r (gs g)))) (gs_C (gs g) * i + j) : Int) + 1 by omega]; exact ⟨Or.inl rfl, Or.inl rfl, Or.inl rfl, Or.inl rfl, Or.inl rfl, Or.inl rfl, Or.inl rfl, Or.inl rfl, Or.inl rfl, Or.inr rfl, Or.inr rfl, trivial⟩))
                    by_cases e9 : a = i ∧ b = j
                    · rw [e9.1, e9.2, mu_iv_same]
                      unfold sp_fl
                      rw [if_pos (by omega), hz9]
                    · rw [mu_iv_oth _ _ (fun hh => e9 (gs_inj hb hj9 (by omega))), hcl a b ha hb]
                      unfold sp_fl
                      by_cases e8 : gs_C (gs g) * a + b < gs_C (gs g) * i + j
                      · rw [if_pos e8, if_pos (by omega)]
                      · rw [if_neg e8, if_neg (fun hh => e9 (gs_inj hb hj9 (by omega)))]
                refine mu_il_4 B dX12_fill_67 ?_
                refine mu_ldcw B kX12_326 dX12_fill_69 ?_
                refine mu_imul B dX12_fill_72 ?_
                try rw [mI_mul]
                refine mu_ldcw B kX12_327 dX12_fill_73 ?_
                refine mu_iadd B dX12_fill_76 ?_
                try rw [mI_add]
                rw [show sp_t seed (gs_C (gs g) * i + j) * mI 1664525 + mI 1013904223 = sp_t seed (gs_C (gs g) * i + j + 1) from rfl]
                refine mu_is_4 B dX12_fill_77 (by decide) rfl ?_
                refine mu_il_4 B dX12_fill_79 ?_
                refine mu_bipush (v := mI 16) B dX12_fill_81 (by decide) ?_
                refine mu_iushr B dX12_fill_83 rfl ?_
                rw [sp_u_eq]
                have hu := sp_u_lt seed (gs_C (gs g) * i + j)
                refine mu_is_9 B dX12_fill_84 (by decide) rfl ?_
                refine mu_il_9 B dX12_fill_86 ?_
                refine mu_bipush (v := mI 100) B dX12_fill_88 (by decide) ?_
                refine mu_irem B dX12_fill_90 ?_ ?_
                · decide
                rw [mI_rem (by omega) (by omega) (by omega) (by omega)]
                refine mu_il_3 B dX12_fill_91 ?_
                refine mu_icmp_lt (tgt := 99) B dX12_fill_92 (by decide) (fun c92 => ?_) (fun c92 => ?_)
                · try rw [mI_lt ⟨by omega, by omega⟩ ⟨by omega, by omega⟩] at c92
                  refine mu_iconst (v := mI 1) B dX12_fill_99 rfl ?_
                  refine mu_il_9 B dX12_fill_100 ?_
                  refine mu_bipush (v := mI 100) B dX12_fill_102 (by decide) ?_
                  refine mu_idiv B dX12_fill_104 ?_ ?_
                  · decide
                  rw [mI_div (by omega) (by omega) (by omega) (by omega)]
                  refine mu_il_6 B dX12_fill_105 ?_
                  refine mu_iconst (v := mI 1) B dX12_fill_107 rfl ?_
                  refine mu_isub B dX12_fill_108 ?_
                  try rw [mI_sub]
                  rw [show ((rs_S (rs (gs_r (gs g)))) : Int) - 1 = (((rs_S (rs (gs_r (gs g)))) - 1 : Nat) : Int) by omega]
                  refine mu_irem B dX12_fill_109 ?_ ?_
                  · exact mu_ne (by omega) (by omega)
                  rw [mI_rem (by omega) (by omega) (by omega) (by omega)]
                  refine mu_iadd B dX12_fill_110 ?_
                  try rw [mI_add]
                  first | exact K111 _ _ _ (by unfold sp_fv; rw [if_pos (by omega)]; rfl) | exact K111 _ _ _ (by unfold sp_fv; rw [if_neg (by omega)]; simp only [Int.natCast_add, Int.natCast_emod, Int.natCast_ediv]; rfl)
                · try rw [mI_lt ⟨by omega, by omega⟩ ⟨by omega, by omega⟩] at c92
                  refine mu_iconst (v := mI 0) B dX12_fill_95 rfl ?_
                  refine mu_goto (tgt := 111) B dX12_fill_96 (by decide) ?_
                  first | exact K111 _ _ _ (by unfold sp_fv; rw [if_pos (by omega)]; rfl) | exact K111 _ _ _ (by unfold sp_fv; rw [if_neg (by omega)]; simp only [Int.natCast_add, Int.natCast_emod, Int.natCast_ediv]; rfl)
            exact mu_fg (LJ 0 w1 (Nat.zero_le _) ⟨hF, hcl⟩) rfl (⟨Or.inl rfl, Or.inl rfl, Or.inl rfl, Or.inl rfl, Or.inl rfl, Or.inl rfl, Or.inl rfl, Or.inl rfl, Or.inl rfl, Or.inr rfl, Or.inr rfl, trivial⟩)
        refine mu_il_2 B dX12_fill_20 ?_
        refine mu_is_4 B dX12_fill_21 (by decide) rfl ?_
        refine mu_iconst (v := mI 0) B dX12_fill_23 rfl ?_
        refine mu_is_5 B dX12_fill_24 (by decide) rfl ?_
        refine mu_al_0 B dX12_fill_26 ?_
        refine mu_getR B dX12_fill_27 fX12_20 rfl (by assumption) (by assumption) ?_
        refine mu_al_0 B dX12_fill_30 ?_
        refine mu_getR B dX12_fill_31 fX12_93 rfl (by assumption) (by assumption) ?_
        refine mu_il_1 B dX12_fill_34 ?_
        refine mu_iald B dX12_fill_35 (by assumption) (mI_inN (by omega) (by decide)) ?_
        rw [mI_clampN (by omega), g2]
        refine mu_iald B dX12_fill_36 (by assumption) (mI_inN (by omega) (by decide)) ?_
        rw [mI_clampN (by omega), u6.1]
        refine mu_is_6 B dX12_fill_37 (by decide) rfl ?_
        refine mu_iconst (v := mI 0) B dX12_fill_39 rfl ?_
        refine mu_is_7 B dX12_fill_40 (by decide) rfl ?_
        refine mu_fg (LI 0 w (Nat.zero_le _) ⟨mu_Fi.refl _, fun a b ha hb => ?_⟩) rfl (⟨Or.inl rfl, Or.inl rfl, Or.inl rfl, Or.inl rfl, Or.inl rfl, Or.inl rfl, Or.inl rfl, Or.inl rfl, Or.inr rfl, Or.inr rfl, Or.inr rfl, trivial⟩)
        rw [g6 a b ha hb]
        unfold sp_fl
        rw [if_neg (by rw [Nat.mul_zero]; omega)]
      · try rw [mI_le ⟨by omega, by omega⟩ ⟨by omega, by omega⟩] at c15
        refine mu_iconst (v := mI (-1)) B dX12_fill_18 rfl ?_
        refine mu_iret E rfl (by decide) (by decide) dX12_fill_19 ?_
        unfold fl_post
        first | (rw [if_neg (fun hh => z5 hh.1)]; exact ⟨rfl, rfl⟩) | (rw [if_neg (fun hh => by have := hh.2; omega)]; exact ⟨rfl, rfl⟩)
