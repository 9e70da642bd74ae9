/-! ===== the class: is a field another one, moved ===== -/
theorem CMx.lkp {c : Nat → Nat → Nat} {L R U D : Int} {M : Nat} (h : CMx c L R U D M) : ∃ L2 R2 U2 D2, LKP c 256 0 L2 R2 U2 D2 M ∧ (M ≠ 0 → L2 = L ∧ R2 = R ∧ U2 = U ∧ D2 = D) := by
  rcases h with ⟨h1, _, _, _, _, h2⟩ | ⟨h1, h2⟩
  · subst h1; exact ⟨_, _, _, _, h2, fun e => absurd rfl e⟩
  · exact ⟨_, _, _, _, h2, fun _ => ⟨rfl, rfl, rfl, rfl⟩⟩
theorem CMx.all0 {c : Nat → Nat → Nat} (hc : ∀ i j, c i j ≤ 1) {L R U D : Int} {M : Nat} (h : CMx c L R U D M) (hM : M = 0) : L = 0 ∧ R = 0 ∧ U = 0 ∧ D = 0 := by
  subst hM
  have hz := fun i j (hi : i < 256) (hj : j < 256) => h.M0 hc hi hj
  obtain ⟨_, e1, e2, e3, e4⟩ := h.mt hz
  exact ⟨e1, e2, e3, e4⟩
theorem CMx.ord {c : Nat → Nat → Nat} (hc : ∀ i j, c i j ≤ 1) {L R U D : Int} {M : Nat} (h : CMx c L R U D M) : (0 ≤ L ∧ L ≤ R ∧ R < 256) ∧ (0 ≤ U ∧ U ≤ D ∧ D < 256) := by
  by_cases hM : M = 0
  · have := h.all0 hc hM; omega
  · exact h.box hM
theorem CMx.ala {c : Nat → Nat → Nat} {L R U D : Int} {M : Nat} (h : CMx c L R U D M) {x y : Int} (h1 : sp_al 256 256 c x y = 1) : M ≠ 0 ∧ L ≤ x ∧ x ≤ R ∧ U ≤ y ∧ y ≤ D := by
  unfold sp_al at h1
  by_cases q : 0 ≤ x ∧ 0 ≤ y ∧ x < (256 : Nat) ∧ y < (256 : Nat)
  · rw [if_pos q] at h1
    have := h.al (by omega) (by omega) h1
    omega
  · rw [if_neg q] at h1; cases h1
theorem lb_dif {x y : Int64} (h : x ≠ y) : ∃ i, i < 64 ∧ lb x i ≠ lb y i := by
  by_cases q : ∃ i, i < 64 ∧ lb x i ≠ lb y i
  · exact q
  · refine absurd (lb_ext (fun i hi => ?_)) h
    by_cases e : lb x i = lb y i
    · exact e
    · exact absurd ⟨i, hi, e⟩ q
def mvf_post (w : mu_W) (c d : Nat → Nat → Nat) (dx dy : Int) (r : Option Value) (w' : mu_W) : Prop := ((r = some (.int (mI 1)) ∧ sp_mv c d dx dy) ∨ (r = some (.int (mI 0)) ∧ ¬ sp_mvd c d)) ∧ w' = w
/-- equal so far: rows before i, and x cells of row i -/
def MVe (c d : Nat → Nat → Nat) (l u l' u' wd i x : Nat) : Prop := ∀ p q : Nat, p ≤ wd → (q < i ∨ (q = i ∧ p < x)) → c (l + p) (u + q) = d (l' + p) (u' + q)
theorem MVe.word {c d : Nat → Nat → Nat} (hc : ∀ i j, c i j ≤ 1) (hd : ∀ i j, d i j ≤ 1) {l u l' u' wd i k : Nat} (h : MVe c d l u l' u' wd i (64 * k)) (h1 : l + wd < 256) (h2 : l' + wd < 256) (h3 : u + i < 256) (h4 : u' + i < 256) {x : Int64} (ha : WDx c ((l + 64 * k : Nat) : Int) ((u + i : Nat) : Int) x) (hb : WDx d ((l' + 64 * k : Nat) : Int) ((u' + i : Nat) : Int) x) : MVe c d l u l' u' wd i (64 * (k + 1)) := fun p q hp hq => by
  by_cases e : q < i ∨ (q = i ∧ p < 64 * k)
  · exact h p q hp e
  · have eq : q = i := by omega
    subst eq
    have a1 := ha (p - 64 * k) (by omega)
    have b1 := hb (p - 64 * k) (by omega)
    rw [show ((l + 64 * k : Nat) : Int) + ((p - 64 * k : Nat) : Int) = ((l + p : Nat) : Int) by omega, al_in (by omega) (by omega)] at a1
    rw [show ((l' + 64 * k : Nat) : Int) + ((p - 64 * k : Nat) : Int) = ((l' + p : Nat) : Int) by omega, al_in (by omega) (by omega)] at b1
    have e2 := decide_eq_decide.mp (a1.symm.trans b1)
    have := hc (l + p) (u + q)
    have := hd (l' + p) (u' + q)
    omega

set_option maxHeartbeats 4000000 in
set_option maxRecDepth 100000 in
theorem c_X1_isMovedFrom (G : mu_G) {w : mu_W} {a : Nat} (ho : CFo w a) {c : Nat → Nat → Nat} (hb : CFb w a c) {L R U D : Int} {M : Nat} (hm : CFm w a L R U D M) (hx : CMx c L R U D M) {a2 : Nat} (ho2 : CFo w a2) {d : Nat → Nat → Nat} (hb2 : CFb w a2 d) {L2 R2 U2 D2 : Int} {M2 : Nat} (hm2 : CFm w a2 L2 R2 U2 D2 M2) (hx2 : CMx d L2 R2 U2 D2 M2) : mu_Ct G M_X1_isMovedFrom [.ref a, .ref a2] w (mvf_post w c d (L - L2) (U - U2)) := by
  obtain ⟨ka, r0, k1, r1, k2⟩ := id ho
  have kc := ho2.1
  have bd1 := hx.bd hb.1
  have bd2 := hx2.bd hb2.1
  have od1 := hx.ord hb.1
  have od2 := hx2.ord hb2.1
  unfold CBd at bd1 bd2
  obtain ⟨l, hl⟩ : ∃ n : Nat, L = n := ⟨L.toNat, by omega⟩
  obtain ⟨u, hu⟩ : ∃ n : Nat, U = n := ⟨U.toNat, by omega⟩
  obtain ⟨l2, hl2⟩ : ∃ n : Nat, L2 = n := ⟨L2.toNat, by omega⟩
  obtain ⟨u2, hu2⟩ : ∃ n : Nat, U2 = n := ⟨U2.toNat, by omega⟩
  subst hl hu hl2 hu2
  refine mu_ofWA G M_X1_isMovedFrom [.ref a, .ref a2, mu_no, mu_no] (by decide) rfl (Nat.le_of_ble_eq_true rfl) ?_
  intro X E
  have B : mu_B X G cX1_isMovedFrom RX1 4 (mu_rm M_X1_isMovedFrom) := E.1
  show mu_WA X G 4 _ _ 0 0 0 _ []
  refine mu_al_0 B dX1_isMovedFrom_0 ?_
  refine mu_getI B dX1_isMovedFrom_1 fX1_46 rfl ka ?_
  rw [hm.1]
  refine mu_al_1 B dX1_isMovedFrom_4 ?_
  refine mu_getI B dX1_isMovedFrom_5 fX1_46 rfl kc ?_
  rw [hm2.1]
  refine mu_icmp_ne (tgt := 53) B dX1_isMovedFrom_8 (by decide) (fun c8 => ?_) (fun c8 => ?_)
  · try rw [mI_eq ⟨by omega, by omega⟩ ⟨by omega, by omega⟩] at c8
    refine mu_iconst (v := mI 0) B dX1_isMovedFrom_53 rfl ?_
    refine mu_zret E rfl (by decide) (by decide) dX1_isMovedFrom_54 (by decide) ?_
    refine ⟨Or.inr ⟨rfl, ?_⟩, rfl⟩
    obtain ⟨A1, A2, A3, A4, hA, hA2⟩ := hx.lkp
    obtain ⟨B1, B2, B3, B4, hB, hB2⟩ := hx2.lkp
    by_cases eM : M2 = M
    · have hM9 : M ≠ 0 ∧ M2 ≠ 0 := by
        by_cases e0 : M = 0
        · have := hx.all0 hb.1 e0
          have := hx2.all0 hb2.1 (by omega)
          omega
        · omega
      have hA3 := hA2 hM9.1
      have hB3 := hB2 hM9.2
      exact mv_no hA hB (Or.inr ⟨hM9.1, by omega⟩)
    · exact mv_no hA hB (Or.inl eM)
  · try rw [mI_eq ⟨by omega, by omega⟩ ⟨by omega, by omega⟩] at c8
    refine mu_al_0 B dX1_isMovedFrom_11 ?_
    refine mu_getI B dX1_isMovedFrom_12 fX1_55 rfl ka ?_
    rw [hm.2.2.2.1]
    refine mu_al_0 B dX1_isMovedFrom_15 ?_
    refine mu_getI B dX1_isMovedFrom_16 fX1_49 rfl ka ?_
    rw [hm.2.1]
    refine mu_isub B dX1_isMovedFrom_19 ?_
    try rw [mI_sub]
    refine mu_al_1 B dX1_isMovedFrom_20 ?_
    refine mu_getI B dX1_isMovedFrom_21 fX1_55 rfl kc ?_
    rw [hm2.2.2.2.1]
    refine mu_al_1 B dX1_isMovedFrom_24 ?_
    refine mu_getI B dX1_isMovedFrom_25 fX1_49 rfl kc ?_
    rw [hm2.2.1]
    refine mu_isub B dX1_isMovedFrom_28 ?_
    try rw [mI_sub]
    refine mu_icmp_ne (tgt := 53) B dX1_isMovedFrom_29 (by decide) (fun c29 => ?_) (fun c29 => ?_)
    · try rw [mI_eq ⟨by omega, by omega⟩ ⟨by omega, by omega⟩] at c29
      refine mu_iconst (v := mI 0) B dX1_isMovedFrom_53 rfl ?_
      refine mu_zret E rfl (by decide) (by decide) dX1_isMovedFrom_54 (by decide) ?_
      refine ⟨Or.inr ⟨rfl, ?_⟩, rfl⟩
      obtain ⟨A1, A2, A3, A4, hA, hA2⟩ := hx.lkp
      obtain ⟨B1, B2, B3, B4, hB, hB2⟩ := hx2.lkp
      by_cases eM : M2 = M
      · have hM9 : M ≠ 0 ∧ M2 ≠ 0 := by
          by_cases e0 : M = 0
          · have := hx.all0 hb.1 e0
            have := hx2.all0 hb2.1 (by omega)
            omega
          · omega
        have hA3 := hA2 hM9.1
        have hB3 := hB2 hM9.2
        exact mv_no hA hB (Or.inr ⟨hM9.1, by omega⟩)
      · exact mv_no hA hB (Or.inl eM)
    · try rw [mI_eq ⟨by omega, by omega⟩ ⟨by omega, by omega⟩] at c29
      refine mu_al_0 B dX1_isMovedFrom_32 ?_
      refine mu_getI B dX1_isMovedFrom_33 fX1_58 rfl ka ?_
      rw [hm.2.2.2.2]
      refine mu_al_0 B dX1_isMovedFrom_36 ?_
      refine mu_getI B dX1_isMovedFrom_37 fX1_52 rfl ka ?_
      rw [hm.2.2.1]
      refine mu_isub B dX1_isMovedFrom_40 ?_
      try rw [mI_sub]
      refine mu_al_1 B dX1_isMovedFrom_41 ?_
      refine mu_getI B dX1_isMovedFrom_42 fX1_58 rfl kc ?_
      rw [hm2.2.2.2.2]
      refine mu_al_1 B dX1_isMovedFrom_45 ?_
      refine mu_getI B dX1_isMovedFrom_46 fX1_52 rfl kc ?_
      rw [hm2.2.2.1]
      refine mu_isub B dX1_isMovedFrom_49 ?_
      try rw [mI_sub]
      refine mu_icmp_eq (tgt := 55) B dX1_isMovedFrom_50 (by decide) (fun c50 => ?_) (fun c50 => ?_)
      · try rw [mI_eq ⟨by omega, by omega⟩ ⟨by omega, by omega⟩] at c50
        try rw [mI_eq ⟨by omega, by omega⟩ ⟨by omega, by omega⟩] at c50
        have eM : M = M2 := by omega
        obtain ⟨wd, hwd⟩ : ∃ n : Nat, R - (l : Int) = n := ⟨(R - (l : Int)).toNat, by omega⟩
        obtain ⟨hd, hhd⟩ : ∃ n : Nat, D - (u : Int) = n := ⟨(D - (u : Int)).toNat, by omega⟩
        refine mu_iconst (v := mI 0) B dX1_isMovedFrom_55 rfl ?_
        refine mu_is_2 B dX1_isMovedFrom_56 (by decide) rfl ?_
        have LI : ∀ i (uu : Unit), i ≤ hd + 1 → (MVe c d l u l2 u2 wd i 0) → mu_WA X G 4 (mu_Q X G M_X1_isMovedFrom (mvf_post w c d ((l : Int) - (l2 : Int)) ((u : Int) - (u2 : Int)))) w 0 0 57 [.ref a, .ref a2, .int (mI i), mu_no] [] := by
          refine mu_ind (hd + 1) (fun i (uu : Unit) => mu_WA X G 4 (mu_Q X G M_X1_isMovedFrom (mvf_post w c d ((l : Int) - (l2 : Int)) ((u : Int) - (u2 : Int)))) w 0 0 57 [.ref a, .ref a2, .int (mI i), mu_no] []) (fun i (uu : Unit) => MVe c d l u l2 u2 wd i 0) ?_
          intro i uu hi hi9 ih
          refine mu_il_2 B dX1_isMovedFrom_57 ?_
          refine mu_al_0 B dX1_isMovedFrom_58 ?_
          refine mu_getI B dX1_isMovedFrom_59 fX1_58 rfl ka ?_
          rw [hm.2.2.2.2]
          refine mu_al_0 B dX1_isMovedFrom_62 ?_
          refine mu_getI B dX1_isMovedFrom_63 fX1_52 rfl ka ?_
          rw [hm.2.2.1]
          refine mu_isub B dX1_isMovedFrom_66 ?_
          try rw [mI_sub]
          refine mu_icmp_gt (tgt := 135) B dX1_isMovedFrom_67 (by decide) (fun c67 => ?_) (fun c67 => ?_)
          · try rw [mI_lt ⟨by omega, by omega⟩ ⟨by omega, by omega⟩] at c67
            try rw [mI_lt ⟨by omega, by omega⟩ ⟨by omega, by omega⟩] at c67
            obtain rfl : hd + 1 = i := by omega
            refine mu_iconst (v := mI 1) B dX1_isMovedFrom_135 rfl ?_
            refine mu_zret E rfl (by decide) (by decide) dX1_isMovedFrom_136 (by decide) ?_
            refine ⟨Or.inl ⟨rfl, ?_⟩, rfl⟩
            obtain ⟨A1, A2, A3, A4, hA, hA2⟩ := hx.lkp
            obtain ⟨B1, B2, B3, B4, hB, hB2⟩ := hx2.lkp
            subst eM
            refine ⟨A1, A2, A3, A4, B1, B2, B3, B4, _, hA, hB, ?_⟩
            by_cases e0 : M = 0
            · have := hx.all0 hb.1 e0
              have := hx2.all0 hb2.1 e0
              exact Or.inl ⟨e0, by omega, by omega⟩
            · have hA3 := hA2 e0
              have hB3 := hB2 e0
              refine Or.inr ⟨e0, by omega, by omega, fun p q hp hq => ?_, by omega, by omega⟩
              rw [show A1.toNat = l by omega, show A3.toNat = u by omega, show B1.toNat = l2 by omega, show B3.toNat = u2 by omega]
              exact hi9 p q (by omega) (Or.inl (by omega))
          · try rw [mI_lt ⟨by omega, by omega⟩ ⟨by omega, by omega⟩] at c67
            refine mu_iconst (v := mI 0) B dX1_isMovedFrom_70 rfl ?_
            refine mu_is_3 B dX1_isMovedFrom_71 (by decide) rfl ?_
            have LJ : ∀ k (uu : Unit), k ≤ wd / 64 + 1 → (MVe c d l u l2 u2 wd i (64 * k)) → mu_WA X G 4 (mu_Q X G M_X1_isMovedFrom (mvf_post w c d ((l : Int) - (l2 : Int)) ((u : Int) - (u2 : Int)))) w 0 0 72 [.ref a, .ref a2, .int (mI i), .int (mI ((64 * k : Nat) : Int))] [] := by
              refine mu_ind (wd / 64 + 1) (fun k (uu : Unit) => mu_WA X G 4 (mu_Q X G M_X1_isMovedFrom (mvf_post w c d ((l : Int) - (l2 : Int)) ((u : Int) - (u2 : Int)))) w 0 0 72 [.ref a, .ref a2, .int (mI i), .int (mI ((64 * k : Nat) : Int))] []) (fun k (uu : Unit) => MVe c d l u l2 u2 wd i (64 * k)) ?_
              intro k uu hk hj ihk
              refine mu_il_3 B dX1_isMovedFrom_72 ?_
              refine mu_al_0 B dX1_isMovedFrom_73 ?_
              refine mu_getI B dX1_isMovedFrom_74 fX1_55 rfl ka ?_
              rw [hm.2.2.2.1]
              refine mu_al_0 B dX1_isMovedFrom_77 ?_
              refine mu_getI B dX1_isMovedFrom_78 fX1_49 rfl ka ?_
              rw [hm.2.1]
              refine mu_isub B dX1_isMovedFrom_81 ?_
              try rw [mI_sub]
              refine mu_icmp_gt (tgt := 129) B dX1_isMovedFrom_82 (by decide) (fun c82 => ?_) (fun c82 => ?_)
              · try rw [mI_lt ⟨by omega, by omega⟩ ⟨by omega, by omega⟩] at c82
                try rw [mI_lt ⟨by omega, by omega⟩ ⟨by omega, by omega⟩] at c82
                refine mu_inc_2 (c := mI 1) B dX1_isMovedFrom_129 rfl (by decide) rfl ?_
                try rw [mI_add]
                refine mu_goto (tgt := 57) B dX1_isMovedFrom_132 (by decide) ?_
                refine mu_fg (ih () (by omega) (fun p q hp hq => ?_)) rfl (by rw [show ((i + 1 : Nat) : Int) = (i : Int) + 1 by omega]; exact ⟨Or.inl rfl, Or.inl rfl, Or.inl rfl, Or.inr rfl, trivial⟩)
                exact hj p q hp (by omega)
              · try rw [mI_lt ⟨by omega, by omega⟩ ⟨by omega, by omega⟩] at c82
                refine mu_al_0 B dX1_isMovedFrom_85 ?_
                refine mu_al_0 B dX1_isMovedFrom_86 ?_
                refine mu_getI B dX1_isMovedFrom_87 fX1_49 rfl ka ?_
                rw [hm.2.1]
                refine mu_il_3 B dX1_isMovedFrom_90 ?_
                refine mu_iadd B dX1_isMovedFrom_91 ?_
                try rw [mI_add]
                try rw [mI_add]
                rw [show (l : Int) + ((64 * k : Nat) : Int) = ((l + 64 * k : Nat) : Int) by omega]
                refine mu_al_0 B dX1_isMovedFrom_92 ?_
                refine mu_getI B dX1_isMovedFrom_93 fX1_52 rfl ka ?_
                rw [hm.2.2.1]
                refine mu_il_2 B dX1_isMovedFrom_96 ?_
                refine mu_iadd B dX1_isMovedFrom_97 ?_
                try rw [mI_add]
                try rw [mI_add]
                rw [show (u : Int) + (i : Int) = ((u + i : Nat) : Int) by omega]
                refine mu_cV2 B dX1_isMovedFrom_98 mX1_99 ⟨⟨by decide, by decide⟩, by decide, by decide⟩ (Nat.le_of_ble_eq_true rfl) ka (c_X1_window G ho hb (p := l + 64 * k) (by omega) (y := ((u + i : Nat) : Int)) ⟨by omega, by omega⟩) (fun r98 w98 q98 => ?_)
                obtain ⟨⟨d1, rfl, hd1⟩, rfl⟩ := q98
                show mu_WA X G 4 _ _ 0 0 101 _ [.long d1]
                refine mu_al_1 B dX1_isMovedFrom_101 ?_
                refine mu_al_1 B dX1_isMovedFrom_102 ?_
                refine mu_getI B dX1_isMovedFrom_103 fX1_49 rfl kc ?_
                rw [hm2.2.1]
                refine mu_il_3 B dX1_isMovedFrom_106 ?_
                refine mu_iadd B dX1_isMovedFrom_107 ?_
                try rw [mI_add]
                try rw [mI_add]
                rw [show (l2 : Int) + ((64 * k : Nat) : Int) = ((l2 + 64 * k : Nat) : Int) by omega]
                refine mu_al_1 B dX1_isMovedFrom_108 ?_
                refine mu_getI B dX1_isMovedFrom_109 fX1_52 rfl kc ?_
                rw [hm2.2.2.1]
                refine mu_il_2 B dX1_isMovedFrom_112 ?_
                refine mu_iadd B dX1_isMovedFrom_113 ?_
                try rw [mI_add]
                try rw [mI_add]
                rw [show (u2 : Int) + (i : Int) = ((u2 + i : Nat) : Int) by omega]
                refine mu_cV2 B dX1_isMovedFrom_114 mX1_99 ⟨⟨by decide, by decide⟩, by decide, by decide⟩ (Nat.le_of_ble_eq_true rfl) kc (c_X1_window G ho2 hb2 (p := l2 + 64 * k) (by omega) (y := ((u2 + i : Nat) : Int)) ⟨by omega, by omega⟩) (fun r114 w114 q114 => ?_)
                obtain ⟨⟨d2, rfl, hd2⟩, rfl⟩ := q114
                show mu_WA X G 4 _ _ 0 0 117 _ [.long d2, .long d1]
                refine mu_lcmp B dX1_isMovedFrom_117 ?_
                refine mu_if_eq (tgt := 123) B dX1_isMovedFrom_118 (by decide) (fun c118 => ?_) (fun c118 => ?_)
                · rw [lg_cmp_eq] at c118
                  subst c118
                  refine mu_inc_3 (c := mI 64) B dX1_isMovedFrom_123 rfl (by decide) rfl ?_
                  try rw [mI_add]
                  refine mu_goto (tgt := 72) B dX1_isMovedFrom_126 (by decide) ?_
                  refine mu_to (ihk () (by omega) (hj.word hb.1 hb2.1 (by omega) (by omega) (by omega) (by omega) hd1 hd2)) rfl (by rw [show ((64 * (k + 1) : Nat) : Int) = ((64 * k : Nat) : Int) + 64 by omega])
                · rw [lg_cmp_eq] at c118
                  refine mu_iconst (v := mI 0) B dX1_isMovedFrom_121 rfl ?_
                  refine mu_zret E rfl (by decide) (by decide) dX1_isMovedFrom_122 (by decide) ?_
                  refine ⟨Or.inr ⟨rfl, ?_⟩, rfl⟩
                  obtain ⟨bt, hbt, hbd⟩ := lb_dif c118
                  rw [hd1 bt hbt, hd2 bt hbt] at hbd
                  have hor : sp_al 256 256 c (((l + 64 * k : Nat) : Int) + (bt : Int)) ((u + i : Nat) : Int) = 1 ∨ sp_al 256 256 d (((l2 + 64 * k : Nat) : Int) + (bt : Int)) ((u2 + i : Nat) : Int) = 1 := by
                    by_cases g1 : sp_al 256 256 c (((l + 64 * k : Nat) : Int) + (bt : Int)) ((u + i : Nat) : Int) = 1
                    · exact Or.inl g1
                    · by_cases g2 : sp_al 256 256 d (((l2 + 64 * k : Nat) : Int) + (bt : Int)) ((u2 + i : Nat) : Int) = 1
                      · exact Or.inr g2
                      · exact absurd (by rw [decide_eq_false g1, decide_eq_false g2]) hbd
                  have hMp : M ≠ 0 ∧ 64 * k + bt ≤ wd := by
                    rcases hor with g | g
                    · have := hx.ala g; omega
                    · have := hx2.ala g; omega
                  obtain ⟨A1, A2, A3, A4, hA, hA2⟩ := hx.lkp
                  obtain ⟨B1, B2, B3, B4, hB, hB2⟩ := hx2.lkp
                  have hA3 := hA2 hMp.1
                  have hB3 := hB2 (by omega)
                  refine mv_no hA hB (Or.inr ⟨hMp.1, Or.inr (Or.inr ⟨64 * k + bt, i, by omega, by omega, fun g => ?_⟩)⟩)
                  rw [show A1.toNat = l by omega, show A3.toNat = u by omega, show B1.toNat = l2 by omega, show B3.toNat = u2 by omega] at g
                  rw [show ((l + 64 * k : Nat) : Int) + (bt : Int) = ((l + (64 * k + bt) : Nat) : Int) by omega, al_in (by omega) (by omega), show ((l2 + 64 * k : Nat) : Int) + (bt : Int) = ((l2 + (64 * k + bt) : Nat) : Int) by omega, al_in (by omega) (by omega), g] at hbd
                  exact hbd rfl
            exact LJ 0 () (by omega) (fun p q hp hq => hi9 p q hp (by omega))
        exact LI 0 () (by omega) (fun p q hp hq => by omega)
      · try rw [mI_eq ⟨by omega, by omega⟩ ⟨by omega, by omega⟩] at c50
        refine mu_iconst (v := mI 0) B dX1_isMovedFrom_53 rfl ?_
        refine mu_zret E rfl (by decide) (by decide) dX1_isMovedFrom_54 (by decide) ?_
        refine ⟨Or.inr ⟨rfl, ?_⟩, rfl⟩
        obtain ⟨A1, A2, A3, A4, hA, hA2⟩ := hx.lkp
        obtain ⟨B1, B2, B3, B4, hB, hB2⟩ := hx2.lkp
        by_cases eM : M2 = M
        · have hM9 : M ≠ 0 ∧ M2 ≠ 0 := by
            by_cases e0 : M = 0
            · have := hx.all0 hb.1 e0
              have := hx2.all0 hb2.1 (by omega)
              omega
            · omega
          have hA3 := hA2 hM9.1
          have hB3 := hB2 hM9.2
          exact mv_no hA hB (Or.inr ⟨hM9.1, by omega⟩)
        · exact mv_no hA hB (Or.inl eM)
