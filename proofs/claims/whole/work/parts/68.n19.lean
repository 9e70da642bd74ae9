/-! ===== the text of a field: its rows ===== -/
def mB (l : List Nat) : List Int32 := l.map (fun n : Nat => mI (n : Int))
theorem mB_app (l l' : List Nat) : mB (l ++ l') = mB l ++ mB l' := List.map_append
theorem mB_len (l : List Nat) : (mB l).length = l.length := List.length_map _
theorem mB_get (l : List Nat) (k : Nat) (h : k < l.length) : (mB l).getD k 0 = mI ((l.getD k 0 : Nat) : Int) := by
  rw [List.getD_eq_getElem?_getD, List.getD_eq_getElem?_getD]
  unfold mB
  rw [List.getElem?_map, List.getElem?_eq_getElem h]; rfl
theorem rowC_run {c : Nat → Nat → Nat} {y last v n : Nat} (hn : n ≤ last + 1) (he : n = last + 1 ∨ c n y ≠ v) : ∀ (k x st : Nat), x + k + 1 = n → st ≤ x → (∀ j, x ≤ j → j < n → c j y = v) → rowC c y (last + 1 - x) x st = runB (n - st) (if v = 1 then 111 else 98) ++ rowC c y (last + 1 - n) n n
  | 0, x, st, hk, hst, h => by
    have hv := h x (Nat.le_refl _) (by omega)
    rw [show last + 1 - x = (last + 1 - n) + 1 by omega, rowC_emit (by rw [hv, show x + 1 = n by omega]; omega), hv, show x + 1 = n by omega]
  | k + 1, x, st, hk, hst, h => by
    have hv := h x (Nat.le_refl _) (by omega)
    have hv1 := h (x + 1) (by omega) (by omega)
    rw [show last + 1 - x = (last + 1 - (x + 1)) + 1 by omega, rowC_on (by rw [hv, hv1]; omega)]
    exact rowC_run hn he k (x + 1) st (by omega) (by omega) (fun j h1 h2 => h j (by omega) h2)
def wr_post (w : mu_W) (b : Nat) (i : Int) (p : Nat) (x : Int32) (row : List Nat) (r : Option Value) (w' : mu_W) : Prop := r = none ∧ mu_Fi (ftS b) w w' ∧ ∃ p' v', FTx w' b i p' v' ∧ p' ≤ p + row.length ∧ ∀ l', ftw i p' v' l' = ftw i p x (mB row ++ l')
/-- a row is written up to column z -/
def WRp (w : mu_W) (b : Nat) (i : Int) (p : Nat) (x : Int32) (row rem : List Nat) (s : mu_W) (p' : Nat) (v' : Int32) : Prop := mu_Fi (ftS b) w s ∧ FTx s b i p' v' ∧ p' + rem.length ≤ p + row.length ∧ ∀ l', ftw i p' v' (mB rem ++ l') = ftw i p x (mB row ++ l')
theorem ed_last {c : Nat → Nat → Nat} {y z : Nat} (hz : z < 256) (h1 : c z y = 1) (h2 : ∀ j, z < j → j < 256 → c j y = 0) : ed c y 256 = (z : Int) := by
  rw [ed_same (a := z + 1) (b := 256) (by omega) (fun j h3 h4 => by rw [h2 j (by omega) h4]; decide), ed, if_pos h1]
theorem ed_none {c : Nat → Nat → Nat} {y : Nat} (h : ∀ j, j < 256 → c j y = 0) : ed c y 256 = -1 := by
  rw [ed_same (a := 0) (b := 256) (by omega) (fun j h3 h4 => by rw [h j h4]; decide), ed]

set_option maxHeartbeats 4000000 in
set_option maxRecDepth 100000 in
theorem c_X2_writeRow (G : mu_G) {w : mu_W} {a : Nat} (ho : CFo w a) {c : Nat → Nat → Nat} (hb : CFb w a c) {L R U D : Int} {M : Nat} (hm : CFm w a L R U D M) {l : Nat} (hl : L = (l : Int)) {b : Nat} {i : Int} (hi : mi_ok i) {p : Nat} (hp : p ≤ 1000000) {x0 : Int32} (hf0 : FTx w b i p x0) {y z : Nat} (hy : y < 256) (hz : z < 256) (hlz : l ≤ z) : mu_Ct G M_X2_writeRow [.ref b, .ref a, .int (mI y), .int (mI z)] w (wr_post w b i p x0 (rowC c y (z + 1 - l) l l)) := by
  obtain ⟨ka, r0, k1, r1, k2⟩ := id ho
  obtain ⟨hi1, hi2⟩ := id hi
  have nfb : ∀ j, ¬ ftS b (a + 1) j := fun j hh => by have h9 := hf0.1; rw [← hh.1, k1] at h9; cases h9
  refine mu_ofWA G M_X2_writeRow [.ref b, .ref a, .int (mI y), .int (mI z), mu_no, mu_no, mu_no] (by decide) rfl (Nat.le_of_ble_eq_true rfl) ?_
  intro X E
  have B : mu_B X G cX2_writeRow RX2 7 (mu_rm M_X2_writeRow) := E.1
  have LX : ∀ q : mu_W × Nat, (q.2 ≤ z + 1 ∧ l ≤ q.2 ∧ ∃ p1 v1, WRp w b i p x0 (rowC c y (z + 1 - l) l l) (rowC c y (z + 1 - q.2) q.2 q.2) q.1 p1 v1) → mu_WA X G 7 (mu_Q X G M_X2_writeRow (wr_post w b i p x0 (rowC c y (z + 1 - l) l l))) q.1 0 0 6 [.ref b, .ref a, .int (mI y), .int (mI z), .int (mI (q.2 : Nat)), mu_no, mu_no] [] := by
    refine mu_wf (fun q : mu_W × Nat => z + 1 - q.2) (fun q => mu_WA X G 7 (mu_Q X G M_X2_writeRow (wr_post w b i p x0 (rowC c y (z + 1 - l) l l))) q.1 0 0 6 [.ref b, .ref a, .int (mI y), .int (mI z), .int (mI (q.2 : Nat)), mu_no, mu_no] []) (fun q => (q.2 ≤ z + 1 ∧ l ≤ q.2 ∧ ∃ p1 v1, WRp w b i p x0 (rowC c y (z + 1 - l) l l) (rowC c y (z + 1 - q.2) q.2 q.2) q.1 p1 v1)) ?_
    intro ⟨s, x⟩ ⟨hx, hlx, p1, v1, hFs, hf, hN, hT⟩ ih
    dsimp only at hx hlx hFs hf hN hT ih ⊢
    have hos := ho.fi hFs
    have hbs := hb.fi hFs nfb
    have kb := hf.1
    have hRl := rowC_le c y (z + 1 - l) l l (Nat.le_refl _)
    have hRx := rowC_le c y (z + 1 - x) x x (Nat.le_refl _)
    refine mu_il_4 B dX2_writeRow_6 ?_
    refine mu_il_3 B dX2_writeRow_8 ?_
    refine mu_icmp_gt (tgt := 91) B dX2_writeRow_9 (by decide) (fun c9 => ?_) (fun c9 => ?_)
    · try rw [mI_lt ⟨by omega, by omega⟩ ⟨by omega, by omega⟩] at c9
      try rw [mI_lt ⟨by omega, by omega⟩ ⟨by omega, by omega⟩] at c9
      obtain rfl : z + 1 = x := by omega
      refine mu_vret E rfl (by decide) (by decide) dX2_writeRow_91 ?_
      refine ⟨rfl, hFs, p1, v1, hf, by omega, fun l9 => ?_⟩
      rw [← hT, Nat.sub_self]; rfl
    · try rw [mI_lt ⟨by omega, by omega⟩ ⟨by omega, by omega⟩] at c9
      refine mu_al_0 B dX2_writeRow_12 ?_
      refine mu_getI B dX2_writeRow_13 fX2_13 rfl (by assumption) ?_
      rw [hf.2.2.1]
      refine mu_al_0 B dX2_writeRow_16 ?_
      refine mu_getI B dX2_writeRow_17 fX2_7 rfl (by assumption) ?_
      rw [hf.2.1]
      refine mu_icmp_gt (tgt := 91) B dX2_writeRow_20 (by decide) (fun c20 => ?_) (fun c20 => ?_)
      · try rw [mI_lt ⟨by omega, by omega⟩ ⟨by omega, by omega⟩] at c20
        try rw [mI_lt ⟨by omega, by omega⟩ ⟨by omega, by omega⟩] at c20
        refine mu_vret E rfl (by decide) (by decide) dX2_writeRow_91 ?_
        refine ⟨rfl, hFs, p1, v1, hf, by omega, fun l9 => ?_⟩
        rw [← hT, ftw_out i l9 p1 v1 (Or.inl (by omega)), ftw_out i _ p1 v1 (Or.inl (by omega))]
      · try rw [mI_lt ⟨by omega, by omega⟩ ⟨by omega, by omega⟩] at c20
        have K81 : ∀ n, x < n → n ≤ z + 1 → (∀ j, x ≤ j → j < n → c j y = c x y) → (n = z + 1 ∨ c n y ≠ c x y) → ∀ zz : Int32, zz = mI (((if c x y = 1 then 111 else 98 : Nat) : Nat) : Int) → mu_WA X G 7 (mu_Q X G M_X2_writeRow (wr_post w b i p x0 (rowC c y (z + 1 - l) l l))) s 0 0 81 [.ref b, .ref a, .int (mI y), .int (mI z), .int (mI x), .int (mI ((c x y : Nat) : Int)), .int (mI n)] [.int zz, .int (mI ((n - x : Nat) : Int)), .ref b] := by
          intro n hn1 hn2 hsame hend zz hzz
          refine mu_cV2 B dX2_writeRow_81 mX2_31 ⟨⟨by decide, by decide⟩, by decide, by decide⟩ (Nat.le_of_ble_eq_true rfl) hf.1 (c_X2_writeRun G hi (by omega) hf (t := n - x) (by omega)) (fun r81 w81 q81 => ?_)
          obtain ⟨rfl, hF1, hf1⟩ := q81
          refine mu_il_6 B dX2_writeRow_84 ?_
          refine mu_is_4 B dX2_writeRow_86 (by decide) rfl ?_
          refine mu_goto (tgt := 6) B dX2_writeRow_88 (by decide) ?_
          have hrun := rowC_run (c := c) (y := y) (last := z) (v := c x y) (n := n) (by omega) hend (n - x - 1) x x (by omega) (Nat.le_refl _) hsame
          have hlet : mB (rowC c y (z + 1 - x) x x) = rnI (n - x) zz ++ mB (rowC c y (z + 1 - n) n n) := by
            rw [hrun, mB_app, hzz, rnI_map (by omega)]; rfl
          have hll : (rowC c y (z + 1 - x) x x).length = (rnI (n - x) zz).length + (rowC c y (z + 1 - n) n n).length := by
            rw [← mB_len, hlet, List.length_append, mB_len]
          refine mu_fg (ih (w81, n) ⟨by omega, by omega, _, _, hFs.trans hF1, hf1, (by show _ + (rowC c y (z + 1 - n) n n).length ≤ _; omega), fun l9 => ?_⟩ (by show z + 1 - n < z + 1 - x; omega)) rfl ⟨Or.inl rfl, Or.inl rfl, Or.inl rfl, Or.inl rfl, Or.inl rfl, Or.inr rfl, Or.inr rfl, trivial⟩
          rw [← hT, hlet, List.append_assoc, ftw_append i (rnI (n - x) zz)]
        have K62 : ∀ n, x < n → n ≤ z + 1 → (∀ j, x ≤ j → j < n → c j y = c x y) → (n = z + 1 ∨ c n y ≠ c x y) → mu_WA X G 7 (mu_Q X G M_X2_writeRow (wr_post w b i p x0 (rowC c y (z + 1 - l) l l))) s 0 0 62 [.ref b, .ref a, .int (mI y), .int (mI z), .int (mI x), .int (mI ((c x y : Nat) : Int)), .int (mI n)] [] := by
          intro n hn1 hn2 hsame hend
          have hc1 := hb.1 x y
          refine mu_al_0 B dX2_writeRow_62 ?_
          refine mu_il_6 B dX2_writeRow_63 ?_
          refine mu_il_4 B dX2_writeRow_65 ?_
          refine mu_isub B dX2_writeRow_67 ?_
          try rw [mI_sub]
          try rw [mI_sub]
          rw [show (n : Int) - (x : Int) = ((n - x : Nat) : Int) by omega]
          refine mu_il_5 B dX2_writeRow_68 ?_
          refine mu_iconst (v := mI 1) B dX2_writeRow_70 rfl ?_
          refine mu_icmp_ne (tgt := 79) B dX2_writeRow_71 (by decide) (fun c71 => ?_) (fun c71 => ?_)
          · try rw [mI_eq ⟨by omega, by omega⟩ ⟨by omega, by omega⟩] at c71
            refine mu_bipush (v := mI 98) B dX2_writeRow_79 (by decide) ?_
            have hc9 : c x y = 1 ∨ c x y ≠ 1 := by omega
            refine K81 n hn1 hn2 hsame hend _ (by first | rw [if_pos (by omega)]; rfl | rw [if_neg (by omega)]; rfl)
          · try rw [mI_eq ⟨by omega, by omega⟩ ⟨by omega, by omega⟩] at c71
            refine mu_bipush (v := mI 111) B dX2_writeRow_74 (by decide) ?_
            refine mu_goto (tgt := 81) B dX2_writeRow_76 (by decide) ?_
            have hc9 : c x y = 1 ∨ c x y ≠ 1 := by omega
            refine K81 n hn1 hn2 hsame hend _ (by first | rw [if_pos (by omega)]; rfl | rw [if_neg (by omega)]; rfl)
        have LN : ∀ n (uu : Unit), n ≤ z + 1 → (x < n ∧ ∀ j, x ≤ j → j < n → c j y = c x y) → mu_WA X G 7 (mu_Q X G M_X2_writeRow (wr_post w b i p x0 (rowC c y (z + 1 - l) l l))) s 0 0 38 [.ref b, .ref a, .int (mI y), .int (mI z), .int (mI x), .int (mI ((c x y : Nat) : Int)), .int (mI n)] [] := by
          refine mu_ind (z + 1) (fun n (uu : Unit) => mu_WA X G 7 (mu_Q X G M_X2_writeRow (wr_post w b i p x0 (rowC c y (z + 1 - l) l l))) s 0 0 38 [.ref b, .ref a, .int (mI y), .int (mI z), .int (mI x), .int (mI ((c x y : Nat) : Int)), .int (mI n)] []) (fun n (uu : Unit) => x < n ∧ ∀ j, x ≤ j → j < n → c j y = c x y) ?_
          intro n uu hn hsm ihn
          refine mu_il_6 B dX2_writeRow_38 ?_
          refine mu_il_3 B dX2_writeRow_40 ?_
          refine mu_icmp_gt (tgt := 62) B dX2_writeRow_41 (by decide) (fun c41 => ?_) (fun c41 => ?_)
          · try rw [mI_lt ⟨by omega, by omega⟩ ⟨by omega, by omega⟩] at c41
            try rw [mI_lt ⟨by omega, by omega⟩ ⟨by omega, by omega⟩] at c41
            exact K62 n (by omega) hn hsm.2 (Or.inl (by omega))
          · try rw [mI_lt ⟨by omega, by omega⟩ ⟨by omega, by omega⟩] at c41
            refine mu_al_1 B dX2_writeRow_44 ?_
            refine mu_il_6 B dX2_writeRow_45 ?_
            refine mu_il_2 B dX2_writeRow_47 ?_
            refine mu_eV2 B dX2_writeRow_48 mX2_46 ⟨⟨by decide, by decide⟩, by decide, by decide⟩ (Nat.le_of_ble_eq_true rfl) hos.1 (c_X1_look G hos hbs (x := (n : Int)) (y := (y : Int)) ⟨by omega, by omega⟩ ⟨by omega, by omega⟩) ?_
            rw [al_in (by omega) (by omega)]
            refine mu_il_5 B dX2_writeRow_51 ?_
            refine mu_icmp_ne (tgt := 62) B dX2_writeRow_53 (by decide) (fun c53 => ?_) (fun c53 => ?_)
            · try rw [mI_eq ⟨by omega, by omega⟩ ⟨by omega, by omega⟩] at c53
              have hc1 := hb.1 n y
              have hc2 := hb.1 x y
              try rw [mI_eq ⟨by omega, by omega⟩ ⟨by omega, by omega⟩] at c53
              exact K62 n (by omega) hn hsm.2 (Or.inr (by omega))
            · try rw [mI_eq ⟨by omega, by omega⟩ ⟨by omega, by omega⟩] at c53
              have hc1 := hb.1 n y
              have hc2 := hb.1 x y
              try rw [mI_eq ⟨by omega, by omega⟩ ⟨by omega, by omega⟩] at c53
              refine mu_inc_6 (c := mI 1) B dX2_writeRow_56 rfl (by decide) rfl ?_
              try rw [mI_add]
              refine mu_goto (tgt := 38) B dX2_writeRow_59 (by decide) ?_
              refine mu_to (ihn () (by omega) ⟨by omega, fun j h1 h2 => ?_⟩) rfl (by rw [show ((n + 1 : Nat) : Int) = (n : Int) + 1 by omega])
              by_cases e9 : j = n
              · rw [e9]; omega
              · exact hsm.2 j h1 (by omega)
        refine mu_al_1 B dX2_writeRow_23 ?_
        refine mu_il_4 B dX2_writeRow_24 ?_
        refine mu_il_2 B dX2_writeRow_26 ?_
        refine mu_eV2 B dX2_writeRow_27 mX2_46 ⟨⟨by decide, by decide⟩, by decide, by decide⟩ (Nat.le_of_ble_eq_true rfl) hos.1 (c_X1_look G hos hbs (x := (x : Int)) (y := (y : Int)) ⟨by omega, by omega⟩ ⟨by omega, by omega⟩) ?_
        rw [al_in (by omega) (by omega)]
        refine mu_is_5 B dX2_writeRow_30 (by decide) rfl ?_
        refine mu_il_4 B dX2_writeRow_32 ?_
        refine mu_iconst (v := mI 1) B dX2_writeRow_34 rfl ?_
        refine mu_iadd B dX2_writeRow_35 ?_
        try rw [mI_add]
        try rw [mI_add]
        rw [show (x : Int) + 1 = ((x + 1 : Nat) : Int) by omega]
        refine mu_is_6 B dX2_writeRow_36 (by decide) rfl ?_
        exact LN (x + 1) () (by omega) ⟨by omega, fun j h1 h2 => by rw [show j = x by omega]⟩
  show mu_WA X G 7 _ _ 0 0 0 _ []
  refine mu_al_1 B dX2_writeRow_0 ?_
  refine mu_getIN B dX2_writeRow_1 fX2_43 rfl (by assumption) ?_
  rw [hm.2.1, hl]
  refine mu_is_4 B dX2_writeRow_4 (by decide) rfl ?_
  exact LX (w, l) ⟨by omega, Nat.le_refl _, p, x0, mu_Fi.refl _, hf0, Nat.le_refl _, fun _ => rfl⟩
