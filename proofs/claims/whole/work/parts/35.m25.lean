/-! ===== the text of a field ===== -/
def runB (n c : Nat) : List Nat := (if 99 < n then [48 + n / 100] else []) ++ ((if 9 < n then [48 + n / 10 % 10] else []) ++ ((if 1 < n then [48 + n % 10] else []) ++ [c]))
theorem runB_len (n c : Nat) : (runB n c).length = (if 99 < n then 1 else 0) + (if 9 < n then 1 else 0) + (if 1 < n then 1 else 0) + 1 := by
  unfold runB
  by_cases h1 : 99 < n
  · rw [if_pos h1, if_pos h1, if_pos (show 9 < n by omega), if_pos (show 9 < n by omega), if_pos (show 1 < n by omega), if_pos (show 1 < n by omega)]; rfl
  · rw [if_neg h1, if_neg h1]
    by_cases h2 : 9 < n
    · rw [if_pos h2, if_pos h2, if_pos (show 1 < n by omega), if_pos (show 1 < n by omega)]; rfl
    · rw [if_neg h2, if_neg h2]
      by_cases h3 : 1 < n
      · rw [if_pos h3, if_pos h3]; rfl
      · rw [if_neg h3, if_neg h3]; rfl
theorem runB_le {n : Nat} (c : Nat) (h : 1 ≤ n) : (runB n c).length ≤ n := by
  rw [runB_len]
  by_cases h1 : 99 < n
  · rw [if_pos h1, if_pos (show 9 < n by omega), if_pos (show 1 < n by omega)]; omega
  · rw [if_neg h1]
    by_cases h2 : 9 < n
    · rw [if_pos h2, if_pos (show 1 < n by omega)]; omega
    · rw [if_neg h2]
      by_cases h3 : 1 < n
      · rw [if_pos h3]; omega
      · rw [if_neg h3]; omega
theorem runB_le4 (n c : Nat) : (runB n c).length ≤ 4 := by
  rw [runB_len]
  split <;> split <;> split <;> omega
/-- the last alive cell of a row, before x -/
def ed (c : Nat → Nat → Nat) (y : Nat) : Nat → Int
  | 0 => -1
  | x + 1 => if c x y = 1 then (x : Int) else ed c y x
theorem ed_bd (c : Nat → Nat → Nat) (y : Nat) : ∀ x, -1 ≤ ed c y x ∧ ed c y x < x ∧ (0 ≤ ed c y x → c (ed c y x).toNat y = 1)
  | 0 => ⟨by rw [ed]; omega, by rw [ed]; omega, fun h => by rw [ed] at h; omega⟩
  | x + 1 => by
    obtain ⟨h1, h2, h3⟩ := ed_bd c y x
    rw [ed]
    by_cases h : c x y = 1
    · rw [if_pos h]; exact ⟨by omega, by omega, fun _ => h⟩
    · rw [if_neg h]; exact ⟨h1, by omega, h3⟩
theorem ed_same {c : Nat → Nat → Nat} {y a : Nat} : ∀ {b : Nat}, a ≤ b → (∀ x, a ≤ x → x < b → c x y ≠ 1) → ed c y b = ed c y a
  | 0, h, _ => by rw [show a = 0 by omega]
  | b + 1, h, hn => by
    by_cases e : a = b + 1
    · rw [e]
    · rw [ed, if_neg (hn b (by omega) (by omega))]
      exact ed_same (by omega) (fun x h1 h2 => hn x h1 (by omega))
/-- a row's runs: at x, the run began at st; f cells are left -/
def rowC (c : Nat → Nat → Nat) (y : Nat) : Nat → Nat → Nat → List Nat
  | 0, _, _ => []
  | f + 1, x, st => if f = 0 ∨ c (x + 1) y ≠ c x y then runB (x + 1 - st) (if c x y = 1 then 111 else 98) ++ rowC c y f (x + 1) (x + 1) else rowC c y f (x + 1) st
theorem rowC_le (c : Nat → Nat → Nat) (y : Nat) : ∀ f x st, st ≤ x → (rowC c y f x st).length ≤ f + (x - st)
  | 0, _, _, _ => Nat.zero_le _
  | f + 1, x, st, h => by
    rw [rowC]
    by_cases q : f = 0 ∨ c (x + 1) y ≠ c x y
    · rw [if_pos q, List.length_append]
      have h1 := runB_le (n := x + 1 - st) (if c x y = 1 then 111 else 98) (by omega)
      have h2 := rowC_le c y f (x + 1) (x + 1) (Nat.le_refl _)
      omega
    · rw [if_neg q]
      have := rowC_le c y f (x + 1) st (by omega)
      omega
/-- the rows from y on, f of them; the row before is last -/
def txR (c : Nat → Nat → Nat) (L : Nat) : Nat → Nat → Int → List Nat
  | 0, _, _ => [33]
  | f + 1, y, la => if ed c y 256 < 0 then txR c L f (y + 1) la else (if 0 ≤ la then runB ((y : Int) - la).toNat 36 else []) ++ (rowC c y ((ed c y 256).toNat + 1 - L) L L ++ txR c L f (y + 1) y)
theorem txR_le (c : Nat → Nat → Nat) (L : Nat) : ∀ f y la, (txR c L f y la).length ≤ 260 * f + 1
  | 0, _, _ => Nat.le_refl _
  | f + 1, y, la => by
    rw [txR]
    by_cases h : ed c y 256 < 0
    · rw [if_pos h]
      have := txR_le c L f (y + 1) la
      omega
    · rw [if_neg h, List.length_append, List.length_append]
      have h1 := txR_le c L f (y + 1) y
      have h2 := rowC_le c y ((ed c y 256).toNat + 1 - L) L L (Nat.le_refl _)
      have h3 := ed_bd c y 256
      have h4 : (if 0 ≤ la then runB ((y : Int) - la).toNat 36 else []).length ≤ 4 := by
        by_cases q : 0 ≤ la
        · rw [if_pos q]; exact runB_le4 _ _
        · rw [if_neg q]; decide
      omega
/-- the text -/
def spT (c : Nat → Nat → Nat) (L U D : Int) (M : Nat) : List Nat := if M = 0 then [33] else txR c L.toNat (D.toNat + 1 - U.toNat) U.toNat (-1)
def sy_S (m : Nat) : Nat → Nat → Prop := fun q j => (q = m ∧ j = 28) ∨ q = m + 16
def TX (w : mu_W) (m : Nat) (l : List Nat) : Prop := mu_iv w m 28 = mI l.length ∧ ∀ k, k < l.length → mu_iv w (m + 16) k = mI (l.getD k 0)
theorem TX.add {w : mu_W} {m : Nat} {l : List Nat} {c : Nat} (h : TX w m l) : TX (mu_si (mu_si w (m + 16) l.length (mI c)) m 28 (mI ((l.length + 1 : Nat) : Int))) m (l ++ [c]) := ⟨by rw [mu_iv_same, List.length_append]; rfl, fun k hk => by
  rw [mu_iv_oth _ _ (by omega)]
  rw [List.length_append] at hk
  replace hk : k < l.length + 1 := hk
  by_cases e : k = l.length
  · rw [e, mu_iv_same]
    simp [List.getD]
  · rw [mu_iv_oth _ _ (by omega), h.2 k (by omega)]
    rw [List.getD_eq_getElem?_getD, List.getD_eq_getElem?_getD, List.getElem?_append_left (by omega)]⟩
theorem TX.fi {S : Nat → Nat → Prop} {w w' : mu_W} {m : Nat} {l : List Nat} (h : TX w m l) (hF : mu_Fi S w w') (h1 : ¬ S m 28) (h2 : ∀ j, ¬ S (m + 16) j) : TX w' m l := ⟨hF.iv h1 h.1, fun k hk => hF.iv (h2 _) (h.2 k hk)⟩
theorem mb128 {c : Nat} (h : c < 128) : (mI (c : Int)).toInt8.toInt32 = mI c := mb_lo c h
def sy_post (w : mu_W) (m : Nat) (l : List Nat) (r : Option Value) (w' : mu_W) : Prop := r = none ∧ mu_Fi (sy_S m) w w' ∧ TX w' m l

set_option maxHeartbeats 4000000 in
set_option maxRecDepth 100000 in
theorem c_X12_say (G : mu_G) {w : mu_W} {m : Nat} (hm : mo_ok w m) {l : List Nat} (hl : TX w m l) (hl2 : l.length < 140000) {c : Nat} (hc : c < 128) : mu_Ct G M_X12_say [.ref m, .int (mI c)] w (sy_post w m (l ++ [c])) := by
  have hk0 := hm.1
  obtain ⟨r27, k27⟩ := mo_27 hm
  refine mu_ofWA G M_X12_say [.ref m, .int (mI c)] (by decide) rfl (Nat.le_of_ble_eq_true rfl) ?_
  intro X E
  have B : mu_B X G cX12_say RX12 2 (mu_rm M_X12_say) := E.1
  show mu_WA X G 2 _ _ 0 0 0 _ []
  refine mu_al_0 B dX12_say_0 ?_
  refine mu_getR B dX12_say_1 fX12_59 rfl (by assumption) (by assumption) ?_
  refine mu_al_0 B dX12_say_4 ?_
  refine mu_getI B dX12_say_5 fX12_240 rfl (by assumption) ?_
  rw [hl.1]
  refine mu_il_1 B dX12_say_8 ?_
  refine mu_i2b B dX12_say_9 rfl ?_
  rw [mb128 hc]
  refine mu_bast B dX12_say_10 (by assumption) (mI_inN (by omega) (by decide)) ?_
  rw [mI_clampN (by omega), mb128 hc]
  refine mu_al_0 B dX12_say_11 ?_
  refine mu_dup B dX12_say_12 rfl ?_
  refine mu_getI B dX12_say_13 fX12_240 rfl (by assumption) ?_
  rw [mu_iv_oth _ _ (by omega), hl.1]
  refine mu_iconst (v := mI 1) B dX12_say_16 rfl ?_
  refine mu_iadd B dX12_say_17 ?_
  try rw [mI_add]
  refine mu_putI B dX12_say_18 fX12_240 fwX12_28 rfl (by assumption) ?_
  rw [show (l.length : Int) + 1 = ((l.length + 1 : Nat) : Int) by omega]
  refine mu_vret E rfl (by decide) (by decide) dX12_say_21 ?_
  exact ⟨rfl, ((mu_Fi.refl _).si (Or.inr rfl)).si (Or.inl ⟨rfl, rfl⟩), hl.add⟩

theorem sayI (G : mu_G) {w : mu_W} {m : Nat} (hm : mo_ok w m) {l : List Nat} (hl : TX w m l) (hl2 : l.length < 140000) {x : Int} (c : Nat) (hx : x = c) (hc : c < 128) : mu_Ct G M_X12_say [.ref m, .int (mI x)] w (sy_post w m (l ++ [c])) := by
  subst hx
  exact c_X12_say G hm hl hl2 hc

theorem ifl_len {p : Prop} [Decidable p] {a : Nat} : (if p then [a] else []).length ≤ 1 := by
  by_cases h : p
  · rw [if_pos h]; exact Nat.le_refl _
  · rw [if_neg h]; exact Nat.zero_le _

set_option maxHeartbeats 4000000 in
set_option maxRecDepth 100000 in
theorem c_X12_sayRun (G : mu_G) {w : mu_W} {m : Nat} (hm : mo_ok w m) {l : List Nat} (hl : TX w m l) (hl2 : l.length + 4 ≤ 140000) {n c : Nat} (hn : n < 1000) (hc : c < 128) : mu_Ct G M_X12_sayRun [.ref m, .int (mI n), .int (mI c)] w (sy_post w m (l ++ runB n c)) := by
  have hk0 := hm.1
  refine mu_ofWA G M_X12_sayRun [.ref m, .int (mI n), .int (mI c)] (by decide) rfl (Nat.le_of_ble_eq_true rfl) ?_
  intro X E
  have B : mu_B X G cX12_sayRun RX12 3 (mu_rm M_X12_sayRun) := E.1
  have J3 : ∀ s : mu_W, mu_Fi (sy_S m) w s → TX s m (l ++ (if 99 < n then [48 + n / 100] else []) ++ (if 9 < n then [48 + n / 10 % 10] else []) ++ (if 1 < n then [48 + n % 10] else [])) → mu_WA X G 3 (mu_Q X G M_X12_sayRun (sy_post w m (l ++ runB n c))) s 0 0 53 [.ref m, .int (mI n), .int (mI c)] [] := by
    intro s hF hT
    have hm1 := hm.fi hF
    have hk1 := hm1.1
    have e07 := ifl_len (p := 99 < n) (a := 48 + n / 100)
    have e17 := ifl_len (p := 9 < n) (a := 48 + n / 10 % 10)
    have e27 := ifl_len (p := 1 < n) (a := 48 + n % 10)
    have hlen : (l ++ (if 99 < n then [48 + n / 100] else []) ++ (if 9 < n then [48 + n / 10 % 10] else []) ++ (if 1 < n then [48 + n % 10] else [])).length ≤ l.length + 3 := by simp only [List.length_append]; omega
    refine mu_al_0 B dX12_sayRun_53 ?_
    refine mu_il_2 B dX12_sayRun_54 ?_
    refine mu_cV1 B dX12_sayRun_55 mX12_243 ⟨⟨by decide, by decide⟩, by decide, by decide⟩ (Nat.le_of_ble_eq_true rfl) (by assumption) (sayI G hm1 hT (by omega) (c) (by omega) (by omega)) (fun r55 w55 q55 => ?_)
    obtain ⟨rfl, hF2, hT2⟩ := q55
    show mu_WA X G 3 _ w55 0 0 58 _ []
    refine mu_vret E rfl (by decide) (by decide) dX12_sayRun_58 ?_
    refine ⟨rfl, hF.trans hF2, ?_⟩
    have e9 : l ++ runB n c = l ++ (if 99 < n then [48 + n / 100] else []) ++ (if 9 < n then [48 + n / 10 % 10] else []) ++ (if 1 < n then [48 + n % 10] else []) ++ [c] := by unfold runB; simp only [List.append_assoc]
    rw [e9]
    exact hT2
  have J2 : ∀ s : mu_W, mu_Fi (sy_S m) w s → TX s m (l ++ (if 99 < n then [48 + n / 100] else []) ++ (if 9 < n then [48 + n / 10 % 10] else [])) → mu_WA X G 3 (mu_Q X G M_X12_sayRun (sy_post w m (l ++ runB n c))) s 0 0 37 [.ref m, .int (mI n), .int (mI c)] [] := by
    intro s hF hT
    have hm1 := hm.fi hF
    have hk1 := hm1.1
    have e07 := ifl_len (p := 99 < n) (a := 48 + n / 100)
    have e17 := ifl_len (p := 9 < n) (a := 48 + n / 10 % 10)
    have hlen : (l ++ (if 99 < n then [48 + n / 100] else []) ++ (if 9 < n then [48 + n / 10 % 10] else [])).length ≤ l.length + 2 := by simp only [List.length_append]; omega
    refine mu_il_1 B dX12_sayRun_37 ?_
    refine mu_iconst (v := mI 1) B dX12_sayRun_38 rfl ?_
    refine mu_icmp_le (tgt := 53) B dX12_sayRun_39 (by decide) (fun c39 => ?_) (fun c39 => ?_)
    · try rw [mI_le ⟨by omega, by omega⟩ ⟨by omega, by omega⟩] at c39
      first
        | exact J3 _ (hF.trans hF2) (by rw [if_pos (show 1 < n by omega)]; exact hT2)
        | exact J3 _ hF (by rw [if_neg (show ¬ 1 < n by omega), List.append_nil]; exact hT)
    · try rw [mI_le ⟨by omega, by omega⟩ ⟨by omega, by omega⟩] at c39
      refine mu_al_0 B dX12_sayRun_42 ?_
      refine mu_bipush (v := mI 48) B dX12_sayRun_43 (by decide) ?_
      refine mu_il_1 B dX12_sayRun_45 ?_
      refine mu_bipush (v := mI 10) B dX12_sayRun_46 (by decide) ?_
      refine mu_irem B dX12_sayRun_48 ?_ ?_
      · decide
      rw [mI_rem (by omega) (by omega) (by omega) (by omega)]
      refine mu_iadd B dX12_sayRun_49 ?_
      try rw [mI_add]
      refine mu_cV1 B dX12_sayRun_50 mX12_243 ⟨⟨by decide, by decide⟩, by decide, by decide⟩ (Nat.le_of_ble_eq_true rfl) (by assumption) (sayI G hm1 hT (by omega) (48 + n % 10) (by omega) (by omega)) (fun r50 w50 q50 => ?_)
      obtain ⟨rfl, hF2, hT2⟩ := q50
      show mu_WA X G 3 _ w50 0 0 53 _ []
      first
        | exact J3 _ (hF.trans hF2) (by rw [if_pos (show 1 < n by omega)]; exact hT2)
        | exact J3 _ hF (by rw [if_neg (show ¬ 1 < n by omega), List.append_nil]; exact hT)
  have J1 : ∀ s : mu_W, mu_Fi (sy_S m) w s → TX s m (l ++ (if 99 < n then [48 + n / 100] else [])) → mu_WA X G 3 (mu_Q X G M_X12_sayRun (sy_post w m (l ++ runB n c))) s 0 0 17 [.ref m, .int (mI n), .int (mI c)] [] := by
    intro s hF hT
    have hm1 := hm.fi hF
    have hk1 := hm1.1
    have e07 := ifl_len (p := 99 < n) (a := 48 + n / 100)
    have hlen : (l ++ (if 99 < n then [48 + n / 100] else [])).length ≤ l.length + 1 := by simp only [List.length_append]; omega
    refine mu_il_1 B dX12_sayRun_17 ?_
    refine mu_bipush (v := mI 9) B dX12_sayRun_18 (by decide) ?_
    refine mu_icmp_le (tgt := 37) B dX12_sayRun_20 (by decide) (fun c20 => ?_) (fun c20 => ?_)
    · try rw [mI_le ⟨by omega, by omega⟩ ⟨by omega, by omega⟩] at c20
      first
        | exact J2 _ (hF.trans hF2) (by rw [if_pos (show 9 < n by omega)]; exact hT2)
        | exact J2 _ hF (by rw [if_neg (show ¬ 9 < n by omega), List.append_nil]; exact hT)
    · try rw [mI_le ⟨by omega, by omega⟩ ⟨by omega, by omega⟩] at c20
      refine mu_al_0 B dX12_sayRun_23 ?_
      refine mu_bipush (v := mI 48) B dX12_sayRun_24 (by decide) ?_
      refine mu_il_1 B dX12_sayRun_26 ?_
      refine mu_bipush (v := mI 10) B dX12_sayRun_27 (by decide) ?_
      refine mu_idiv B dX12_sayRun_29 ?_ ?_
      · decide
      rw [mI_div (by omega) (by omega) (by omega) (by omega)]
      refine mu_bipush (v := mI 10) B dX12_sayRun_30 (by decide) ?_
      refine mu_irem B dX12_sayRun_32 ?_ ?_
      · decide
      rw [mI_rem (by omega) (by omega) (by omega) (by omega)]
      refine mu_iadd B dX12_sayRun_33 ?_
      try rw [mI_add]
      refine mu_cV1 B dX12_sayRun_34 mX12_243 ⟨⟨by decide, by decide⟩, by decide, by decide⟩ (Nat.le_of_ble_eq_true rfl) (by assumption) (sayI G hm1 hT (by omega) (48 + n / 10 % 10) (by omega) (by omega)) (fun r34 w34 q34 => ?_)
      obtain ⟨rfl, hF2, hT2⟩ := q34
      show mu_WA X G 3 _ w34 0 0 37 _ []
      first
        | exact J2 _ (hF.trans hF2) (by rw [if_pos (show 9 < n by omega)]; exact hT2)
        | exact J2 _ hF (by rw [if_neg (show ¬ 9 < n by omega), List.append_nil]; exact hT)
  show mu_WA X G 3 _ _ 0 0 0 _ []
  refine mu_il_1 B dX12_sayRun_0 ?_
  refine mu_bipush (v := mI 99) B dX12_sayRun_1 (by decide) ?_
  refine mu_icmp_le (tgt := 17) B dX12_sayRun_3 (by decide) (fun c3 => ?_) (fun c3 => ?_)
  · try rw [mI_le ⟨by omega, by omega⟩ ⟨by omega, by omega⟩] at c3
    first
      | exact J1 _ hF2 (by rw [if_pos (by omega)]; exact hT2)
      | exact J1 _ (mu_Fi.refl _) (by rw [if_neg (by omega), List.append_nil]; exact hl)
  · try rw [mI_le ⟨by omega, by omega⟩ ⟨by omega, by omega⟩] at c3
    refine mu_al_0 B dX12_sayRun_6 ?_
    refine mu_bipush (v := mI 48) B dX12_sayRun_7 (by decide) ?_
    refine mu_il_1 B dX12_sayRun_9 ?_
    refine mu_bipush (v := mI 100) B dX12_sayRun_10 (by decide) ?_
    refine mu_idiv B dX12_sayRun_12 ?_ ?_
    · decide
    rw [mI_div (by omega) (by omega) (by omega) (by omega)]
    refine mu_iadd B dX12_sayRun_13 ?_
    try rw [mI_add]
    refine mu_cV1 B dX12_sayRun_14 mX12_243 ⟨⟨by decide, by decide⟩, by decide, by decide⟩ (Nat.le_of_ble_eq_true rfl) (by assumption) (sayI G hm hl (by omega) (48 + n / 100) (by omega) (by omega)) (fun r14 w14 q14 => ?_)
    obtain ⟨rfl, hF2, hT2⟩ := q14
    show mu_WA X G 3 _ w14 0 0 17 _ []
    first
      | exact J1 _ hF2 (by rw [if_pos (by omega)]; exact hT2)
      | exact J1 _ (mu_Fi.refl _) (by rw [if_neg (by omega), List.append_nil]; exact hl)

theorem sayRunI (G : mu_G) {w : mu_W} {m : Nat} (hm : mo_ok w m) {l : List Nat} (hl : TX w m l) (hl2 : l.length + 4 ≤ 140000) {x y : Int} (n c : Nat) (hx : x = n) (hy : y = c) (hn : n < 1000) (hc : c < 128) : mu_Ct G M_X12_sayRun [.ref m, .int (mI x), .int (mI y)] w (sy_post w m (l ++ runB n c)) := by
  subst hx hy
  exact c_X12_sayRun G hm hl hl2 hn hc
def spl_S (m : Nat) : Nat → Nat → Prop := fun q j => (q = m ∧ ((19 ≤ j ∧ j ≤ 23) ∨ j = 28)) ∨ q = m + 16
def spl_post (w : mu_W) (m : Nat) (c : Nat → Nat → Nat) (r : Option Value) (w' : mu_W) : Prop := r = none ∧ mu_Fi (spl_S m) w w' ∧ ∃ (L R U D : Int) (M : Nat), LKP c 256 0 L R U D M ∧ TX w' m (spT c L U D M) ∧ (spT c L U D M).length ≤ 66561
theorem sy_spl {m : Nat} {w w' : mu_W} (h : mu_Fi (sy_S m) w w') : mu_Fi (spl_S m) w w' := h.mono (fun q j hh => by unfold sy_S at hh; unfold spl_S; omega)
theorem rowC_emit {c : Nat → Nat → Nat} {y f x st : Nat} (h : f = 0 ∨ c (x + 1) y ≠ c x y) : rowC c y (f + 1) x st = runB (x + 1 - st) (if c x y = 1 then 111 else 98) ++ rowC c y f (x + 1) (x + 1) := by rw [rowC, if_pos h]
theorem rowC_on {c : Nat → Nat → Nat} {y f x st : Nat} (h : ¬ (f = 0 ∨ c (x + 1) y ≠ c x y)) : rowC c y (f + 1) x st = rowC c y f (x + 1) st := by rw [rowC, if_neg h]
theorem txR_no {c : Nat → Nat → Nat} {L f y : Nat} {la : Int} (h : ed c y 256 < 0) : txR c L (f + 1) y la = txR c L f (y + 1) la := by rw [txR, if_pos h]
theorem txR_row {c : Nat → Nat → Nat} {L f y : Nat} {la : Int} (h : ¬ ed c y 256 < 0) : txR c L (f + 1) y la = (if 0 ≤ la then runB ((y : Int) - la).toNat 36 else []) ++ (rowC c y ((ed c y 256).toNat + 1 - L) L L ++ txR c L f (y + 1) y) := by rw [txR, if_neg h]

theorem lkp_bd {c : Nat → Nat → Nat} {L R U D : Int} {M : Nat} (h : LKP c 256 0 L R U D M) (hM : M ≠ 0) : (0 ≤ L ∧ L ≤ R ∧ R < 256) ∧ (0 ≤ U ∧ U ≤ D ∧ D < 256) := by
  have h4 := (h.2.2.2 hM).1
  omega

set_option maxHeartbeats 4000000 in
set_option maxRecDepth 100000 in
theorem c_X12_spell (G : mu_G) {w : mu_W} {m : Nat} (hm : mo_ok w m) {f : Nat} (hf : f < 8) {c : Nat → Nat → Nat} (hB : Bd w (m + 9) 524288 (65536 * f) 256 256 c) : mu_Ct G M_X12_spell [.ref m, .int (mI f)] w (fun r w' => spl_post w m c r w') := by
  have hk0 := hm.1
  obtain ⟨r14, k14⟩ := mo_14 hm
  have hc01 := hB.2.2.2.2
  refine mu_ofWA G M_X12_spell [.ref m, .int (mI f), mu_no, mu_no, mu_no, mu_no, mu_no, mu_no, mu_no] (by decide) rfl (Nat.le_of_ble_eq_true rfl) ?_
  intro X E
  have B : mu_B X G cX12_spell RX12 9 (mu_rm M_X12_spell) := E.1
  show mu_WA X G 9 _ _ 0 0 0 _ []
  refine mu_al_0 B dX12_spell_0 ?_
  refine mu_iconst (v := mI 0) B dX12_spell_1 rfl ?_
  refine mu_putI B dX12_spell_2 fX12_240 fwX12_28 rfl (by assumption) ?_
  refine mu_ldc B kX12_45 dX12_spell_5 ?_
  refine mu_il_1 B dX12_spell_7 ?_
  refine mu_imul B dX12_spell_8 ?_
  try rw [mI_mul]
  try rw [mI_mul]
  rw [show (65536 : Int) * (f : Int) = ((65536 * f : Nat) : Int) by omega]
  refine mu_is_2 B dX12_spell_9 (by decide) rfl ?_
  have hF0 : mu_Fi (spl_S m) w (mu_si w m 28 (mI 0)) := (mu_Fi.refl _).si (Or.inl ⟨rfl, Or.inr rfl⟩)
  refine mu_al_0 B dX12_spell_10 ?_
  refine mu_al_0 B dX12_spell_11 ?_
  refine mu_getR B dX12_spell_12 fX12_36 rfl (by assumption) (by assumption) ?_
  refine mu_il_2 B dX12_spell_15 ?_
  refine mu_cV2 B dX12_spell_16 mX12_204 ⟨⟨by decide, by decide⟩, by decide, by decide⟩ (Nat.le_of_ble_eq_true rfl) (by assumption) (c_X12_look G (w := mu_si w m 28 (mI 0)) hm (hB.fi (hF0) (fun j => by unfold spl_S; omega))) (fun r16 w16 q16 => ?_)
  obtain ⟨rfl, L, R, U, D, M, hLKP, hlk, hFl⟩ := q16
  have hF : mu_Fi (spl_S m) w w16 := hF0.trans (hFl.mono (fun q j hh => by unfold lk_S at hh; unfold spl_S; omega))
  have hm1 := hm.fi hF
  have hk1 := hm1.1
  have hT0 : TX w16 m [] := ⟨(hFl.2.2.2 _ _ (by unfold lk_S; omega)).1.trans (mu_iv_same _ _ _ _), fun k hk => absurd hk (Nat.not_lt_zero k)⟩
  show mu_WA X G 9 _ w16 0 0 19 _ []
  refine mu_iconst (v := mI (-1)) B dX12_spell_19 rfl ?_
  refine mu_is_3 B dX12_spell_20 (by decide) rfl ?_
  by_cases hM : M = 0
  · subst hM
    obtain ⟨rfl, rfl, rfl, rfl⟩ := hLKP.2.2.1 rfl
    refine mu_al_0 B dX12_spell_21 ?_
    refine mu_getI B dX12_spell_22 fX12_195 rfl (by assumption) ?_
    rw [hlk.2.2.1]
    refine mu_is_4 B dX12_spell_25 (by decide) rfl ?_
    refine mu_il_4 B dX12_spell_27 ?_
    refine mu_al_0 B dX12_spell_29 ?_
    refine mu_getI B dX12_spell_30 fX12_198 rfl (by assumption) ?_
    rw [hlk.2.2.2.1]
    refine mu_icmp_gt (tgt := 223) B dX12_spell_33 (by decide) (fun c33 => ?_) (fun c33 => ?_)
    · try rw [mI_lt ⟨by omega, by omega⟩ ⟨by omega, by omega⟩] at c33
      refine mu_al_0 B dX12_spell_223 ?_
      refine mu_bipush (v := mI 33) B dX12_spell_224 (by decide) ?_
      refine mu_cV1 B dX12_spell_226 mX12_243 ⟨⟨by decide, by decide⟩, by decide, by decide⟩ (Nat.le_of_ble_eq_true rfl) (by assumption) (sayI G hm1 hT0 (by decide) 33 rfl (by decide)) (fun r226 w226 q226 => ?_)
      obtain ⟨rfl, hF2, hT2⟩ := q226
      show mu_WA X G 9 _ w226 0 0 229 _ []
      refine mu_vret E rfl (by decide) (by decide) dX12_spell_229 ?_
      exact ⟨rfl, hF.trans (sy_spl hF2), 256, -1, 256, -1, 0, hLKP, hT2, by show ([33] : List Nat).length ≤ 66561; decide⟩
    · try rw [mI_lt ⟨by omega, by omega⟩ ⟨by omega, by omega⟩] at c33
      exfalso
      omega
  · have hbd := hLKP.bd
    obtain ⟨q1, q2⟩ : (0 ≤ L ∧ L ≤ R ∧ R < 256) ∧ (0 ≤ U ∧ U ≤ D ∧ D < 256) := lkp_bd hLKP hM
    obtain ⟨Ln, hLn⟩ : ∃ n : Nat, L = n := ⟨L.toNat, by omega⟩
    obtain ⟨Rn, hRn⟩ : ∃ n : Nat, R = n := ⟨R.toNat, by omega⟩
    obtain ⟨Un, hUn⟩ : ∃ n : Nat, U = n := ⟨U.toNat, by omega⟩
    obtain ⟨Dn, hDn⟩ : ∃ n : Nat, D = n := ⟨D.toNat, by omega⟩
    subst hLn hRn hUn hDn
    have hbox : ∀ i j, i < 256 → j < 256 → c i j = 1 → Ln ≤ i ∧ i ≤ Rn ∧ Un ≤ j ∧ j ≤ Dn := fun i j hi hj h => by have := hLKP.2.1 i j hi (Or.inl hj) h; omega
    obtain ⟨T, hTd⟩ : ∃ T, spT c (Ln : Int) (Un : Int) (Dn : Int) M = T := ⟨_, rfl⟩
    have hTe : T = txR c Ln (Dn + 1 - Un) Un (-1) := by rw [← hTd]; unfold spT; rw [if_neg hM, Int.toNat_natCast, Int.toNat_natCast, Int.toNat_natCast]
    have htot : T.length ≤ 66561 := by rw [hTe]; have := txR_le c Ln (Dn + 1 - Un) Un (-1); omega
    have LY : ∀ y (s : Int × mu_W × List Nat), y ≤ Dn + 1 → (Un ≤ y ∧ (mu_Fi (spl_S m) w s.2.1 ∧ lk_F s.2.1 m (Ln : Int) (Rn : Int) (Un : Int) (Dn : Int) M ∧ TX s.2.1 m s.2.2 ∧ s.2.2 ++ txR c Ln (Dn + 1 - y) y s.1 = T ∧ (s.1 = -1 ∨ (0 ≤ s.1 ∧ s.1 < (y : Int))))) → mu_WA X G 9 (mu_Q X G M_X12_spell (spl_post w m c)) s.2.1 0 0 27 [.ref m, .int (mI f), .int (mI ((65536 * f : Nat) : Int)), .int (mI (s.1)), .int (mI y), mu_no, mu_no, mu_no, mu_no] [] := by
      have L9 := mu_ind (Dn + 1) (fun y (s : Int × mu_W × List Nat) => Un ≤ y → mu_WA X G 9 (mu_Q X G M_X12_spell (spl_post w m c)) s.2.1 0 0 27 [.ref m, .int (mI f), .int (mI ((65536 * f : Nat) : Int)), .int (mI (s.1)), .int (mI y), mu_no, mu_no, mu_no, mu_no] []) (fun y (s : Int × mu_W × List Nat) => mu_Fi (spl_S m) w s.2.1 ∧ lk_F s.2.1 m (Ln : Int) (Rn : Int) (Un : Int) (Dn : Int) M ∧ TX s.2.1 m s.2.2 ∧ s.2.2 ++ txR c Ln (Dn + 1 - y) y s.1 = T ∧ (s.1 = -1 ∨ (0 ≤ s.1 ∧ s.1 < (y : Int)))) ?_
      · intro y s h1 h2; exact L9 y s h1 h2.2 h2.1
      rintro y ⟨la, s, l⟩ hy ⟨hF, hlk, hT, hTT, hla⟩ ihy hlo
      dsimp only at hF hlk hT hTT hla ihy ⊢
      have hm1 := hm.fi hF
      have hk1 := hm1.1
      obtain ⟨r14, k14⟩ := mo_14 hm1
      have hB1 := hB.fi hF (fun j => by unfold spl_S; omega)
      refine mu_il_4 B dX12_spell_27 ?_
      refine mu_al_0 B dX12_spell_29 ?_
      refine mu_getI B dX12_spell_30 fX12_198 rfl (by assumption) ?_
      rw [hlk.2.2.2.1]
      refine mu_icmp_gt (tgt := 223) B dX12_spell_33 (by decide) (fun c33 => ?_) (fun c33 => ?_)
      · try rw [mI_lt ⟨by omega, by omega⟩ ⟨by omega, by omega⟩] at c33
        obtain rfl : Dn + 1 = y := by omega
        rw [Nat.sub_self, txR] at hTT
        have hLn : l.length + 1 ≤ 66561 := by rw [← hTT] at htot; simp only [List.length_append] at htot; exact htot
        refine mu_al_0 B dX12_spell_223 ?_
        refine mu_bipush (v := mI 33) B dX12_spell_224 (by decide) ?_
        refine mu_cV1 B dX12_spell_226 mX12_243 ⟨⟨by decide, by decide⟩, by decide, by decide⟩ (Nat.le_of_ble_eq_true rfl) (by assumption) (sayI G hm1 hT (by omega) 33 rfl (by decide)) (fun r226 w226 q226 => ?_)
        obtain ⟨rfl, hF2, hT2⟩ := q226
        show mu_WA X G 9 _ w226 0 0 229 _ []
        refine mu_vret E rfl (by decide) (by decide) dX12_spell_229 ?_
        refine ⟨rfl, hF.trans (sy_spl hF2), Ln, Rn, Un, Dn, M, hLKP, ?_, ?_⟩
        · rw [hTd, ← hTT]; exact hT2
        · rw [hTd]; exact htot
      · try rw [mI_lt ⟨by omega, by omega⟩ ⟨by omega, by omega⟩] at c33
        have hed := ed_bd c y 256
        have hy9 : y ≤ Dn := by omega
        have KR : ∀ (la : Int) (s : mu_W) (l : List Nat) (u5 u6 u7 u8 : Value), mu_Fi (spl_S m) w s → lk_F s m (Ln : Int) (Rn : Int) (Un : Int) (Dn : Int) M → TX s m l → l ++ txR c Ln (Dn - y) (y + 1) la = T → (la = -1 ∨ (0 ≤ la ∧ la < (y : Int) + 1)) → mu_WA X G 9 (mu_Q X G M_X12_spell (spl_post w m c)) s 0 0 217 [.ref m, .int (mI f), .int (mI ((65536 * f : Nat) : Int)), .int (mI la), .int (mI y), u5, u6, u7, u8] [] := by
          intro la s l u5 u6 u7 u8 hF hlk hT hTT hla
          refine mu_inc_4 (c := mI 1) B dX12_spell_217 rfl (by decide) rfl ?_
          rw [mI_add]
          refine mu_goto (tgt := 27) B dX12_spell_220 (by decide) ?_
          refine mu_fg (ihy (la, s, l) (by omega) ⟨hF, hlk, hT, by rw [show Dn + 1 - (y + 1) = Dn - y by omega]; exact hTT, by show la = -1 ∨ (0 ≤ la ∧ la < ((y + 1 : Nat) : Int)); omega⟩ (by omega)) rfl (by rw [show ((y + 1 : Nat) : Int) = (y : Int) + 1 by omega]; exact ⟨Or.inl rfl, Or.inl rfl, Or.inl rfl, Or.inl rfl, Or.inl rfl, Or.inr rfl, Or.inr rfl, Or.inr rfl, Or.inr rfl, trivial⟩)
        have K89 : ∀ u6 : Value, mu_WA X G 9 (mu_Q X G M_X12_spell (spl_post w m c)) s 0 0 89 [.ref m, .int (mI f), .int (mI ((65536 * f : Nat) : Int)), .int (mI la), .int (mI y), .int (mI (ed c y 256)), u6, mu_no, mu_no] [] := by
          intro u6
          refine mu_il_5 B dX12_spell_89 ?_
          refine mu_if_ge (tgt := 97) B dX12_spell_91 (by decide) (fun c91 => ?_) (fun c91 => ?_)
          · try rw [mI_ge0 ⟨by omega, by omega⟩] at c91
            obtain ⟨e, he⟩ : ∃ e : Nat, ed c y 256 = e := ⟨(ed c y 256).toNat, by omega⟩
            have hed3 : c e y = 1 := by have := hed.2.2 (by omega); rw [he, Int.toNat_natCast] at this; exact this
            have hbe := hbox e y (by omega) (by omega) hed3
            rw [show Dn + 1 - y = (Dn - y) + 1 by omega, txR_row (by omega), he, Int.toNat_natCast] at hTT
            rw [he]
            have LX : ∀ st : Nat × mu_W × List Nat, ((st.1 ≤ e + 1 ∧ Ln ≤ st.1) ∧ mu_Fi (spl_S m) w st.2.1 ∧ lk_F st.2.1 m (Ln : Int) (Rn : Int) (Un : Int) (Dn : Int) M ∧ TX st.2.1 m st.2.2 ∧ st.2.2 ++ (rowC c y (e + 1 - st.1) st.1 st.1 ++ txR c Ln (Dn - y) (y + 1) y) = T) → mu_WA X G 9 (mu_Q X G M_X12_spell (spl_post w m c)) st.2.1 0 0 120 [.ref m, .int (mI f), .int (mI ((65536 * f : Nat) : Int)), .int (mI y), .int (mI y), .int (mI e), .int (mI (st.1 : Int)), mu_no, mu_no] [] := by
              refine mu_wf (fun st => e + 1 - st.1) _ _ ?_
              rintro ⟨x, s, l⟩ ⟨⟨hx, hLx⟩, hF, hlk, hT, hTT⟩ ih9
              dsimp only at hx hLx hF hlk hT hTT ih9 ⊢
              have hm1 := hm.fi hF
              have hk1 := hm1.1
              obtain ⟨r14, k14⟩ := mo_14 hm1
              have hB1 := hB.fi hF (fun j => by unfold spl_S; omega)
              refine mu_il_6 B dX12_spell_120 ?_
              refine mu_il_5 B dX12_spell_122 ?_
              refine mu_icmp_gt (tgt := 217) B dX12_spell_124 (by decide) (fun c124 => ?_) (fun c124 => ?_)
              · try rw [mI_lt ⟨by omega, by omega⟩ ⟨by omega, by omega⟩] at c124
                refine KR y s l _ _ _ _ hF hlk hT ?_ (by omega)
                rw [show e + 1 - x = 0 by omega, rowC, List.nil_append] at hTT
                exact hTT
              · try rw [mI_lt ⟨by omega, by omega⟩ ⟨by omega, by omega⟩] at c124
                refine mu_al_0 B dX12_spell_127 ?_
                refine mu_getR B dX12_spell_128 fX12_36 rfl (by assumption) (by assumption) ?_
                refine mu_il_2 B dX12_spell_131 ?_
                refine mu_sipush (v := mI 256) B dX12_spell_132 (by decide) ?_
                refine mu_il_4 B dX12_spell_135 ?_
                refine mu_imul B dX12_spell_137 ?_
                try rw [mI_mul]
                refine mu_iadd B dX12_spell_138 ?_
                try rw [mI_add]
                refine mu_il_6 B dX12_spell_139 ?_
                refine mu_iadd B dX12_spell_141 ?_
                try rw [mI_add]
                try rw [mI_add]
                rw [show ((65536 * f : Nat) : Int) + 256 * (y : Int) + (x : Int) = ((65536 * f + 256 * y + (x) : Nat) : Int) by omega]
                refine mu_bald B dX12_spell_142 (by assumption) (mI_inN (by omega) (by decide)) ?_
                rw [mI_clampN (by omega), hB1.2.2.2.1 (x) y (by omega) (by omega)]
                have hcv := hc01 (x) y
                refine mu_is_7 B dX12_spell_143 (by decide) rfl ?_
                have KJ : ∀ n, 1 ≤ n → x + n ≤ e + 1 → (∀ i, i < n → c (x + i) y = c x y) → ((e + 1 - (x + n)) = 0 ∨ c (x + n) y ≠ c x y) → mu_WA X G 9 (mu_Q X G M_X12_spell (spl_post w m c)) s 0 0 204 [.ref m, .int (mI f), .int (mI ((65536 * f : Nat) : Int)), .int (mI y), .int (mI y), .int (mI e), .int (mI x), .int (mI (c x y : Int)), .int (mI n)] [.int (mI (((if c x y = 1 then 111 else 98) : Nat) : Int)), .int (mI n), .ref m] := by
                  intro n hn1 hn2 hsame hstop
                  have e1 : ∀ i, i < n → rowC c y (e + 1 - x) x x = rowC c y (e + 1 - (x + i)) (x + i) x := by
                    intro i
                    induction i with
                    | zero => intro _; rfl
                    | succ i ih9 =>
                      intro hi
                      rw [ih9 (by omega), show e + 1 - (x + i) = (e + 1 - (x + (i + 1))) + 1 by omega]
                      exact rowC_on (by rw [hsame i (by omega), show x + i + 1 = x + (i + 1) by omega, hsame (i + 1) hi]; intro hh; rcases hh with hh | hh; (omega); (exact hh rfl))
                  have e2 : rowC c y (e + 1 - x) x x = runB n (if c x y = 1 then 111 else 98) ++ rowC c y (e + 1 - (x + n)) (x + n) (x + n) := by
                    rw [e1 (n - 1) (by omega), show e + 1 - (x + (n - 1)) = (e + 1 - (x + n)) + 1 by omega, rowC_emit (by rw [show x + (n - 1) + 1 = x + n by omega, hsame (n - 1) (by omega)]; exact hstop), hsame (n - 1) (by omega), show x + (n - 1) + 1 = x + n by omega, show x + n - x = n by omega]
                  have hch : (if c x y = 1 then 111 else 98) < 128 := by split <;> decide
                  have hLn : l.length + (runB n (if c x y = 1 then 111 else 98)).length ≤ 66561 := by rw [← hTT, e2] at htot; simp only [List.length_append] at htot; omega
                  have hTT2 : (l ++ runB n (if c x y = 1 then 111 else 98)) ++ (rowC c y (e + 1 - (x + n)) (x + n) (x + n) ++ txR c Ln (Dn - y) (y + 1) y) = T := by rw [← hTT, e2]; simp only [List.append_assoc]
                  refine mu_cV2 B dX12_spell_204 mX12_247 ⟨⟨by decide, by decide⟩, by decide, by decide⟩ (Nat.le_of_ble_eq_true rfl) (by assumption) (sayRunI G hm1 hT (by omega) n (if c x y = 1 then 111 else 98) rfl rfl (by omega) hch) (fun r204 w204 q204 => ?_)
                  obtain ⟨rfl, hF2, hT2⟩ := q204
                  show mu_WA X G 9 _ w204 0 0 207 _ []
                  refine mu_il_6 B dX12_spell_207 ?_
                  refine mu_il_8 B dX12_spell_209 ?_
                  refine mu_iadd B dX12_spell_211 ?_
                  try rw [mI_add]
                  refine mu_is_6 B dX12_spell_212 (by decide) rfl ?_
                  refine mu_goto (tgt := 120) B dX12_spell_214 (by decide) ?_
                  refine mu_fg (ih9 (x + n, w204, l ++ runB n (if c x y = 1 then 111 else 98)) ⟨⟨by show x + n ≤ e + 1; omega, by show Ln ≤ x + n; omega⟩, hF.trans (sy_spl hF2), ⟨hF2.iv (by unfold sy_S; omega) hlk.1, hF2.iv (by unfold sy_S; omega) hlk.2.1, hF2.iv (by unfold sy_S; omega) hlk.2.2.1, hF2.iv (by unfold sy_S; omega) hlk.2.2.2.1, hF2.iv (by unfold sy_S; omega) hlk.2.2.2.2⟩, hT2, hTT2⟩ (by show e + 1 - (x + n) < e + 1 - x; omega)) rfl (by rw [show ((x + n : Nat) : Int) = (x : Int) + (n : Int) by omega]; exact ⟨Or.inl rfl, Or.inl rfl, Or.inl rfl, Or.inl rfl, Or.inl rfl, Or.inl rfl, Or.inl rfl, Or.inr rfl, Or.inr rfl, trivial⟩)
                have K188 : ∀ n, 1 ≤ n → x + n ≤ e + 1 → (∀ i, i < n → c (x + i) y = c x y) → ((e + 1 - (x + n)) = 0 ∨ c (x + n) y ≠ c x y) → mu_WA X G 9 (mu_Q X G M_X12_spell (spl_post w m c)) s 0 0 188 [.ref m, .int (mI f), .int (mI ((65536 * f : Nat) : Int)), .int (mI y), .int (mI y), .int (mI e), .int (mI x), .int (mI (c x y : Int)), .int (mI n)] [] := by
                  intro n hn1 hn2 hsame hstop
                  refine mu_al_0 B dX12_spell_188 ?_
                  refine mu_il_8 B dX12_spell_189 ?_
                  refine mu_il_7 B dX12_spell_191 ?_
                  refine mu_iconst (v := mI 1) B dX12_spell_193 rfl ?_
                  refine mu_icmp_ne (tgt := 202) B dX12_spell_194 (by decide) (fun c194 => ?_) (fun c194 => ?_)
                  · try rw [mI_eq ⟨by omega, by omega⟩ ⟨by omega, by omega⟩] at c194
                    refine mu_bipush (v := mI 98) B dX12_spell_202 (by decide) ?_
                    first
                      | exact mu_st (KJ n hn1 hn2 hsame hstop) (by rw [if_pos (by omega)]; rfl)
                      | exact mu_st (KJ n hn1 hn2 hsame hstop) (by rw [if_neg (by omega)]; rfl)
                  · try rw [mI_eq ⟨by omega, by omega⟩ ⟨by omega, by omega⟩] at c194
                    refine mu_bipush (v := mI 111) B dX12_spell_197 (by decide) ?_
                    refine mu_goto (tgt := 204) B dX12_spell_199 (by decide) ?_
                    first
                      | exact mu_st (KJ n hn1 hn2 hsame hstop) (by rw [if_pos (by omega)]; rfl)
                      | exact mu_st (KJ n hn1 hn2 hsame hstop) (by rw [if_neg (by omega)]; rfl)
                have LN : ∀ n (u9 : Unit), n ≤ e + 1 - x → (1 ≤ n ∧ (∀ i, i < n → c (x + i) y = c x y)) → mu_WA X G 9 (mu_Q X G M_X12_spell (spl_post w m c)) s 0 0 148 [.ref m, .int (mI f), .int (mI ((65536 * f : Nat) : Int)), .int (mI y), .int (mI y), .int (mI e), .int (mI x), .int (mI (c x y : Int)), .int (mI n)] [] := by
                  have L9 := mu_ind (e + 1 - x) (fun n (u9 : Unit) => 1 ≤ n → mu_WA X G 9 (mu_Q X G M_X12_spell (spl_post w m c)) s 0 0 148 [.ref m, .int (mI f), .int (mI ((65536 * f : Nat) : Int)), .int (mI y), .int (mI y), .int (mI e), .int (mI x), .int (mI (c x y : Int)), .int (mI n)] []) (fun n (u9 : Unit) => ∀ i, i < n → c (x + i) y = c x y) ?_
                  · intro n s h1 h2; exact L9 n s h1 h2.2 h2.1
                  intro n u9 hn hsame ihn hlo
                  refine mu_il_6 B dX12_spell_148 ?_
                  refine mu_il_8 B dX12_spell_150 ?_
                  refine mu_iadd B dX12_spell_152 ?_
                  try rw [mI_add]
                  refine mu_il_5 B dX12_spell_153 ?_
                  refine mu_icmp_gt (tgt := 188) B dX12_spell_155 (by decide) (fun c155 => ?_) (fun c155 => ?_)
                  · try rw [mI_lt ⟨by omega, by omega⟩ ⟨by omega, by omega⟩] at c155
                    first
                      | exact K188 n (by omega) (by omega) hsame (Or.inl (by omega))
                      | exact K188 n (by omega) (by omega) hsame (Or.inr (by omega))
                  · try rw [mI_lt ⟨by omega, by omega⟩ ⟨by omega, by omega⟩] at c155
                    refine mu_al_0 B dX12_spell_158 ?_
                    refine mu_getR B dX12_spell_159 fX12_36 rfl (by assumption) (by assumption) ?_
                    refine mu_il_2 B dX12_spell_162 ?_
                    refine mu_sipush (v := mI 256) B dX12_spell_163 (by decide) ?_
                    refine mu_il_4 B dX12_spell_166 ?_
                    refine mu_imul B dX12_spell_168 ?_
                    try rw [mI_mul]
                    refine mu_iadd B dX12_spell_169 ?_
                    try rw [mI_add]
                    refine mu_il_6 B dX12_spell_170 ?_
                    refine mu_iadd B dX12_spell_172 ?_
                    try rw [mI_add]
                    refine mu_il_8 B dX12_spell_173 ?_
                    refine mu_iadd B dX12_spell_175 ?_
                    try rw [mI_add]
                    try rw [mI_add]
                    rw [show ((65536 * f : Nat) : Int) + 256 * (y : Int) + (x : Int) + (n : Int) = ((65536 * f + 256 * y + (x + n) : Nat) : Int) by omega]
                    refine mu_bald B dX12_spell_176 (by assumption) (mI_inN (by omega) (by decide)) ?_
                    rw [mI_clampN (by omega), hB1.2.2.2.1 (x + n) y (by omega) (by omega)]
                    have hcv := hc01 (x + n) y
                    refine mu_il_7 B dX12_spell_177 ?_
                    refine mu_icmp_ne (tgt := 188) B dX12_spell_179 (by decide) (fun c179 => ?_) (fun c179 => ?_)
                    · try rw [mI_eq ⟨by omega, by omega⟩ ⟨by omega, by omega⟩] at c179
                      first
                        | exact K188 n (by omega) (by omega) hsame (Or.inl (by omega))
                        | exact K188 n (by omega) (by omega) hsame (Or.inr (by omega))
                    · try rw [mI_eq ⟨by omega, by omega⟩ ⟨by omega, by omega⟩] at c179
                      refine mu_inc_8 (c := mI 1) B dX12_spell_182 rfl (by decide) rfl ?_
                      try rw [mI_add]
                      refine mu_goto (tgt := 148) B dX12_spell_185 (by decide) ?_
                      refine mu_to (ihn () (by omega) (fun i hi => ?_) (by omega)) rfl (by rw [show ((n + 1 : Nat) : Int) = (n : Int) + 1 by omega])
                      by_cases e9 : i = n
                      · rw [e9]; omega
                      · exact hsame i (by omega)
                refine mu_iconst (v := mI 1) B dX12_spell_145 rfl ?_
                refine mu_is_8 B dX12_spell_146 (by decide) rfl ?_
                exact LN 1 () (by omega) ⟨Nat.le_refl _, fun i hi => by rw [show i = 0 by omega]; rfl⟩
            have K111 : ∀ (la : Int) (s : mu_W) (l : List Nat) (u6 u7 u8 : Value), mu_Fi (spl_S m) w s → lk_F s m (Ln : Int) (Rn : Int) (Un : Int) (Dn : Int) M → TX s m l → l ++ (rowC c y (e + 1 - Ln) Ln Ln ++ txR c Ln (Dn - y) (y + 1) y) = T → mu_WA X G 9 (mu_Q X G M_X12_spell (spl_post w m c)) s 0 0 111 [.ref m, .int (mI f), .int (mI ((65536 * f : Nat) : Int)), .int (mI la), .int (mI y), .int (mI e), u6, u7, u8] [] := by
              intro la s l u6 u7 u8 hF hlk hT hTT
              have hm1 := hm.fi hF
              have hk1 := hm1.1
              obtain ⟨r14, k14⟩ := mo_14 hm1
              have hB1 := hB.fi hF (fun j => by unfold spl_S; omega)
              refine mu_il_4 B dX12_spell_111 ?_
              refine mu_is_3 B dX12_spell_113 (by decide) rfl ?_
              refine mu_al_0 B dX12_spell_114 ?_
              refine mu_getI B dX12_spell_115 fX12_189 rfl (by assumption) ?_
              rw [hlk.1]
              refine mu_is_6 B dX12_spell_118 (by decide) rfl ?_
              exact mu_fg (LX (Ln, s, l) ⟨⟨by show Ln ≤ e + 1; omega, Nat.le_refl _⟩, hF, hlk, hT, hTT⟩) rfl (⟨Or.inl rfl, Or.inl rfl, Or.inl rfl, Or.inl rfl, Or.inl rfl, Or.inl rfl, Or.inl rfl, Or.inr rfl, Or.inr rfl, trivial⟩)
            refine mu_il_3 B dX12_spell_97 ?_
            refine mu_if_lt (tgt := 111) B dX12_spell_98 (by decide) (fun c98 => ?_) (fun c98 => ?_)
            · try rw [mI_lt0 ⟨by omega, by omega⟩] at c98
              first
                | refine K111 la w108 (l ++ runB ((y : Int) - la).toNat 36) _ _ _ (hF.trans (sy_spl hF2)) ⟨hF2.iv (by unfold sy_S; omega) hlk.1, hF2.iv (by unfold sy_S; omega) hlk.2.1, hF2.iv (by unfold sy_S; omega) hlk.2.2.1, hF2.iv (by unfold sy_S; omega) hlk.2.2.2.1, hF2.iv (by unfold sy_S; omega) hlk.2.2.2.2⟩ hT2 ?_
                  rw [← hTT, if_pos (by omega), List.append_assoc]
                | refine K111 la s l _ _ _ hF hlk hT ?_
                  rw [← hTT, if_neg (by omega), List.nil_append]
            · try rw [mI_lt0 ⟨by omega, by omega⟩] at c98
              have hLn : l.length + (runB ((y : Int) - la).toNat 36).length ≤ 66561 := by rw [← hTT, if_pos (by omega)] at htot; simp only [List.length_append] at htot; omega
              refine mu_al_0 B dX12_spell_101 ?_
              refine mu_il_4 B dX12_spell_102 ?_
              refine mu_il_3 B dX12_spell_104 ?_
              refine mu_isub B dX12_spell_105 ?_
              try rw [mI_sub]
              refine mu_bipush (v := mI 36) B dX12_spell_106 (by decide) ?_
              refine mu_cV2 B dX12_spell_108 mX12_247 ⟨⟨by decide, by decide⟩, by decide, by decide⟩ (Nat.le_of_ble_eq_true rfl) (by assumption) (sayRunI G hm1 hT (by omega) ((y : Int) - la).toNat 36 (by omega) rfl (by omega) (by decide)) (fun r108 w108 q108 => ?_)
              obtain ⟨rfl, hF2, hT2⟩ := q108
              show mu_WA X G 9 _ w108 0 0 111 _ []
              first
                | refine K111 la w108 (l ++ runB ((y : Int) - la).toNat 36) _ _ _ (hF.trans (sy_spl hF2)) ⟨hF2.iv (by unfold sy_S; omega) hlk.1, hF2.iv (by unfold sy_S; omega) hlk.2.1, hF2.iv (by unfold sy_S; omega) hlk.2.2.1, hF2.iv (by unfold sy_S; omega) hlk.2.2.2.1, hF2.iv (by unfold sy_S; omega) hlk.2.2.2.2⟩ hT2 ?_
                  rw [← hTT, if_pos (by omega), List.append_assoc]
                | refine K111 la s l _ _ _ hF hlk hT ?_
                  rw [← hTT, if_neg (by omega), List.nil_append]
          · try rw [mI_ge0 ⟨by omega, by omega⟩] at c91
            refine mu_goto (tgt := 217) B dX12_spell_94 (by decide) ?_
            exact KR la s l _ _ _ _ hF hlk hT (by rw [show Dn + 1 - y = (Dn - y) + 1 by omega, txR_no (by omega)] at hTT; exact hTT) (by omega)
        have LE : ∀ x (u9 : Unit), x ≤ Rn + 1 → (Ln ≤ x ∧ (True)) → mu_WA X G 9 (mu_Q X G M_X12_spell (spl_post w m c)) s 0 0 45 [.ref m, .int (mI f), .int (mI ((65536 * f : Nat) : Int)), .int (mI la), .int (mI y), .int (mI (ed c y x)), .int (mI x), mu_no, mu_no] [] := by
          have L9 := mu_ind (Rn + 1) (fun x (u9 : Unit) => Ln ≤ x → mu_WA X G 9 (mu_Q X G M_X12_spell (spl_post w m c)) s 0 0 45 [.ref m, .int (mI f), .int (mI ((65536 * f : Nat) : Int)), .int (mI la), .int (mI y), .int (mI (ed c y x)), .int (mI x), mu_no, mu_no] []) (fun x (u9 : Unit) => True) ?_
          · intro x s h1 h2; exact L9 x s h1 h2.2 h2.1
          intro x u9 hx _ ihx hlo
          have hedx := ed_bd c y x
          refine mu_il_6 B dX12_spell_45 ?_
          refine mu_al_0 B dX12_spell_47 ?_
          refine mu_getI B dX12_spell_48 fX12_192 rfl (by assumption) ?_
          rw [hlk.2.1]
          refine mu_icmp_gt (tgt := 89) B dX12_spell_51 (by decide) (fun c51 => ?_) (fun c51 => ?_)
          · try rw [mI_lt ⟨by omega, by omega⟩ ⟨by omega, by omega⟩] at c51
            obtain rfl : Rn + 1 = x := by omega
            have e9 : ed c y 256 = ed c y (Rn + 1) := ed_same (by omega) (fun x9 h1 h2 h3 => by have := hbox x9 y (by omega) (by omega) h3; omega)
            rw [← e9]
            exact K89 _
          · try rw [mI_lt ⟨by omega, by omega⟩ ⟨by omega, by omega⟩] at c51
            refine mu_al_0 B dX12_spell_54 ?_
            refine mu_getR B dX12_spell_55 fX12_36 rfl (by assumption) (by assumption) ?_
            refine mu_il_2 B dX12_spell_58 ?_
            refine mu_sipush (v := mI 256) B dX12_spell_59 (by decide) ?_
            refine mu_il_4 B dX12_spell_62 ?_
            refine mu_imul B dX12_spell_64 ?_
            try rw [mI_mul]
            refine mu_iadd B dX12_spell_65 ?_
            try rw [mI_add]
            refine mu_il_6 B dX12_spell_66 ?_
            refine mu_iadd B dX12_spell_68 ?_
            try rw [mI_add]
            try rw [mI_add]
            rw [show ((65536 * f : Nat) : Int) + 256 * (y : Int) + (x : Int) = ((65536 * f + 256 * y + (x) : Nat) : Int) by omega]
            refine mu_bald B dX12_spell_69 (by assumption) (mI_inN (by omega) (by decide)) ?_
            rw [mI_clampN (by omega), hB1.2.2.2.1 (x) y (by omega) (by omega)]
            have hcv := hc01 (x) y
            refine mu_iconst (v := mI 1) B dX12_spell_70 rfl ?_
            refine mu_icmp_ne (tgt := 79) B dX12_spell_71 (by decide) (fun c71 => ?_) (fun c71 => ?_)
            · try rw [mI_eq ⟨by omega, by omega⟩ ⟨by omega, by omega⟩] at c71
              refine mu_il_5 B dX12_spell_79 ?_
              refine mu_is_5 B dX12_spell_81 (by decide) rfl ?_
              refine mu_inc_6 (c := mI 1) B dX12_spell_83 rfl (by decide) rfl ?_
              try rw [mI_add]
              refine mu_goto (tgt := 45) B dX12_spell_86 (by decide) ?_
              first
                | exact mu_to (ihx () (by omega) trivial (by omega)) rfl (by rw [ed, if_pos (by omega), show ((x + 1 : Nat) : Int) = (x : Int) + 1 by omega])
                | exact mu_to (ihx () (by omega) trivial (by omega)) rfl (by rw [ed, if_neg (by omega), show ((x + 1 : Nat) : Int) = (x : Int) + 1 by omega])
            · try rw [mI_eq ⟨by omega, by omega⟩ ⟨by omega, by omega⟩] at c71
              refine mu_il_6 B dX12_spell_74 ?_
              refine mu_goto (tgt := 81) B dX12_spell_76 (by decide) ?_
              refine mu_is_5 B dX12_spell_81 (by decide) rfl ?_
              refine mu_inc_6 (c := mI 1) B dX12_spell_83 rfl (by decide) rfl ?_
              try rw [mI_add]
              refine mu_goto (tgt := 45) B dX12_spell_86 (by decide) ?_
              first
                | exact mu_to (ihx () (by omega) trivial (by omega)) rfl (by rw [ed, if_pos (by omega), show ((x + 1 : Nat) : Int) = (x : Int) + 1 by omega])
                | exact mu_to (ihx () (by omega) trivial (by omega)) rfl (by rw [ed, if_neg (by omega), show ((x + 1 : Nat) : Int) = (x : Int) + 1 by omega])
        refine mu_iconst (v := mI (-1)) B dX12_spell_36 rfl ?_
        refine mu_is_5 B dX12_spell_37 (by decide) rfl ?_
        refine mu_al_0 B dX12_spell_39 ?_
        refine mu_getI B dX12_spell_40 fX12_189 rfl (by assumption) ?_
        rw [hlk.1]
        refine mu_is_6 B dX12_spell_43 (by decide) rfl ?_
        exact mu_to (LE Ln () (by omega) ⟨Nat.le_refl _, trivial⟩) rfl (by rw [show ed c y Ln = -1 from by rw [ed_same (a := 0) (Nat.zero_le _) (fun x9 h1 h2 h3 => by have := hbox x9 y (by omega) (by omega) h3; omega)]; rfl])
    refine mu_al_0 B dX12_spell_21 ?_
    refine mu_getI B dX12_spell_22 fX12_195 rfl (by assumption) ?_
    rw [hlk.2.2.1]
    refine mu_is_4 B dX12_spell_25 (by decide) rfl ?_
    exact mu_fg (LY Un (-1, w16, []) (by omega) ⟨Nat.le_refl _, hF, hlk, hT0, by rw [List.nil_append]; exact hTe.symm, Or.inl rfl⟩) rfl (⟨Or.inl rfl, Or.inl rfl, Or.inl rfl, Or.inl rfl, Or.inl rfl, Or.inr rfl, Or.inr rfl, Or.inr rfl, Or.inr rfl, trivial⟩)

def tb_post (w : mu_W) (m nf : Nat) (fs : Nat → mu_FS) (z i : Int) (r : Option Value) (w' : mu_W) : Prop :=
  if 0 ≤ z ∧ z < nf then mu_Fi (spl_S m) w w' ∧ ∃ (L R U D : Int) (M : Nat), LKP (fs_c (fs z.toNat)) 256 0 L R U D M ∧ r = some (.int (mI (if 0 ≤ i ∧ i < (spT (fs_c (fs z.toNat)) L U D M).length then (((spT (fs_c (fs z.toNat)) L U D M).getD i.toNat 0 : Nat) : Int) else 0)))
  else r = some (.int (mI (-1))) ∧ w' = w

set_option maxHeartbeats 4000000 in
set_option maxRecDepth 100000 in
theorem c_X12_textByte (G : mu_G) {w : mu_W} {m : Nat} (hm : mo_ok w m) {nr : Nat} {rs : Nat → mu_RS} {nf : Nat} {fs : Nat → mu_FS} (hfi : MFi w m nr rs nf fs) {z i : Int} (hz : mi_ok z) (hi : mi_ok i) : mu_Ct G M_X12_textByte [.ref m, .int (mI z), .int (mI i)] w (fun r w' => tb_post w m nf fs z i r w') := by
  have hk0 := hm.1
  obtain ⟨hz1, hz2⟩ := id hz
  obtain ⟨hi1, hi2⟩ := hi
  have hnf := hfi.1
  refine mu_ofWA G M_X12_textByte [.ref m, .int (mI z), .int (mI i)] (by decide) rfl (Nat.le_of_ble_eq_true rfl) ?_
  intro X E
  have B : mu_B X G cX12_textByte RX12 3 (mu_rm M_X12_textByte) := E.1
  show mu_WA X G 3 _ _ 0 0 0 _ []
  refine mu_al_0 B dX12_textByte_0 ?_
  refine mu_il_1 B dX12_textByte_1 ?_
  refine mu_eV1 B dX12_textByte_2 mX12_178 ⟨⟨by decide, by decide⟩, by decide, by decide⟩ (Nat.le_of_ble_eq_true rfl) (by assumption) (c_X12_isField G hm (n := nf) hfi.2.1 hfi.1 hz) ?_
  refine mu_if_ne (tgt := 10) B dX12_textByte_5 (by decide) (fun c5 => ?_) (fun c5 => ?_)
  · have z5 := mu_bt c5
    obtain ⟨f, hf⟩ : ∃ f : Nat, z = f := ⟨z.toNat, by omega⟩
    subst hf
    have hf8 : f < nf := by omega
    refine mu_al_0 B dX12_textByte_10 ?_
    refine mu_il_1 B dX12_textByte_11 ?_
    refine mu_cV1 B dX12_textByte_12 mX12_251 ⟨⟨by decide, by decide⟩, by decide, by decide⟩ (Nat.le_of_ble_eq_true rfl) (by assumption) (c_X12_spell G hm (f := f) (by omega) (hfi.bd hm hf8)) (fun r12 w12 q12 => ?_)
    obtain ⟨rfl, hF, L, R, U, D, M, hLKP, hT, hlen⟩ := q12
    have hm1 := hm.fi hF
    have hk1 := hm1.1
    obtain ⟨r27, k27⟩ := mo_27 hm1
    show mu_WA X G 3 _ w12 0 0 15 _ []
    refine mu_il_2 B dX12_textByte_15 ?_
    refine mu_if_lt (tgt := 27) B dX12_textByte_16 (by decide) (fun c16 => ?_) (fun c16 => ?_)
    · try rw [mI_lt0 ⟨by omega, by omega⟩] at c16
      refine mu_iconst (v := mI 0) B dX12_textByte_27 rfl ?_
      refine mu_goto (tgt := 37) B dX12_textByte_28 (by decide) ?_
      refine mu_iret E rfl (by decide) (by decide) dX12_textByte_37 ?_
      unfold tb_post
      rw [if_pos ⟨by omega, by omega⟩, Int.toNat_natCast]
      refine ⟨hF, L, R, U, D, M, hLKP, ?_⟩
      first | rw [if_pos ⟨by omega, by omega⟩] | rw [if_neg (by omega)]
    · try rw [mI_lt0 ⟨by omega, by omega⟩] at c16
      refine mu_il_2 B dX12_textByte_19 ?_
      refine mu_al_0 B dX12_textByte_20 ?_
      refine mu_getI B dX12_textByte_21 fX12_240 rfl (by assumption) ?_
      rw [hT.1]
      refine mu_icmp_lt (tgt := 31) B dX12_textByte_24 (by decide) (fun c24 => ?_) (fun c24 => ?_)
      · try rw [mI_lt ⟨by omega, by omega⟩ ⟨by omega, by omega⟩] at c24
        refine mu_al_0 B dX12_textByte_31 ?_
        refine mu_getR B dX12_textByte_32 fX12_59 rfl (by assumption) (by assumption) ?_
        refine mu_il_2 B dX12_textByte_35 ?_
        refine mu_bald B dX12_textByte_36 (by assumption) (mI_in (by omega) (by omega) (by decide)) ?_
        rw [mI_clamp ⟨by omega, by omega⟩, hT.2 _ (by omega)]
        refine mu_iret E rfl (by decide) (by decide) dX12_textByte_37 ?_
        unfold tb_post
        rw [if_pos ⟨by omega, by omega⟩, Int.toNat_natCast]
        refine ⟨hF, L, R, U, D, M, hLKP, ?_⟩
        first | rw [if_pos ⟨by omega, by omega⟩] | rw [if_neg (by omega)]
      · try rw [mI_lt ⟨by omega, by omega⟩ ⟨by omega, by omega⟩] at c24
        refine mu_iconst (v := mI 0) B dX12_textByte_27 rfl ?_
        refine mu_goto (tgt := 37) B dX12_textByte_28 (by decide) ?_
        refine mu_iret E rfl (by decide) (by decide) dX12_textByte_37 ?_
        unfold tb_post
        rw [if_pos ⟨by omega, by omega⟩, Int.toNat_natCast]
        refine ⟨hF, L, R, U, D, M, hLKP, ?_⟩
        first | rw [if_pos ⟨by omega, by omega⟩] | rw [if_neg (by omega)]
  · have z5 := mu_bf c5
    refine mu_iconst (v := mI (-1)) B dX12_textByte_8 rfl ?_
    refine mu_iret E rfl (by decide) (by decide) dX12_textByte_9 ?_
    unfold tb_post
    rw [if_neg z5]
    exact ⟨rfl, rfl⟩
