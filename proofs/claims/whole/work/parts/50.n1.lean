/-! ===== the class: the library's copy and fill ===== -/
section MUK
variable {X : mu_X} {G : mu_G} {cc : ByteArray} {own : String} {nL : Nat} {R : Room} {Qf : State → Prop} {w : mu_W} {kc ks pc idx : Nat} {lv st rest : List Value}
theorem mu_lookup (B : mu_B X G cc own nL R) {dflt : Int} {pairs : Array (Int × Int)} {len : Nat} {x : Int32} {off : Int} {tgt : Nat} (hdg : decode cc pc = .ok (.lookupswitch dflt pairs, len)) (hp : (pairs.toList.zip (pairs.toList.drop 1)).all (fun (a, next) => a.1 < next.1) = true) (ho : Op.lookupswitch.offset pairs.toList dflt x.toInt = off) (ht : (pc : Int) + off = (tgt : Int)) (k : mu_WA X G nL Qf w kc ks tgt lv rest) : mu_WA X G nL Qf w kc ks pc lv (.int x :: rest) := fun H locs ls hH hS hl => lv_lookup B.1 B.2.1 hdg hp ho ht (k H locs ls hH hS hl)
end MUK
/-! the class's tape -/
def CT (w : mu_W) (t n : Nat) (tp : Nat → Nat) : Prop := mu_kd w t = some (10, 0) ∧ mu_rv w t 0 = some (t + 1) ∧ mu_kd w (t + 1) = some (102, 2000) ∧ tp_ok n tp ∧ mu_iv w t 1 = mI n ∧ ∀ j, j < n → mu_iv w (t + 1) j = mb (tp j)
theorem CT.fi {S : Nat → Nat → Prop} {w w' : mu_W} {t n : Nat} {tp : Nat → Nat} (h : CT w t n tp) (hF : mu_Fi S w w') (h1 : ¬ S t 1) (h2 : ∀ j, ¬ S (t + 1) j) : CT w' t n tp := ⟨hF.kd h.1, hF.rv h.2.1, hF.kd h.2.2.1, h.2.2.2.1, hF.iv h1 h.2.2.2.2.1, fun j hj => hF.iv (h2 j) (h.2.2.2.2.2 j hj)⟩

set_option maxHeartbeats 4000000 in
set_option maxRecDepth 100000 in
theorem c_X10_size (G : mu_G) {w : mu_W} {t n : Nat} {tp : Nat → Nat} (ht : CT w t n tp) : mu_Ct G M_X10_size [.ref t] w (fun r w' => r = some (.int (mI n)) ∧ w' = w) := by
  obtain ⟨kt, rt, ka, hok, hlen, hby⟩ := id ht
  have hn2 := hok.1
  refine mu_ofWA G M_X10_size [.ref t] (by decide) rfl (Nat.le_of_ble_eq_true rfl) ?_
  intro X E
  have B : mu_B X G cX10_size RX10 1 (mu_rm M_X10_size) := E.1
  show mu_WA X G 1 _ _ 0 0 0 _ []
  refine mu_al_0 B dX10_size_0 ?_
  refine mu_getI B dX10_size_1 fX10_13 rfl (by assumption) ?_
  rw [hlen]
  refine mu_iret E rfl (by decide) (by decide) dX10_size_4 ?_
  exact ⟨rfl, rfl⟩

set_option maxHeartbeats 4000000 in
set_option maxRecDepth 100000 in
theorem c_X10_keep (G : mu_G) {w : mu_W} {t n : Nat} {tp : Nat → Nat} (ht : CT w t n tp) {z : Int} (hz : mi_ok z) : mu_Ct G M_X10_keep [.ref t, .int (mI z)] w (fun r w' => r = none ∧ w' = if 0 ≤ z ∧ z < n then mu_si w t 1 (mI z) else w) := by
  obtain ⟨kt, rt, ka, hok, hlen, hby⟩ := id ht
  have hn2 := hok.1
  obtain ⟨hz1, hz2⟩ := hz
  refine mu_ofWA G M_X10_keep [.ref t, .int (mI z)] (by decide) rfl (Nat.le_of_ble_eq_true rfl) ?_
  intro X E
  have B : mu_B X G cX10_keep RX10 2 (mu_rm M_X10_keep) := E.1
  show mu_WA X G 2 _ _ 0 0 0 _ []
  refine mu_il_1 B dX10_keep_0 ?_
  refine mu_if_lt (tgt := 17) B dX10_keep_1 (by decide) (fun c1 => ?_) (fun c1 => ?_)
  · try rw [mI_lt0 ⟨by omega, by omega⟩] at c1
    refine mu_vret E rfl (by decide) (by decide) dX10_keep_17 ?_
    first | exact ⟨rfl, by rw [if_pos ⟨by omega, by omega⟩]⟩ | exact ⟨rfl, by rw [if_neg (by omega)]⟩
  · try rw [mI_lt0 ⟨by omega, by omega⟩] at c1
    refine mu_il_1 B dX10_keep_4 ?_
    refine mu_al_0 B dX10_keep_5 ?_
    refine mu_getI B dX10_keep_6 fX10_13 rfl (by assumption) ?_
    rw [hlen]
    refine mu_icmp_ge (tgt := 17) B dX10_keep_9 (by decide) (fun c9 => ?_) (fun c9 => ?_)
    · try rw [mI_le ⟨by omega, by omega⟩ ⟨by omega, by omega⟩] at c9
      refine mu_vret E rfl (by decide) (by decide) dX10_keep_17 ?_
      first | exact ⟨rfl, by rw [if_pos ⟨by omega, by omega⟩]⟩ | exact ⟨rfl, by rw [if_neg (by omega)]⟩
    · try rw [mI_le ⟨by omega, by omega⟩ ⟨by omega, by omega⟩] at c9
      refine mu_al_0 B dX10_keep_12 ?_
      refine mu_il_1 B dX10_keep_13 ?_
      refine mu_putI B dX10_keep_14 fX10_13 fwX10_1 rfl (by assumption) ?_
      refine mu_vret E rfl (by decide) (by decide) dX10_keep_17 ?_
      first | exact ⟨rfl, by rw [if_pos ⟨by omega, by omega⟩]⟩ | exact ⟨rfl, by rw [if_neg (by omega)]⟩

set_option maxHeartbeats 4000000 in
set_option maxRecDepth 100000 in
theorem c_X10_byteAt (G : mu_G) {w : mu_W} {t n : Nat} {tp : Nat → Nat} (ht : CT w t n tp) {i : Nat} (hi : i < 2147483648) : mu_Ct G M_X10_byteAt [.ref t, .int (mI i)] w (fun r w' => r = some (.int (mI (tb n tp i))) ∧ w' = w) := by
  obtain ⟨kt, rt, ka, hok, hlen, hby⟩ := id ht
  have hn2 := hok.1
  refine mu_ofWA G M_X10_byteAt [.ref t, .int (mI i)] (by decide) rfl (Nat.le_of_ble_eq_true rfl) ?_
  intro X E
  have B : mu_B X G cX10_byteAt RX10 2 (mu_rm M_X10_byteAt) := E.1
  show mu_WA X G 2 _ _ 0 0 0 _ []
  refine mu_il_1 B dX10_byteAt_0 ?_
  refine mu_if_lt (tgt := 25) B dX10_byteAt_1 (by decide) (fun c1 => ?_) (fun c1 => ?_)
  · try rw [mI_lt0 ⟨by omega, by omega⟩] at c1
    exfalso
    omega
  · try rw [mI_lt0 ⟨by omega, by omega⟩] at c1
    refine mu_il_1 B dX10_byteAt_4 ?_
    refine mu_al_0 B dX10_byteAt_5 ?_
    refine mu_getI B dX10_byteAt_6 fX10_13 rfl (by assumption) ?_
    rw [hlen]
    refine mu_icmp_ge (tgt := 25) B dX10_byteAt_9 (by decide) (fun c9 => ?_) (fun c9 => ?_)
    · try rw [mI_le ⟨by omega, by omega⟩ ⟨by omega, by omega⟩] at c9
      refine mu_iconst (v := mI (-1)) B dX10_byteAt_25 rfl ?_
      refine mu_iret E rfl (by decide) (by decide) dX10_byteAt_26 ?_
      unfold tb
      first | exact ⟨by rw [if_pos (by omega)], rfl⟩ | exact ⟨by rw [if_neg (by omega)], rfl⟩
    · try rw [mI_le ⟨by omega, by omega⟩ ⟨by omega, by omega⟩] at c9
      refine mu_al_0 B dX10_byteAt_12 ?_
      refine mu_getR B dX10_byteAt_13 fX10_9 rfl (by assumption) (by assumption) ?_
      refine mu_il_1 B dX10_byteAt_16 ?_
      refine mu_bald B dX10_byteAt_17 (by assumption) (mI_inN (by omega) (by decide)) ?_
      rw [mI_clampN (by omega), hby i (by omega)]
      refine mu_sipush (v := mI 255) B dX10_byteAt_18 (by decide) ?_
      refine mu_iand B dX10_byteAt_21 ?_
      rw [mb_and (hok.2 i (by omega))]
      refine mu_goto (tgt := 26) B dX10_byteAt_22 (by decide) ?_
      refine mu_iret E rfl (by decide) (by decide) dX10_byteAt_26 ?_
      unfold tb
      first | exact ⟨by rw [if_pos (by omega)], rfl⟩ | exact ⟨by rw [if_neg (by omega)], rfl⟩

def ap_S (t : Nat) : Nat → Nat → Prop := fun q j => (q = t ∧ j = 1) ∨ q = t + 1
def ct_ap (n : Nat) (tp : Nat → Nat) (x : Int32) (k : Nat) : Nat → Nat := fun j => if j < n then tp j else mu_by x (j - n)
def ap_post (w : mu_W) (t n : Nat) (tp : Nat → Nat) (r : Option Value) (w' : mu_W) : Prop := r = none ∧ mu_Fi (ap_S t) w w' ∧ CT w' t n tp

set_option maxHeartbeats 4000000 in
set_option maxRecDepth 100000 in
theorem c_X10_append (G : mu_G) {w : mu_W} {t n : Nat} {tp : Nat → Nat} (ht : CT w t n tp) (hn4 : n + 4 ≤ 2000) {x : Int32} : mu_Ct G M_X10_append [.ref t, .int x] w (ap_post w t (n + 4) (ct_ap n tp x 4)) := by
  refine mu_ofWA G M_X10_append [.ref t, .int x, mu_no] (by decide) rfl (Nat.le_of_ble_eq_true rfl) ?_
  intro X E
  have B : mu_B X G cX10_append RX10 3 (mu_rm M_X10_append) := E.1
  have LA : ∀ k (s : mu_W), k ≤ 4 → (mu_Fi (ap_S t) w s ∧ CT s t (n + k) (ct_ap n tp x k)) → mu_WA X G 3 (mu_Q X G M_X10_append (ap_post w t (n + 4) (ct_ap n tp x 4))) s 0 0 3 [.ref t, .int x, .int (mI (24 - 8 * (k : Int)))] [] := by
    refine mu_ind (4) (fun k (s : mu_W) => mu_WA X G 3 (mu_Q X G M_X10_append (ap_post w t (n + 4) (ct_ap n tp x 4))) s 0 0 3 [.ref t, .int x, .int (mI (24 - 8 * (k : Int)))] []) (fun k (s : mu_W) => mu_Fi (ap_S t) w s ∧ CT s t (n + k) (ct_ap n tp x k)) ?_
    rintro k s hk ⟨hF, hct⟩ ih
    obtain ⟨kt, rt, ka, hok, hlen, hby⟩ := id hct
    refine mu_il_2 B dX10_append_3 ?_
    refine mu_if_lt (tgt := 48) B dX10_append_4 (by decide) (fun c4 => ?_) (fun c4 => ?_)
    · try rw [mI_lt0 ⟨by omega, by omega⟩] at c4
      obtain rfl : 4 = k := by omega
      refine mu_vret E rfl (by decide) (by decide) dX10_append_48 ?_
      exact ⟨rfl, hF, hct⟩
    · try rw [mI_lt0 ⟨by omega, by omega⟩] at c4
      refine mu_al_0 B dX10_append_7 ?_
      refine mu_getI B dX10_append_8 fX10_13 rfl (by assumption) ?_
      rw [hlen]
      refine mu_al_0 B dX10_append_11 ?_
      refine mu_getR B dX10_append_12 fX10_9 rfl (by assumption) (by assumption) ?_
      refine mu_len (ka := 2) B dX10_append_15 (by assumption) (by decide) ?_
      refine mu_icmp_ge (tgt := 48) B dX10_append_16 (by decide) (fun c16 => ?_) (fun c16 => ?_)
      · try rw [mI_le ⟨by omega, by omega⟩ ⟨by omega, by omega⟩] at c16
        exfalso
        omega
      · try rw [mI_le ⟨by omega, by omega⟩ ⟨by omega, by omega⟩] at c16
        refine mu_al_0 B dX10_append_19 ?_
        refine mu_getR B dX10_append_20 fX10_9 rfl (by assumption) (by assumption) ?_
        refine mu_al_0 B dX10_append_23 ?_
        refine mu_getI B dX10_append_24 fX10_13 rfl (by assumption) ?_
        rw [hlen]
        refine mu_il_1 B dX10_append_27 ?_
        refine mu_il_2 B dX10_append_28 ?_
        refine mu_iushr B dX10_append_29 rfl ?_
        refine mu_i2b B dX10_append_30 rfl ?_
        rw [mu_by_i8 x (k := k) (by omega) (by omega)]
        refine mu_bast B dX10_append_31 (by assumption) (mI_inN (by omega) (by decide)) ?_
        rw [mI_clampN (by omega), show (mI (mu_by x k : Int)).toInt8.toInt32 = mb (mu_by x k) from rfl, mb_mb _ (mu_by_lt x k)]
        refine mu_al_0 B dX10_append_32 ?_
        refine mu_dup B dX10_append_33 rfl ?_
        refine mu_getI B dX10_append_34 fX10_13 rfl (by assumption) ?_
        rw [mu_iv_oth _ _ (by omega), hlen]
        refine mu_iconst (v := mI 1) B dX10_append_37 rfl ?_
        refine mu_iadd B dX10_append_38 ?_
        try rw [mI_add]
        refine mu_putI B dX10_append_39 fX10_13 fwX10_1 rfl (by assumption) ?_
        rw [show ((n + k : Nat) : Int) + 1 = ((n + (k + 1) : Nat) : Int) by omega]
        refine mu_inc_2 (c := mI (-8)) B dX10_append_42 rfl (by decide) rfl ?_
        try rw [mI_add]
        refine mu_goto (tgt := 3) B dX10_append_45 (by decide) ?_
        refine mu_to (ih _ (by omega) ⟨(hF.si (Or.inr rfl)).si (Or.inl ⟨rfl, rfl⟩), kt, rt, ka, ⟨by omega, fun j hj => ?_⟩, mu_iv_same _ _ _ _, fun j hj => ?_⟩) rfl (by rw [show (24 : Int) - 8 * ((k + 1 : Nat) : Int) = 24 - 8 * (k : Int) + -8 by omega])
        · unfold ct_ap
          by_cases e9 : j < n
          · rw [if_pos e9]; exact ht.2.2.2.1.2 j e9
          · rw [if_neg e9]; exact mu_by_lt _ _
        · rw [mu_iv_oth _ _ (by omega)]
          by_cases e9 : j = n + k
          · rw [e9, mu_iv_same]; unfold ct_ap; rw [if_neg (by omega), Nat.add_sub_cancel_left]
          · rw [mu_iv_oth _ _ (by omega)]
            exact (hby j (by omega))
  show mu_WA X G 3 _ _ 0 0 0 _ []
  refine mu_bipush (v := mI 24) B dX10_append_0 (by decide) ?_
  refine mu_is_2 B dX10_append_2 (by decide) rfl ?_
  refine LA 0 w (by decide) ⟨mu_Fi.refl _, ht.1, ht.2.1, ht.2.2.1, ⟨ht.2.2.2.1.1, fun j hj => ?_⟩, ht.2.2.2.2.1, fun j hj => ?_⟩
  · unfold ct_ap; rw [if_pos (by omega)]; exact ht.2.2.2.1.2 j (by omega)
  · unfold ct_ap; rw [if_pos (by omega)]; exact ht.2.2.2.2.2 j (by omega)

/-! ===== the class reads a rule ===== -/
def rq_S (q : Nat) : Nat → Nat → Prop := fun a j => a = q ∧ j < 5
/-- the reader at q, the tape at t, the place p -/
def CRd (w0 : mu_W) (q t n : Nat) (tp : Nat → Nat) (w : mu_W) (p : Nat) : Prop := mu_kd w q = some (5, 0) ∧ CT w t n tp ∧ mu_iv w q 4 = mI p ∧ p ≤ 2000 ∧ mu_Fi (rq_S q) w0 w
theorem CRd.si {w0 w : mu_W} {q t n p k : Nat} {tp : Nat → Nat} {x : Int32} (h : CRd w0 q t n tp w p) (hk : k < 4) : CRd w0 q t n tp (mu_si w q k x) p := by
  obtain ⟨h1, h2, h3, h4, h5⟩ := h
  have hqt : q ≠ t := fun e => by rw [e] at h1; have := h1.symm.trans h2.1; simp at this
  have hqt2 : q ≠ t + 1 := fun e => by rw [e] at h1; have := h1.symm.trans h2.2.2.1; simp at this
  exact ⟨h1, h2.fi (S := fun a j => a = q) ((mu_Fi.refl _).si rfl) (fun e => hqt e.symm) (fun j e => hqt2 e.symm), by rw [mu_iv_oth _ _ (by omega)]; exact h3, h4, h5.si ⟨rfl, by omega⟩⟩
theorem CRd.at {w0 w : mu_W} {q t n p p' : Nat} {tp : Nat → Nat} (h : CRd w0 q t n tp w p) (hp : p' ≤ 2000) : CRd w0 q t n tp (mu_si w q 4 (mI p')) p' := by
  obtain ⟨h1, h2, h3, h4, h5⟩ := h
  have hqt : q ≠ t := fun e => by rw [e] at h1; have := h1.symm.trans h2.1; simp at this
  have hqt2 : q ≠ t + 1 := fun e => by rw [e] at h1; have := h1.symm.trans h2.2.2.1; simp at this
  exact ⟨h1, h2.fi (S := fun a j => a = q) ((mu_Fi.refl _).si rfl) (fun e => hqt e.symm) (fun j e => hqt2 e.symm), mu_iv_same _ _ _ _, hp, h5.si ⟨rfl, by omega⟩⟩
theorem CRd.ne {w0 w : mu_W} {q t n p : Nat} {tp : Nat → Nat} (h : CRd w0 q t n tp w p) : q ≠ t ∧ q ≠ t + 1 := ⟨fun e => by have h1 := h.1; rw [e] at h1; have := h1.symm.trans h.2.1.1; simp at this, fun e => by have h1 := h.1; rw [e] at h1; have := h1.symm.trans h.2.1.2.2.1; simp at this⟩
def tk_post (w0 : mu_W) (q t n : Nat) (tp : Nat → Nat) (w : mu_W) (p : Nat) (c : Int) (r : Option Value) (w' : mu_W) : Prop := r = some (.int (if tb n tp p = c then mI 1 else mI 0)) ∧ CRd w0 q t n tp w' (if tb n tp p = c then p + 1 else p) ∧ ∀ j, j < 4 → mu_iv w' q j = mu_iv w q j

set_option maxHeartbeats 4000000 in
set_option maxRecDepth 100000 in
theorem c_X5_take (G : mu_G) {w : mu_W} {w0 : mu_W} {q t n p : Nat} {tp : Nat → Nat} (h : CRd w0 q t n tp w p) {c : Int} (hc : 0 ≤ c ∧ c < 256) : mu_Ct G M_X5_take [.ref q, .ref t, .int (mI c)] w (tk_post w0 q t n tp w p c) := by
  have hk5 := h.1
  have hp2 := h.2.2.2.1
  have hb := tb_bd h.2.1.2.2.2.1 p
  refine mu_ofWA G M_X5_take [.ref q, .ref t, .int (mI c)] (by decide) rfl (Nat.le_of_ble_eq_true rfl) ?_
  intro X E
  have B : mu_B X G cX5_take RX5 3 (mu_rm M_X5_take) := E.1
  show mu_WA X G 3 _ _ 0 0 0 _ []
  refine mu_al_1 B dX5_take_0 ?_
  refine mu_al_0 B dX5_take_1 ?_
  refine mu_getI B dX5_take_2 fX5_22 rfl (by assumption) ?_
  rw [h.2.2.1]
  refine mu_eV1 B dX5_take_5 mX5_25 ⟨⟨by decide, by decide⟩, by decide, by decide⟩ (Nat.le_of_ble_eq_true rfl) h.2.1.1 (c_X10_byteAt G h.2.1 (i := p) (by omega)) ?_
  refine mu_il_2 B dX5_take_8 ?_
  refine mu_icmp_eq (tgt := 14) B dX5_take_9 (by decide) (fun c9 => ?_) (fun c9 => ?_)
  · try rw [mI_eq ⟨by omega, by omega⟩ ⟨by omega, by omega⟩] at c9
    refine mu_al_0 B dX5_take_14 ?_
    refine mu_dup B dX5_take_15 rfl ?_
    refine mu_getI B dX5_take_16 fX5_22 rfl (by assumption) ?_
    rw [h.2.2.1]
    refine mu_iconst (v := mI 1) B dX5_take_19 rfl ?_
    refine mu_iadd B dX5_take_20 ?_
    try rw [mI_add]
    refine mu_putI B dX5_take_21 fX5_22 fwX5_4 rfl (by assumption) ?_
    rw [show (p : Int) + 1 = ((p + 1 : Nat) : Int) by omega]
    refine mu_iconst (v := mI 1) B dX5_take_24 rfl ?_
    refine mu_zret E rfl (by decide) (by decide) dX5_take_25 (by decide) ?_
    have hin := tb_in (n := n) (tp := tp) (i := p) (by omega)
    have hn2 := h.2.1.2.2.2.1.1
    exact ⟨by rw [if_pos c9], by rw [if_pos c9]; exact h.at (by omega), fun j hj => mu_iv_oth _ _ (by omega)⟩
  · try rw [mI_eq ⟨by omega, by omega⟩ ⟨by omega, by omega⟩] at c9
    refine mu_iconst (v := mI 0) B dX5_take_12 rfl ?_
    refine mu_zret E rfl (by decide) (by decide) dX5_take_13 (by decide) ?_
    exact ⟨by rw [if_neg c9], by rw [if_neg c9]; exact h, fun _ _ => rfl⟩

def ts_post (w0 : mu_W) (q t n : Nat) (tp : Nat → Nat) (w : mu_W) (d : Nat × Nat) (r : Option Value) (w' : mu_W) : Prop := r = some (.int (mI d.2)) ∧ CRd w0 q t n tp w' d.1 ∧ ∀ j, j < 4 → mu_iv w' q j = mu_iv w q j

set_option maxHeartbeats 4000000 in
set_option maxRecDepth 100000 in
theorem c_X5_takeSet (G : mu_G) {w : mu_W} {w0 : mu_W} {q t n p : Nat} {tp : Nat → Nat} (h : CRd w0 q t n tp w p) : mu_Ct G M_X5_takeSet [.ref q, .ref t] w (ts_post w0 q t n tp w (sp_dg (tb n tp) 9 p 0 0)) := by
  obtain ⟨fin, hfin⟩ : ∃ d, sp_dg (tb n tp) 9 p 0 0 = d := ⟨_, rfl⟩
  rw [hfin]
  refine mu_ofWA G M_X5_takeSet [.ref q, .ref t, mu_no, mu_no, mu_no] (by decide) rfl (Nat.le_of_ble_eq_true rfl) ?_
  intro X E
  have B : mu_B X G cX5_takeSet RX5 5 (mu_rm M_X5_takeSet) := E.1
  have LS : ∀ st : Nat × Nat × Nat × mu_W, (CRd w0 q t n tp st.2.2.2 st.1 ∧ (∀ j, j < 4 → mu_iv st.2.2.2 q j = mu_iv w q j) ∧ st.2.1 ≤ 9 ∧ st.2.2.1 < 512 ∧ ∃ f, 9 ≤ f + st.2.1 ∧ sp_dg (tb n tp) f st.1 st.2.1 st.2.2.1 = fin) → mu_WA X G 5 (mu_Q X G M_X5_takeSet (ts_post w0 q t n tp w fin)) st.2.2.2 0 0 4 [.ref q, .ref t, .int (mI (st.2.2.1 : Int)), .int (mI (st.2.1 : Int)), mu_no] [] := by
    refine mu_wf (fun st => 9 - st.2.1) _ _ ?_
    rintro ⟨p1, le, ds, s⟩ ⟨hr, hsm, h2, h3, f, h4, h5⟩ ih
    dsimp only at hr hsm h2 h3 h4 h5 ih ⊢
    have hk5 := hr.1
    have hp2 := hr.2.2.2.1
    have hbb := tb_bd hr.2.1.2.2.2.1 p1
    have hend : ¬ (48 + (le : Int) ≤ tb n tp p1 ∧ tb n tp p1 ≤ 56) → ts_post w0 q t n tp w fin (some (.int (mI (ds : Int)))) s := fun hc => by
      rw [sp_dg_stop _ _ _ _ _ hc] at h5
      subst h5
      exact ⟨rfl, hr, hsm⟩
    refine mu_il_3 B dX5_takeSet_4 ?_
    refine mu_bipush (v := mI 8) B dX5_takeSet_5 (by decide) ?_
    refine mu_icmp_gt (tgt := 63) B dX5_takeSet_7 (by decide) (fun c7 => ?_) (fun c7 => ?_)
    · try rw [mI_lt ⟨by omega, by omega⟩ ⟨by omega, by omega⟩] at c7
      refine mu_il_2 B dX5_takeSet_63 ?_
      refine mu_iret E rfl (by decide) (by decide) dX5_takeSet_64 ?_
      exact hend (by omega)
    · try rw [mI_lt ⟨by omega, by omega⟩ ⟨by omega, by omega⟩] at c7
      refine mu_al_1 B dX5_takeSet_10 ?_
      refine mu_al_0 B dX5_takeSet_11 ?_
      refine mu_getI B dX5_takeSet_12 fX5_22 rfl (by assumption) ?_
      rw [hr.2.2.1]
      refine mu_eV1 B dX5_takeSet_15 mX5_25 ⟨⟨by decide, by decide⟩, by decide, by decide⟩ (Nat.le_of_ble_eq_true rfl) hr.2.1.1 (c_X10_byteAt G hr.2.1 (i := p1) (by omega)) ?_
      refine mu_bipush (v := mI 48) B dX5_takeSet_18 (by decide) ?_
      refine mu_isub B dX5_takeSet_20 ?_
      try rw [mI_sub]
      refine mu_is_4 B dX5_takeSet_21 (by decide) rfl ?_
      refine mu_il_4 B dX5_takeSet_23 ?_
      refine mu_il_3 B dX5_takeSet_25 ?_
      refine mu_icmp_lt (tgt := 36) B dX5_takeSet_26 (by decide) (fun c26 => ?_) (fun c26 => ?_)
      · try rw [mI_lt ⟨by omega, by omega⟩ ⟨by omega, by omega⟩] at c26
        refine mu_il_2 B dX5_takeSet_36 ?_
        refine mu_iret E rfl (by decide) (by decide) dX5_takeSet_37 ?_
        exact hend (by omega)
      · try rw [mI_lt ⟨by omega, by omega⟩ ⟨by omega, by omega⟩] at c26
        refine mu_il_4 B dX5_takeSet_29 ?_
        refine mu_bipush (v := mI 8) B dX5_takeSet_31 (by decide) ?_
        refine mu_icmp_le (tgt := 38) B dX5_takeSet_33 (by decide) (fun c33 => ?_) (fun c33 => ?_)
        · try rw [mI_le ⟨by omega, by omega⟩ ⟨by omega, by omega⟩] at c33
          rw [show tb n tp p1 - 48 = ((tb n tp p1 - 48).toNat : Int) by omega]
          refine mu_il_2 B dX5_takeSet_38 ?_
          refine mu_iconst (v := mI 1) B dX5_takeSet_39 rfl ?_
          refine mu_il_4 B dX5_takeSet_40 ?_
          refine mu_ishl B dX5_takeSet_42 ?_
          rw [mI_shl _ _ (by omega), Int.one_mul]
          rw [show (2 : Int) ^ (tb n tp p1 - 48).toNat = ((2 ^ (tb n tp p1 - 48).toNat : Nat) : Int) by rw [Int.natCast_pow]; rfl]
          refine mu_ior B dX5_takeSet_43 ?_
          rw [mI_or (by omega) (Nat.lt_of_lt_of_le (Nat.pow_lt_pow_right (by decide) (show (tb n tp p1 - 48).toNat < 9 by omega)) (by decide))]
          refine mu_is_2 B dX5_takeSet_44 (by decide) rfl ?_
          refine mu_il_4 B dX5_takeSet_45 ?_
          refine mu_iconst (v := mI 1) B dX5_takeSet_47 rfl ?_
          refine mu_iadd B dX5_takeSet_48 ?_
          try rw [mI_add]
          refine mu_is_3 B dX5_takeSet_49 (by decide) rfl ?_
          refine mu_al_0 B dX5_takeSet_50 ?_
          refine mu_dup B dX5_takeSet_51 rfl ?_
          refine mu_getI B dX5_takeSet_52 fX5_22 rfl (by assumption) ?_
          rw [hr.2.2.1]
          refine mu_iconst (v := mI 1) B dX5_takeSet_55 rfl ?_
          refine mu_iadd B dX5_takeSet_56 ?_
          try rw [mI_add]
          refine mu_putI B dX5_takeSet_57 fX5_22 fwX5_4 rfl (by assumption) ?_
          rw [show (p1 : Int) + 1 = ((p1 + 1 : Nat) : Int) by omega]
          refine mu_goto (tgt := 4) B dX5_takeSet_60 (by decide) ?_
          generalize hd : (tb n tp p1 - 48).toNat = dd at *
          have hin := tb_in (n := n) (tp := tp) (i := p1) (by omega)
          have hn2 := hr.2.1.2.2.2.1.1
          have e3 : ds ||| 2 ^ dd < 512 := Nat.or_lt_two_pow (n := 9) h3 (Nat.pow_lt_pow_right (by decide) (by omega))
          refine mu_fg (ih (p1 + 1, dd + 1, ds ||| 2 ^ dd, _) ⟨hr.at (p' := p1 + 1) (by omega), fun j hj => (mu_iv_oth _ _ (by omega)).trans (hsm j hj), by show dd + 1 ≤ 9; omega, e3, ?_⟩ (by show 9 - (dd + 1) < 9 - le; omega)) rfl (by rw [show ((dd + 1 : Nat) : Int) = (dd : Int) + 1 by omega]; exact ⟨Or.inl rfl, Or.inl rfl, Or.inl rfl, Or.inl rfl, Or.inr rfl, trivial⟩)
          cases f with
          | zero => omega
          | succ f =>
            rw [sp_dg, if_pos ⟨by omega, by omega⟩, hd] at h5
            exact ⟨f, by show 9 ≤ f + (dd + 1); omega, h5⟩
        · try rw [mI_le ⟨by omega, by omega⟩ ⟨by omega, by omega⟩] at c33
          refine mu_il_2 B dX5_takeSet_36 ?_
          refine mu_iret E rfl (by decide) (by decide) dX5_takeSet_37 ?_
          exact hend (by omega)
  show mu_WA X G 5 _ _ 0 0 0 _ []
  refine mu_iconst (v := mI 0) B dX5_takeSet_0 rfl ?_
  refine mu_is_2 B dX5_takeSet_1 (by decide) rfl ?_
  refine mu_iconst (v := mI 0) B dX5_takeSet_2 rfl ?_
  refine mu_is_3 B dX5_takeSet_3 (by decide) rfl ?_
  exact LS (p, 0, 0, w) ⟨h, fun _ _ => rfl, by show 0 ≤ 9; decide, by show 0 < 512; decide, 9, Nat.le_refl _, hfin⟩

set_option maxHeartbeats 4000000 in
set_option maxRecDepth 100000 in
theorem c_X5_neighboursOf (G : mu_G) {w : mu_W} {z : Int} (hz : mi_ok z) : mu_Ct G M_X5_neighboursOf [.int (mI z)] w (fun r w' => r = some (.int (mI (sp_nb z : Nat))) ∧ w' = w) := by
  obtain ⟨hz1, hz2⟩ := hz
  refine mu_ofWA G M_X5_neighboursOf [.int (mI z)] (by decide) rfl (Nat.le_of_ble_eq_true rfl) ?_
  intro X E
  have B : mu_B X G cX5_neighboursOf RX5 1 (mu_rm M_X5_neighboursOf) := E.1
  refine mu_il_0 B dX5_neighboursOf_0 ?_
  by_cases h77 : z = 77
  · subst h77
    refine mu_lookup (off := 35) (tgt := 36) B dX5_neighboursOf_1 (by decide) (by decide) (by decide) ?_
    refine mu_bipush (v := mI 8) B dX5_neighboursOf_36 (by decide) ?_
    refine mu_iret E rfl (by decide) (by decide) dX5_neighboursOf_38 ?_
    exact ⟨rfl, rfl⟩
  by_cases h86 : z = 86
  · subst h86
    refine mu_lookup (off := 38) (tgt := 39) B dX5_neighboursOf_1 (by decide) (by decide) (by decide) ?_
    refine mu_iconst (v := mI 4) B dX5_neighboursOf_39 rfl ?_
    refine mu_iret E rfl (by decide) (by decide) dX5_neighboursOf_40 ?_
    exact ⟨rfl, rfl⟩
  by_cases h88 : z = 88
  · subst h88
    refine mu_lookup (off := 40) (tgt := 41) B dX5_neighboursOf_1 (by decide) (by decide) (by decide) ?_
    refine mu_bipush (v := mI 6) B dX5_neighboursOf_41 (by decide) ?_
    refine mu_iret E rfl (by decide) (by decide) dX5_neighboursOf_43 ?_
    exact ⟨rfl, rfl⟩
  refine mu_lookup (off := 43) (tgt := 44) B dX5_neighboursOf_1 (by decide) ?_ (by decide) ?_
  · rw [mI_toInt ⟨by omega, by omega⟩]
    show Op.lookupswitch.offset [(77, 35), (86, 38), (88, 40)] 43 z = 43
    rw [Op.lookupswitch.offset_cons, if_neg (fun e => h77 e.symm), Op.lookupswitch.offset_cons, if_neg (fun e => h86 e.symm), Op.lookupswitch.offset_cons, if_neg (fun e => h88 e.symm), Op.lookupswitch.offset_nil]
  refine mu_iconst (v := mI 0) B dX5_neighboursOf_44 rfl ?_
  refine mu_iret E rfl (by decide) (by decide) dX5_neighboursOf_45 ?_
  refine ⟨?_, rfl⟩
  unfold sp_nb
  rw [if_neg h77, if_neg h86, if_neg h88]
  rfl
