/-! ===== arrays copied: the other cells stay ===== -/
def mu_lc (w : mu_W) (a a0 n : Nat) : mu_W := (w.1, w.2.1, w.2.2.1, (fun b j => if b = a ∧ j < n then w.2.2.2.1 a0 j else w.2.2.2.1 b j), w.2.2.2.2)
def mu_ic (w : mu_W) (a a0 n : Nat) : mu_W := (w.1, w.2.1, (fun b j => if b = a ∧ j < n then w.2.2.1 a0 j else w.2.2.1 b j), w.2.2.2.1, w.2.2.2.2)
theorem mu_lg_lc (w : mu_W) (a a0 n b j : Nat) : mu_lg (mu_lc w a a0 n) b j = if b = a ∧ j < n then mu_lg w a0 j else mu_lg w b j := rfl
theorem mu_iv_ic (w : mu_W) (a a0 n b j : Nat) : mu_iv (mu_ic w a a0 n) b j = if b = a ∧ j < n then mu_iv w a0 j else mu_iv w b j := rfl
theorem mu_acL {X : mu_X} {G : mu_G} {cc : ByteArray} {own : String} {nL : Nat} {R : Room} {Qf : State → Prop} {w : mu_W} {kc ks pc : Nat} {lv rest : List Value} {idx : Nat} (B : mu_B X G cc own nL R) (hdg : decode cc pc = .ok (.invokestatic idx, 3)) (hlk : Cond.methodLink own idx arraycopyName ∈ lw_gd) (hR : 1 ≤ R.frames ∧ 60 ≤ R.locals) (hst : (rest.map fun v => v.category).sum ≤ 8) {a0 a N0 N1 n : Nat} (hk0 : mu_kd w a0 = some (101, N0)) (hk1 : mu_kd w a = some (101, N1)) (h0 : n ≤ N0) (h1 : n ≤ N1) (hn : n ≤ 1000000) (k : mu_WA X G nL Qf (mu_lc w a a0 n) kc ks (pc + 3) lv rest) : mu_WA X G nL Qf w kc ks pc lv (.int (mI n) :: .int (mI 0) :: .ref a :: .int (mI 0) :: .ref a0 :: rest) := fun H locs ls hH hS hl => by
  have hts := B.2.2.2.2.1
  have hRR := B.2.2.2.2.2.2
  have q0 : H[a0]? = some (vp_cell (G.2.1 1) (N0, .inr (.inl (mu_lg w a0)))) := hH.arr hk0 (by decide)
  have q1 : H[a]? = some (vp_cell (G.2.1 1) (N1, .inr (.inl (mu_lg w a)))) := hH.arr hk1 (by decide)
  have z0 : (mI 0).toNatClampNeg = 0 := by decide
  have zn : (mI (n : Int)).toNatClampNeg = n := mI_clampN (by omega)
  have i0 : (mI 0).toInt = 0 := by decide
  have iN : (mI (n : Int)).toInt = (n : Int) := mI_toInt ⟨by omega, by omega⟩
  have n0 : ¬ mI 0 < 0 := by decide
  have nN : ¬ mI (n : Int) < 0 := by
    rw [show (0 : Int32) = mI 0 from rfl, mI_lt ⟨by omega, by omega⟩ ⟨by omega, by omega⟩]; omega
  obtain ⟨-, k0, g0, cm0, f0⟩ := (B.2.2.2.2.2.1.1.2 1 _ rfl).1 N0 (fun j => .long (mu_lg w a0 j))
  obtain ⟨-, k1, g1, cm1, f1⟩ := (B.2.2.2.2.2.1.1.2 1 _ rfl).1 N1 (fun j => .long (mu_lg w a j))
  intro T hT Xr
  obtain ⟨vm', X', step⟩ := Xr.arraycopy B.1 B.2.2.2.1 (hts _ hlk) (hts _ ac_n) (hts _ ac_s) (hts _ ac_i) (src := a0) (dst := a) (cs := vp_cell (G.2.1 1) (N0, .inr (.inl (mu_lg w a0)))) (cd := vp_cell (G.2.1 1) (N1, .inr (.inl (mu_lg w a)))) (srcPos := mI 0) (destPos := mI 0) (n := mI (n : Int)) (by rw [hT]; exact q0) (by rw [hT]; exact q1)
    (fun _ h => by cases h) (fun _ h => by cases h) (fun h => by cases h) (fun h => by cases h) g0 g1 f0 f1 (by simp [refKind]) n0 n0 nN
    (by rw [i0, iN]; show ¬ _ > ((arrV _ N0 _).slots.size : Int); rw [arrV_size]; omega)
    (by rw [i0, iN]; show ¬ _ > ((arrV _ N1 _).slots.size : Int); rw [arrV_size]; omega)
    (fun vm1 _ i hi => by
      rw [zn] at hi
      have e : (vp_cell (G.2.1 1) (N0, .inr (.inl (mu_lg w a0)))).slots.getD ((mI 0).toNatClampNeg + i) .null = .long (mu_lg w a0 i) := by
        show (arrV _ N0 (fun j => .long (mu_lg w a0 j))).slots.getD _ _ = _
        rw [z0, Nat.zero_add, Array.getD_eq_getD_getElem?, arrV_read _ _ (by omega)]
        rfl
      rw [e]
      exact ⟨rfl, trivial⟩)
    (g := F0 _ pc ls (.int (mI n) :: .int (mI 0) :: .ref a :: .int (mI 0) :: .ref a0 :: rest)) rfl (by rw [B.2.2.1]; exact hl.1) (rest := rest) rfl (by rw [B.2.1]; exact hdg) (by rw [hRR]; exact hR.1) (by rw [hRR]; have := hR.2; show 2 * 0 + _ + (nativeFrameWords "java/lang/System" "arraycopy" 5 + 11) ≤ _; have e9 : nativeFrameWords "java/lang/System" "arraycopy" 5 + 11 ≤ 52 := (by decide); omega)
  have ev : (fun j => va_cpy (mu_lg w a0) (mu_lg w a) (mI 0).toNatClampNeg (mI 0).toNatClampNeg (mI (n : Int)).toNatClampNeg j) = mu_lg (mu_lc w a a0 n) a := by
    funext j
    rw [z0, zn]
    show (if 0 ≤ j ∧ j < 0 + n then mu_lg w a0 (0 + (j - 0)) else mu_lg w a j) = if a = a ∧ j < n then mu_lg w a0 j else mu_lg w a j
    by_cases hj : j < n
    · rw [if_pos ⟨Nat.zero_le _, by omega⟩, if_pos ⟨rfl, hj⟩, Nat.zero_add, Nat.sub_zero]
    · rw [if_neg (by omega), if_neg (by omega)]
  have e1 : copied (vp_cell (G.2.1 1) (N0, .inr (.inl (mu_lg w a0)))) (vp_cell (G.2.1 1) (N1, .inr (.inl (mu_lg w a)))) (mI 0) (mI 0) (mI (n : Int)) = vp_cell (G.2.1 1) (N1, .inr (.inl (mu_lg (mu_lc w a a0 n) a))) := by
    rw [← ev]
    exact va_copied (fun z => .long z) _ _ (mu_lg w a0) (mu_lg w a) (by rw [z0, zn]; omega)
  rw [e1] at X' step
  have hl9 : a < H.size := (Array.getElem?_eq_some_iff.mp q1).1
  have hheap : ((T.setVm vm').setCell a (vp_cell (G.2.1 1) (N1, .inr (.inl (mu_lg (mu_lc w a a0 n) a))))).heap = H.setIfInBounds a (vp_cell (G.2.1 1) (N1, .inr (.inl (mu_lg (mu_lc w a a0 n) a)))) := by rw [← hT]; rfl
  have oq : ∀ q : Nat, q ≠ a → (H.setIfInBounds a (vp_cell (G.2.1 1) (N1, .inr (.inl (mu_lg (mu_lc w a a0 n) a)))))[q]? = H[q]? := fun q hq => by simp [Array.getElem?_setIfInBounds, Ne.symm hq]
  have ha := (hH.2.2 a _ _ hk1).1
  obtain ⟨t, a1, b1⟩ := k _ _ ls (hH.set hk1 rfl (fun _ => rfl) (fun _ _ _ => rfl) (fun b j h => if_neg (fun q => h q.1)) (fun _ _ _ => rfl) (by simp) oq (show (H.setIfInBounds a _)[a]? = some _ by simp [Array.getElem?_setIfInBounds, hl9]; rfl)) ⟨by simp; exact hS.1, fun q g1 g2 => by
      rw [oq q (fun e => g2 (by rw [e]; exact ha))]
      exact hS.2.1 q g1 g2, fun q hq => by
      rcases List.mem_append.mp hq with h | h
      · exact hS.2.2 q h
      · obtain ⟨z, -, hz⟩ := List.mem_map.mp h
        rw [← hz]
        exact ha⟩ hl _ hheap X'
  exact ⟨t, step t a1, b1⟩
theorem mu_acB {X : mu_X} {G : mu_G} {cc : ByteArray} {own : String} {nL : Nat} {R : Room} {Qf : State → Prop} {w : mu_W} {kc ks pc : Nat} {lv rest : List Value} {idx : Nat} (B : mu_B X G cc own nL R) (hdg : decode cc pc = .ok (.invokestatic idx, 3)) (hlk : Cond.methodLink own idx arraycopyName ∈ lw_gd) (hR : 1 ≤ R.frames ∧ 60 ≤ R.locals) (hst : (rest.map fun v => v.category).sum ≤ 8) {a0 a N0 N1 n : Nat} (hk0 : mu_kd w a0 = some (102, N0)) (hk1 : mu_kd w a = some (102, N1)) (h0 : n ≤ N0) (h1 : n ≤ N1) (hn : n ≤ 1000000) (hfit : ∀ i, i < n → fits .byte (.int (mu_iv w a0 i)) = true) (k : mu_WA X G nL Qf (mu_ic w a a0 n) kc ks (pc + 3) lv rest) : mu_WA X G nL Qf w kc ks pc lv (.int (mI n) :: .int (mI 0) :: .ref a :: .int (mI 0) :: .ref a0 :: rest) := fun H locs ls hH hS hl => by
  have hts := B.2.2.2.2.1
  have hRR := B.2.2.2.2.2.2
  have q0 : H[a0]? = some (vp_cell (G.2.1 2) (N0, .inl (mu_iv w a0))) := hH.arr hk0 (by decide)
  have q1 : H[a]? = some (vp_cell (G.2.1 2) (N1, .inl (mu_iv w a))) := hH.arr hk1 (by decide)
  have z0 : (mI 0).toNatClampNeg = 0 := by decide
  have zn : (mI (n : Int)).toNatClampNeg = n := mI_clampN (by omega)
  have i0 : (mI 0).toInt = 0 := by decide
  have iN : (mI (n : Int)).toInt = (n : Int) := mI_toInt ⟨by omega, by omega⟩
  have n0 : ¬ mI 0 < 0 := by decide
  have nN : ¬ mI (n : Int) < 0 := by
    rw [show (0 : Int32) = mI 0 from rfl, mI_lt ⟨by omega, by omega⟩ ⟨by omega, by omega⟩]; omega
  obtain ⟨-, k0, g0, cm0, f0⟩ := (B.2.2.2.2.2.1.1.2 2 _ rfl).1 N0 (fun j => .int (mu_iv w a0 j))
  obtain ⟨-, k1, g1, cm1, f1⟩ := (B.2.2.2.2.2.1.1.2 2 _ rfl).1 N1 (fun j => .int (mu_iv w a j))
  intro T hT Xr
  obtain ⟨vm', X', step⟩ := Xr.arraycopy B.1 B.2.2.2.1 (hts _ hlk) (hts _ ac_n) (hts _ ac_s) (hts _ ac_i) (src := a0) (dst := a) (cs := vp_cell (G.2.1 2) (N0, .inl (mu_iv w a0))) (cd := vp_cell (G.2.1 2) (N1, .inl (mu_iv w a))) (srcPos := mI 0) (destPos := mI 0) (n := mI (n : Int)) (by rw [hT]; exact q0) (by rw [hT]; exact q1)
    (fun _ h => by cases h) (fun _ h => by cases h) (fun h => by cases h) (fun h => by cases h) g0 g1 f0 f1 (by simp [refKind]) n0 n0 nN
    (by rw [i0, iN]; show ¬ _ > ((arrV _ N0 _).slots.size : Int); rw [arrV_size]; omega)
    (by rw [i0, iN]; show ¬ _ > ((arrV _ N1 _).slots.size : Int); rw [arrV_size]; omega)
    (fun vm1 _ i hi => by
      rw [zn] at hi
      have e : (vp_cell (G.2.1 2) (N0, .inl (mu_iv w a0))).slots.getD ((mI 0).toNatClampNeg + i) .null = .int (mu_iv w a0 i) := by
        show (arrV _ N0 (fun j => .int (mu_iv w a0 j))).slots.getD _ _ = _
        rw [z0, Nat.zero_add, Array.getD_eq_getD_getElem?, arrV_read _ _ (by omega)]
        rfl
      rw [e]
      exact ⟨hfit i hi, trivial⟩)
    (g := F0 _ pc ls (.int (mI n) :: .int (mI 0) :: .ref a :: .int (mI 0) :: .ref a0 :: rest)) rfl (by rw [B.2.2.1]; exact hl.1) (rest := rest) rfl (by rw [B.2.1]; exact hdg) (by rw [hRR]; exact hR.1) (by rw [hRR]; have := hR.2; show 2 * 0 + _ + (nativeFrameWords "java/lang/System" "arraycopy" 5 + 11) ≤ _; have e9 : nativeFrameWords "java/lang/System" "arraycopy" 5 + 11 ≤ 52 := (by decide); omega)
  have ev : (fun j => va_cpy (mu_iv w a0) (mu_iv w a) (mI 0).toNatClampNeg (mI 0).toNatClampNeg (mI (n : Int)).toNatClampNeg j) = mu_iv (mu_ic w a a0 n) a := by
    funext j
    rw [z0, zn]
    show (if 0 ≤ j ∧ j < 0 + n then mu_iv w a0 (0 + (j - 0)) else mu_iv w a j) = if a = a ∧ j < n then mu_iv w a0 j else mu_iv w a j
    by_cases hj : j < n
    · rw [if_pos ⟨Nat.zero_le _, by omega⟩, if_pos ⟨rfl, hj⟩, Nat.zero_add, Nat.sub_zero]
    · rw [if_neg (by omega), if_neg (by omega)]
  have e1 : copied (vp_cell (G.2.1 2) (N0, .inl (mu_iv w a0))) (vp_cell (G.2.1 2) (N1, .inl (mu_iv w a))) (mI 0) (mI 0) (mI (n : Int)) = vp_cell (G.2.1 2) (N1, .inl (mu_iv (mu_ic w a a0 n) a)) := by
    rw [← ev]
    exact va_copied (fun z => .int z) _ _ (mu_iv w a0) (mu_iv w a) (by rw [z0, zn]; omega)
  rw [e1] at X' step
  have hl9 : a < H.size := (Array.getElem?_eq_some_iff.mp q1).1
  have hheap : ((T.setVm vm').setCell a (vp_cell (G.2.1 2) (N1, .inl (mu_iv (mu_ic w a a0 n) a)))).heap = H.setIfInBounds a (vp_cell (G.2.1 2) (N1, .inl (mu_iv (mu_ic w a a0 n) a))) := by rw [← hT]; rfl
  have oq : ∀ q : Nat, q ≠ a → (H.setIfInBounds a (vp_cell (G.2.1 2) (N1, .inl (mu_iv (mu_ic w a a0 n) a))))[q]? = H[q]? := fun q hq => by simp [Array.getElem?_setIfInBounds, Ne.symm hq]
  have ha := (hH.2.2 a _ _ hk1).1
  obtain ⟨t, a1, b1⟩ := k _ _ ls (hH.set hk1 rfl (fun _ => rfl) (fun b j h => if_neg (fun q => h q.1)) (fun _ _ _ => rfl) (fun _ _ _ => rfl) (by simp) oq (show (H.setIfInBounds a _)[a]? = some _ by simp [Array.getElem?_setIfInBounds, hl9]; rfl)) ⟨by simp; exact hS.1, fun q g1 g2 => by
      rw [oq q (fun e => g2 (by rw [e]; exact ha))]
      exact hS.2.1 q g1 g2, fun q hq => by
      rcases List.mem_append.mp hq with h | h
      · exact hS.2.2 q h
      · obtain ⟨z, -, hz⟩ := List.mem_map.mp h
        rw [← hz]
        exact ha⟩ hl _ hheap X'
  exact ⟨t, step t a1, b1⟩

/-! ===== a field copied ===== -/
def cpS (a : Nat) : Nat → Nat → Prop := fun e j => (e = a ∧ (j = 2 ∨ (5 ≤ j ∧ j ≤ 9))) ∨ e = a + 1
theorem mu_Fr.lc {S : Nat → Nat → Prop} {w w' : mu_W} (h : mu_Fr S w w') {a a0 n : Nat} (hS : ∀ j, S a j) : mu_Fr S w (mu_lc w' a a0 n) := ⟨h.1, h.2.1, fun b j hn => by
  have := h.2.2 b j hn
  refine ⟨this.1, ?_, this.2.2⟩
  rw [mu_lg_lc, if_neg (fun q : b = a ∧ j < n => hn (by rw [q.1]; exact hS j))]
  exact this.2.1⟩
def cpf_post (w : mu_W) (a a2 : Nat) (d : Nat → Nat → Nat) (L R U D : Int) (M rr : Nat) (r : Option Value) (w' : mu_W) : Prop := r = none ∧ mu_Fr (cpS a) w w' ∧ CFb w' a d ∧ CFm w' a L R U D M ∧ mu_rv w' a 2 = some rr

set_option maxHeartbeats 4000000 in
set_option maxRecDepth 100000 in
theorem c_X1_copyFrom (G : mu_G) {w : mu_W} {a : Nat} (ho : CFo w a) {a2 : Nat} (ho2 : CFo w a2) {d : Nat → Nat → Nat} (hb2 : CFb w a2 d) {L2 R2 U2 D2 : Int} {M2 : Nat} (hm2 : CFm w a2 L2 R2 U2 D2 M2) (hx2 : CMx d L2 R2 U2 D2 M2) {rr : Nat} (hr2 : mu_rv w a2 2 = some rr) (hn2 : a2 ≠ a) : mu_Ct G M_X1_copyFrom [.ref a, .ref a2] w (cpf_post w a a2 d L2 R2 U2 D2 M2 rr) := by
  obtain ⟨ka, r0, k1, r1, k2⟩ := id ho
  obtain ⟨kc, rc0, kc1, rc1, kc2⟩ := id ho2
  have hne : (a2 = a) = False := eq_false hn2
  refine mu_ofWA G M_X1_copyFrom [.ref a, .ref a2] (by decide) rfl (Nat.le_of_ble_eq_true rfl) ?_
  intro X E
  have B : mu_B X G cX1_copyFrom RX1 2 (mu_rm M_X1_copyFrom) := E.1
  show mu_WA X G 2 _ _ 0 0 0 _ []
  refine mu_al_1 B dX1_copyFrom_0 ?_
  refine mu_getR B dX1_copyFrom_1 fX1_9 rfl (by assumption) (by assumption) ?_
  refine mu_iconst (v := mI 0) B dX1_copyFrom_4 rfl ?_
  refine mu_al_0 B dX1_copyFrom_5 ?_
  refine mu_getR B dX1_copyFrom_6 fX1_9 rfl (by assumption) (by assumption) ?_
  refine mu_iconst (v := mI 0) B dX1_copyFrom_9 rfl ?_
  refine mu_al_0 B dX1_copyFrom_10 ?_
  refine mu_getR B dX1_copyFrom_11 fX1_9 rfl (by assumption) (by assumption) ?_
  refine mu_len (ka := 1) B dX1_copyFrom_14 k1 (by decide) ?_
  refine mu_acL (n := 1024) B dX1_copyFrom_15 mlX1_40 ⟨by decide, by decide⟩ (Nat.le_of_ble_eq_true rfl) kc1 k1 (by decide) (by decide) (by decide) ?_
  refine mu_al_0 B dX1_copyFrom_18 ?_
  refine mu_al_1 B dX1_copyFrom_19 ?_
  refine mu_getR B dX1_copyFrom_20 fX1_16 rfl (by exact kc) (by exact hr2) ?_
  refine mu_putR B dX1_copyFrom_23 fX1_16 fwX1_2 rfl rfl (by exact ka) ?_
  refine mu_al_0 B dX1_copyFrom_26 ?_
  refine mu_al_1 B dX1_copyFrom_27 ?_
  refine mu_getI B dX1_copyFrom_28 fX1_46 rfl (by exact kc) ?_
  try simp only [mu_iv_si, hne, false_and, if_false]
  rw [show mu_iv (mu_sr (mu_lc w (a + 1) (a2 + 1) 1024) a 2 (some rr)) a2 5 = mI (M2 : Int) from hm2.1]
  refine mu_putI B dX1_copyFrom_31 fX1_46 fwX1_5 rfl (by exact ka) ?_
  refine mu_al_0 B dX1_copyFrom_34 ?_
  refine mu_al_1 B dX1_copyFrom_35 ?_
  refine mu_getI B dX1_copyFrom_36 fX1_49 rfl (by exact kc) ?_
  try simp only [mu_iv_si, hne, false_and, if_false]
  rw [show mu_iv (mu_sr (mu_lc w (a + 1) (a2 + 1) 1024) a 2 (some rr)) a2 6 = mI L2 from hm2.2.1]
  refine mu_putI B dX1_copyFrom_39 fX1_49 fwX1_6 rfl (by exact ka) ?_
  refine mu_al_0 B dX1_copyFrom_42 ?_
  refine mu_al_1 B dX1_copyFrom_43 ?_
  refine mu_getI B dX1_copyFrom_44 fX1_52 rfl (by exact kc) ?_
  try simp only [mu_iv_si, hne, false_and, if_false]
  rw [show mu_iv (mu_sr (mu_lc w (a + 1) (a2 + 1) 1024) a 2 (some rr)) a2 7 = mI U2 from hm2.2.2.1]
  refine mu_putI B dX1_copyFrom_47 fX1_52 fwX1_7 rfl (by exact ka) ?_
  refine mu_al_0 B dX1_copyFrom_50 ?_
  refine mu_al_1 B dX1_copyFrom_51 ?_
  refine mu_getI B dX1_copyFrom_52 fX1_55 rfl (by exact kc) ?_
  try simp only [mu_iv_si, hne, false_and, if_false]
  rw [show mu_iv (mu_sr (mu_lc w (a + 1) (a2 + 1) 1024) a 2 (some rr)) a2 8 = mI R2 from hm2.2.2.2.1]
  refine mu_putI B dX1_copyFrom_55 fX1_55 fwX1_8 rfl (by exact ka) ?_
  refine mu_al_0 B dX1_copyFrom_58 ?_
  refine mu_al_1 B dX1_copyFrom_59 ?_
  refine mu_getI B dX1_copyFrom_60 fX1_58 rfl (by exact kc) ?_
  try simp only [mu_iv_si, hne, false_and, if_false]
  rw [show mu_iv (mu_sr (mu_lc w (a + 1) (a2 + 1) 1024) a 2 (some rr)) a2 9 = mI D2 from hm2.2.2.2.2]
  refine mu_putI B dX1_copyFrom_63 fX1_58 fwX1_9 rfl (by exact ka) ?_
  refine mu_vret E rfl (by decide) (by decide) dX1_copyFrom_66 ?_
  refine ⟨rfl, ?_, ⟨hb2.1, fun x y hx hy => ?_⟩, ⟨?_, ?_, ?_, ?_, ?_⟩, ?_⟩
  · exact ((((((((mu_Fr.refl _).lc (fun j => Or.inr rfl)).sr (Or.inl ⟨rfl, Or.inl rfl⟩) _).si (Or.inl ⟨rfl, Or.inr ⟨by decide, by decide⟩⟩) _).si (Or.inl ⟨rfl, Or.inr ⟨by decide, by decide⟩⟩) _).si (Or.inl ⟨rfl, Or.inr ⟨by decide, by decide⟩⟩) _).si (Or.inl ⟨rfl, Or.inr ⟨by decide, by decide⟩⟩) _).si (Or.inl ⟨rfl, Or.inr ⟨by decide, by decide⟩⟩) _)
  · rw [← hb2.2 x y hx hy]
    show lb (mu_lg (mu_lc w (a + 1) (a2 + 1) 1024) (a + 1) (4 * y + x / 64)) (x % 64) = _
    rw [mu_lg_lc, if_pos ⟨rfl, by omega⟩]
  · simp [mu_iv_si]
  · simp [mu_iv_si]
  · simp [mu_iv_si]
  · simp [mu_iv_si]
  · simp [mu_iv_si]
  · exact if_pos ⟨rfl, rfl⟩
