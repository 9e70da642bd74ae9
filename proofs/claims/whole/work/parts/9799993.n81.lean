/-! ===== the class: the constructors of Balance and of the whole ===== -/
def mu_m4 (w : mu_W) : mu_W := mu_sr (mu_sr (mu_sr (mu_sr (mu_al (mu_al (mu_al (mu_al (mu_al w 107 4) 101 4) 101 4) 101 4) 101 4) (mu_nx w) 0 (some (mu_nx w + 1))) (mu_nx w) 1 (some (mu_nx w + 2))) (mu_nx w) 2 (some (mu_nx w + 3))) (mu_nx w) 3 (some (mu_nx w + 4))
theorem m4_nx (w : mu_W) : mu_nx (mu_m4 w) = mu_nx w + 5 := rfl
theorem m4_kd (w : mu_W) (b : Nat) : mu_kd (mu_m4 w) b = if mu_nx w < b ∧ b ≤ mu_nx w + 4 then some (101, 4) else if b = mu_nx w then some (107, 4) else mu_kd w b := by
  unfold mu_m4
  rw [mu_kd_sr, mu_kd_sr, mu_kd_sr, mu_kd_sr, mu_kd_al, mu_kd_al, mu_kd_al, mu_kd_al, mu_kd_al]
  show (if b = mu_nx w + 4 then some (101, 4) else if b = mu_nx w + 3 then some (101, 4) else if b = mu_nx w + 2 then some (101, 4) else if b = mu_nx w + 1 then some (101, 4) else if b = mu_nx w then some (107, 4) else mu_kd w b) = _
  have h6 : b < mu_nx w ∨ b = mu_nx w ∨ b = mu_nx w + 1 ∨ b = mu_nx w + 2 ∨ b = mu_nx w + 3 ∨ b = mu_nx w + 4 ∨ mu_nx w + 4 < b := by omega
  rcases h6 with h | h | h | h | h | h | h
  · rw [if_neg (by omega), if_neg (by omega), if_neg (by omega), if_neg (by omega), if_neg (by omega), if_neg (by omega)]
  · rw [if_neg (by omega), if_neg (by omega), if_neg (by omega), if_neg (by omega), if_pos (by omega), if_neg (by omega)]
  · rw [if_neg (by omega), if_neg (by omega), if_neg (by omega), if_pos (by omega), if_pos (by omega)]
  · rw [if_neg (by omega), if_neg (by omega), if_pos (by omega), if_pos (by omega)]
  · rw [if_neg (by omega), if_pos (by omega), if_pos (by omega)]
  · rw [if_pos (by omega), if_pos (by omega)]
  · rw [if_neg (by omega), if_neg (by omega), if_neg (by omega), if_neg (by omega), if_neg (by omega), if_neg (by omega)]
theorem m4_iv (w : mu_W) (b j : Nat) : mu_iv (mu_m4 w) b j = if mu_nx w ≤ b ∧ b ≤ mu_nx w + 4 then 0 else mu_iv w b j := by
  unfold mu_m4
  rw [mu_iv_sr, mu_iv_sr, mu_iv_sr, mu_iv_sr, mu_iv_al, mu_iv_al, mu_iv_al, mu_iv_al, mu_iv_al]
  show (if b = mu_nx w + 4 then (0 : Int32) else if b = mu_nx w + 3 then (0 : Int32) else if b = mu_nx w + 2 then (0 : Int32) else if b = mu_nx w + 1 then (0 : Int32) else if b = mu_nx w then (0 : Int32) else mu_iv w b j) = _
  have h6 : b < mu_nx w ∨ b = mu_nx w ∨ b = mu_nx w + 1 ∨ b = mu_nx w + 2 ∨ b = mu_nx w + 3 ∨ b = mu_nx w + 4 ∨ mu_nx w + 4 < b := by omega
  rcases h6 with h | h | h | h | h | h | h
  · rw [if_neg (by omega), if_neg (by omega), if_neg (by omega), if_neg (by omega), if_neg (by omega), if_neg (by omega)]
  · rw [if_neg (by omega), if_neg (by omega), if_neg (by omega), if_neg (by omega), if_pos (by omega), if_pos (by omega)]
  · rw [if_neg (by omega), if_neg (by omega), if_neg (by omega), if_pos (by omega), if_pos (by omega)]
  · rw [if_neg (by omega), if_neg (by omega), if_pos (by omega), if_pos (by omega)]
  · rw [if_neg (by omega), if_pos (by omega), if_pos (by omega)]
  · rw [if_pos (by omega), if_pos (by omega)]
  · rw [if_neg (by omega), if_neg (by omega), if_neg (by omega), if_neg (by omega), if_neg (by omega), if_neg (by omega)]
theorem m4_lg (w : mu_W) (b j : Nat) : mu_lg (mu_m4 w) b j = if mu_nx w ≤ b ∧ b ≤ mu_nx w + 4 then 0 else mu_lg w b j := by
  unfold mu_m4
  rw [mu_lg_sr, mu_lg_sr, mu_lg_sr, mu_lg_sr, mu_lg_al, mu_lg_al, mu_lg_al, mu_lg_al, mu_lg_al]
  show (if b = mu_nx w + 4 then (0 : Int64) else if b = mu_nx w + 3 then (0 : Int64) else if b = mu_nx w + 2 then (0 : Int64) else if b = mu_nx w + 1 then (0 : Int64) else if b = mu_nx w then (0 : Int64) else mu_lg w b j) = _
  have h6 : b < mu_nx w ∨ b = mu_nx w ∨ b = mu_nx w + 1 ∨ b = mu_nx w + 2 ∨ b = mu_nx w + 3 ∨ b = mu_nx w + 4 ∨ mu_nx w + 4 < b := by omega
  rcases h6 with h | h | h | h | h | h | h
  · rw [if_neg (by omega), if_neg (by omega), if_neg (by omega), if_neg (by omega), if_neg (by omega), if_neg (by omega)]
  · rw [if_neg (by omega), if_neg (by omega), if_neg (by omega), if_neg (by omega), if_pos (by omega), if_pos (by omega)]
  · rw [if_neg (by omega), if_neg (by omega), if_neg (by omega), if_pos (by omega), if_pos (by omega)]
  · rw [if_neg (by omega), if_neg (by omega), if_pos (by omega), if_pos (by omega)]
  · rw [if_neg (by omega), if_pos (by omega), if_pos (by omega)]
  · rw [if_pos (by omega), if_pos (by omega)]
  · rw [if_neg (by omega), if_neg (by omega), if_neg (by omega), if_neg (by omega), if_neg (by omega), if_neg (by omega)]
theorem m4_rv (w : mu_W) (b j : Nat) : mu_rv (mu_m4 w) b j = if b = mu_nx w ∧ j < 4 then some (mu_nx w + 1 + j) else if mu_nx w ≤ b ∧ b ≤ mu_nx w + 4 then none else mu_rv w b j := by
  unfold mu_m4
  rw [mu_rv_sr, mu_rv_sr, mu_rv_sr, mu_rv_sr, mu_rv_al, mu_rv_al, mu_rv_al, mu_rv_al, mu_rv_al]
  by_cases h : b = mu_nx w ∧ j < 4
  · rw [if_pos h]
    obtain ⟨rfl, h4⟩ := h
    have hj : j = 0 ∨ j = 1 ∨ j = 2 ∨ j = 3 := by omega
    rcases hj with rfl | rfl | rfl | rfl <;> simp
  · rw [if_neg h, if_neg (by omega), if_neg (by omega), if_neg (by omega), if_neg (by omega)]
    show (if b = mu_nx w + 4 then (none : Option Nat) else if b = mu_nx w + 3 then (none : Option Nat) else if b = mu_nx w + 2 then (none : Option Nat) else if b = mu_nx w + 1 then (none : Option Nat) else if b = mu_nx w then (none : Option Nat) else mu_rv w b j) = _
    have h6 : b < mu_nx w ∨ b = mu_nx w ∨ b = mu_nx w + 1 ∨ b = mu_nx w + 2 ∨ b = mu_nx w + 3 ∨ b = mu_nx w + 4 ∨ mu_nx w + 4 < b := by omega
    rcases h6 with h | h | h | h | h | h | h
    · rw [if_neg (by omega), if_neg (by omega), if_neg (by omega), if_neg (by omega), if_neg (by omega), if_neg (by omega)]
    · rw [if_neg (by omega), if_neg (by omega), if_neg (by omega), if_neg (by omega), if_pos (by omega), if_pos (by omega)]
    · rw [if_neg (by omega), if_neg (by omega), if_neg (by omega), if_pos (by omega), if_pos (by omega)]
    · rw [if_neg (by omega), if_neg (by omega), if_pos (by omega), if_pos (by omega)]
    · rw [if_neg (by omega), if_pos (by omega), if_pos (by omega)]
    · rw [if_pos (by omega), if_pos (by omega)]
    · rw [if_neg (by omega), if_neg (by omega), if_neg (by omega), if_neg (by omega), if_neg (by omega), if_neg (by omega)]
theorem mu_Hp.m4 {G : mu_G} {w : mu_W} {H H' : Heap} (h : mu_Hp G w H) (hL : LaidJ (G.2.1 7) (G.2.1 1) H 4 H') : mu_Hp G (mu_m4 w) H' := by
  obtain ⟨l1, l2, l3, l4⟩ := hL
  have hz := h.1
  refine ⟨by rw [m4_nx]; omega, by rw [m4_nx]; have := h.2.1; omega, fun b t n hb => ?_⟩
  rw [m4_kd] at hb
  by_cases e1 : mu_nx w < b ∧ b ≤ mu_nx w + 4
  · rw [if_pos e1] at hb
    cases hb
    refine ⟨by have := h.2.1; omega, ?_⟩
    unfold mu_at
    rw [if_neg (by decide)]
    have := l4 (b - mu_nx w - 1) (by omega)
    rw [show H.size + 1 + (b - mu_nx w - 1) = b by omega] at this
    rw [this]
    show some (arrV _ _ _) = some (arrV _ _ (fun j => .long (mu_lg (mu_m4 w) b j)))
    rw [show (fun j => Value.long (mu_lg (mu_m4 w) b j)) = fun _ => Value.long 0 from funext fun j => by rw [m4_lg, if_pos (by omega)]]
  · rw [if_neg e1] at hb
    by_cases e2 : b = mu_nx w
    · rw [if_pos e2] at hb
      cases hb
      rw [e2]
      refine ⟨h.2.1, ?_⟩
      unfold mu_at
      rw [if_neg (by decide), ← hz, l3, hz]
      congr 1
      unfold mu_R
      rw [if_neg (by decide), if_neg (by decide), vp_cell_q]
      unfold mj_out
      congr 1
      funext j
      rw [m4_rv]
      by_cases hj : j < 4
      · rw [if_pos hj, if_pos ⟨rfl, hj⟩]; rfl
      · rw [if_neg hj, if_neg (fun q => hj q.2), if_pos (by omega)]; rfl
    · rw [if_neg e2] at hb
      obtain ⟨g1, g2⟩ := h.2.2 b t n hb
      have hlt := g2.lt
      exact ⟨g1, g2.kept (fun j => by rw [m4_iv, if_neg (by omega)]) (fun j => by rw [m4_lg, if_neg (by omega)]) (fun j => by rw [m4_rv, if_neg (by omega), if_neg (by omega)]) (l2 b hlt)⟩
theorem mu_mana {X : mu_X} {G : mu_G} {cc : ByteArray} {own : String} {nL : Nat} {R : Room} {Qf : State → Prop} {w : mu_W} {kc ks pc idx : Nat} {lv st : List Value} (B : mu_B X G cc own nL R) (hdg : decode cc pc = .ok (.multianewarray idx 2, 4)) (hl : Cond.classLink own idx ("[" ++ (FieldType.array .long).toString) ∈ lw_gd) (ho : Cond.arrayOver (.array .long) ∈ mu_nests) (ha : Cond.arrayClass .long ∈ lw_gd) (hc1 : kc + 5 ≤ R.cells) (hc2 : ks + 20 ≤ R.slots)
    (k : mu_WA X G nL Qf (mu_m4 w) (kc + 5) (ks + 20) (pc + 4) lv (.ref (mu_nx w) :: st)) : mu_WA X G nL Qf w kc ks pc lv (.int (mI 4) :: .int (mI 4) :: st) := fun H locs ls hH hS hls => by
  have hts := B.2.2.2.2.1
  have hR := B.2.2.2.2.2.2
  refine W.manewJ B.1 B.2.1 B.2.2.2.1 (hts _ hl) (B.2.2.2.2.2.1.2.1 _ ho) (hts _ ha) rfl hdg rfl hS.1 (by rw [hR]; exact hc1) (by rw [hR]; exact hc2) fun cA comp H' f1 f2 hL => ?_
  have e7 : cA = G.2.1 7 := Option.some.inj (f1.symm.trans (B.2.2.2.2.2.1.1.2 7 _ rfl).2)
  have e1 : comp = G.2.1 1 := Option.some.inj (f2.symm.trans (B.2.2.2.2.2.1.1.2 1 _ rfl).2)
  subst e7 e1
  rw [hH.1]
  have hz := hL.1
  exact k H' locs ls (hH.m4 hL) ⟨Nat.le_trans hS.1 (by omega), fun q h1 h2 => (hL.2.1 q (Nat.lt_of_lt_of_le h1 hS.1)).trans (hS.2.1 q h1 h2), hS.2.2⟩ hls
theorem c0_fin {w : mu_W} {a : Nat} (hk : mu_kd w a = some (0, 0)) (hnx : mu_nx w = a + 1) : NF w a 6 (mu_sr (mu_al (mu_sr (mu_m4 w) a 0 (some (mu_nx w))) 101 4) a 1 (some (mu_nx (mu_sr (mu_m4 w) a 0 (some (mu_nx w)))))) ∧ CBo (mu_sr (mu_al (mu_sr (mu_m4 w) a 0 (some (mu_nx w))) 101 4) a 1 (some (mu_nx (mu_sr (mu_m4 w) a 0 (some (mu_nx w)))))) a := by
  have K : ∀ q, mu_kd (mu_sr (mu_al (mu_sr (mu_m4 w) a 0 (some (mu_nx w))) 101 4) a 1 (some (mu_nx (mu_sr (mu_m4 w) a 0 (some (mu_nx w)))))) q = if q = a + 6 then some (101, 4) else if a + 1 < q ∧ q ≤ a + 5 then some (101, 4) else if q = a + 1 then some (107, 4) else mu_kd w q := fun q => by
    rw [mu_kd_sr, mu_kd_al, mu_nx_sr, m4_nx, mu_kd_sr, m4_kd, hnx]
  have V : ∀ q j, mu_rv (mu_sr (mu_al (mu_sr (mu_m4 w) a 0 (some (mu_nx w))) 101 4) a 1 (some (mu_nx (mu_sr (mu_m4 w) a 0 (some (mu_nx w)))))) q j = if q = a ∧ j = 1 then some (a + 6) else if q = a + 6 then none else if q = a ∧ j = 0 then some (a + 1) else if q = a + 1 ∧ j < 4 then some (a + 2 + j) else if a + 1 ≤ q ∧ q ≤ a + 5 then none else mu_rv w q j := fun q j => by
    rw [mu_rv_sr, mu_nx_sr, m4_nx, mu_rv_al, mu_nx_sr, m4_nx, mu_rv_sr, m4_rv, hnx]
  refine ⟨⟨by rw [mu_nx_sr, mu_nx_al, mu_nx_sr, m4_nx]; omega, fun q hq => ⟨?_, fun j => ?_, fun j => ?_⟩, fun q hq j => ?_, fun q j h1 h2 => ?_⟩, ?_, ?_, ?_, fun p hp => ⟨?_, ?_⟩, ?_, ?_⟩
  · rw [K, if_neg (by omega), if_neg (by omega), if_neg (by omega)]
  · rw [mu_iv_sr, mu_iv_al, if_neg (by rw [mu_nx_sr, m4_nx]; omega), mu_iv_sr, m4_iv, if_neg (by omega)]
  · rw [mu_lg_sr, mu_lg_al, if_neg (by rw [mu_nx_sr, m4_nx]; omega), mu_lg_sr, m4_lg, if_neg (by omega)]
  · rw [V, if_neg (by omega), if_neg (by omega), if_neg (by omega), if_neg (by omega), if_neg (by omega)]
  · rw [mu_iv_sr, mu_iv_al, mu_lg_sr, mu_lg_al, mu_nx_sr, m4_nx, mu_iv_sr, mu_lg_sr, m4_iv, m4_lg]
    by_cases e : q = mu_nx w + 5
    · rw [if_pos e, if_pos e]; exact ⟨rfl, rfl⟩
    · rw [if_neg e, if_neg e, if_pos (by omega), if_pos (by omega)]; exact ⟨rfl, rfl⟩
  · rw [K, if_neg (by omega), if_neg (by omega), if_neg (by omega)]; exact hk
  · rw [V, if_neg (by omega), if_neg (by omega), if_pos ⟨rfl, rfl⟩]
  · rw [K, if_neg (by omega), if_neg (by omega), if_pos rfl]
  · rw [V, if_neg (by omega), if_neg (by omega), if_neg (by omega), if_pos ⟨rfl, hp⟩]
  · rw [K, if_neg (by omega), if_pos (by omega)]
  · rw [V, if_pos ⟨rfl, rfl⟩]
  · rw [K, if_pos rfl]

set_option maxHeartbeats 4000000 in
set_option maxRecDepth 100000 in
theorem c_X0_init (G : mu_G) {w : mu_W} {a : Nat} (hk : mu_kd w a = some (0, 0)) (hnx : mu_nx w = a + 1) : mu_Ct G M_X0_init [.ref a] w (fun r w' => r = none ∧ NF w a 6 w' ∧ CBo w' a) := by
  refine mu_ofWA G M_X0_init [.ref a] (by decide) rfl (Nat.le_of_ble_eq_true rfl) ?_
  intro X E
  have B : mu_B X G cX0_init RX0 1 (mu_rm M_X0_init) := E.1
  show mu_WA X G 1 _ _ 0 0 0 _ []
  refine mu_al_0 B dX0_init_0 ?_
  refine mu_obj B dX0_init_1 obX0 obi obc ⟨by decide, by decide⟩ (Nat.le_of_ble_eq_true rfl) ?_
  refine mu_al_0 B dX0_init_4 ?_
  refine mu_iconst (v := mI 4) B dX0_init_5 rfl ?_
  refine mu_iconst (v := mI 4) B dX0_init_6 rfl ?_
  refine mu_mana B dX0_init_7 nlX0_9 ao_J aw_long (by decide) (by decide) ?_
  refine mu_putRF B E.2.2.2 dX0_init_11 fX0_11 ffX0_0 rfl rfl (by rw [m4_kd, hnx, if_neg (by omega), if_neg (by omega)]; exact hk) ?_
  refine mu_al_0 B dX0_init_14 ?_
  refine mu_iconst (v := mI 4) B dX0_init_15 rfl ?_
  refine mu_newm (ka := 1) B dX0_init_16 rfl (by decide) aw_long 4 rfl (by decide) (by decide) (by decide) (by decide) ?_
  refine mu_putRF B E.2.2.2 dX0_init_18 fX0_14 ffX0_1 rfl rfl (by rw [mu_kd_al, mu_nx_sr, m4_nx, if_neg (by omega), mu_kd_sr, m4_kd, hnx, if_neg (by omega), if_neg (by omega)]; exact hk) ?_
  refine mu_vret E rfl (by decide) (by decide) dX0_init_21 ?_
  exact ⟨rfl, c0_fin hk hnx⟩
