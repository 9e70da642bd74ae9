/-! ===== a call, on both sides ===== -/
def RB (G : mu_G) (M2 : mu_M) (as : List Value) (o N : Nat) (n : Nat) (tp : Nat → Nat) (nr : Nat) (rs : Nat → mu_RS) (nf : Nat) (fs : Nat → mu_FS) (ng : Nat) (gs : Nat → mu_GS) (sr : Nat) (P : Nat → Prop) (sx sy : Int32) (r : Option Value) (w1 : mu_W) : Prop := ∃ u : Int32, r = some (.int u) ∧ GB ng gs (N + 1000) ∧ mu_kd w1 (o + 35) = some (12, 0) ∧ mu_Ct G M2 (.ref (o + 35) :: as) w1 (fun r2 w2 => r2 = some (.int u) ∧ CST w2 o n tp nr rs nf fs ng gs sr P sx sy ∧ MST w2 (o + 35) n tp nr rs nf fs ng gs sr P sx sy)
def ROW (G : mu_G) (M1 M2 : mu_M) (as : List Value) : Prop := ∀ (w : mu_W) (o N : Nat) (n : Nat) (tp : Nat → Nat) (nr : Nat) (rs : Nat → mu_RS) (nf : Nat) (fs : Nat → mu_FS) (ng : Nat) (gs : Nat → mu_GS) (sr : Nat) (P : Nat → Prop) (sx sy : Int32), CST w o n tp nr rs nf fs ng gs sr P sx sy → MST w (o + 35) n tp nr rs nf fs ng gs sr P sx sy → GB ng gs N → N ≤ 999000 → mu_Ct G M1 (.ref o :: as) w (fun r w1 => ∃ (n' : Nat) (tp' : Nat → Nat) (nr' : Nat) (rs' : Nat → mu_RS) (nf' : Nat) (fs' : Nat → mu_FS) (ng' : Nat) (gs' : Nat → mu_GS) (sr' : Nat) (P' : Nat → Prop) (sx' sy' : Int32), RB G M2 as o N n' tp' nr' rs' nf' fs' ng' gs' sr' P' sx' sy' r w1)
theorem mu_Fi.e {S : Nat → Nat → Prop} {w w' : mu_W} (h : mu_Fi S w w') {q j : Nat} (hn : ¬ S q j) : mu_iv w' q j = mu_iv w q j := (h.2.2.2 q j hn).1
theorem MST.kd {w : mu_W} {m : Nat} {n : Nat} {tp : Nat → Nat} {nr : Nat} {rs : Nat → mu_RS} {nf : Nat} {fs : Nat → mu_FS} {ng : Nat} {gs : Nat → mu_GS} {sr : Nat} {P : Nat → Prop} {sx sy : Int32} (h : MST w m n tp nr rs nf fs ng gs sr P sx sy) : mu_kd w m = some (12, 0) := h.1.1
section RWS
variable {G : mu_G} {M2 : mu_M} {as : List Value} {w w1 : mu_W} {o N : Nat} {n : Nat} {tp : Nat → Nat} {nr : Nat} {rs : Nat → mu_RS} {nf : Nat} {fs : Nat → mu_FS} {ng : Nat} {gs : Nat → mu_GS} {sr : Nat} {P : Nat → Prop} {sx sy : Int32} {n' : Nat} {tp' : Nat → Nat} {nr' : Nat} {rs' : Nat → mu_RS} {nf' : Nat} {fs' : Nat → mu_FS} {ng' : Nat} {gs' : Nat → mu_GS} {sr' : Nat} {P' : Nat → Prop} {sx' sy' : Int32} {r : Option Value} {u : Int32} {S : Nat → Nat → Prop}
theorem CST.inn {w' : mu_W} (h : CST w o n tp nr rs nf fs ng gs sr P sx sy) (hF : mu_Fi S w w') (hS : ∀ q j, S q j → o + 35 ≤ q ∧ q < o + 72) : CST w' o n tp nr rs nf fs ng gs sr P sx sy := by
  obtain ⟨ra, fa, ga, hf, hg, C⟩ := h
  exact ⟨ra, fa, ga, hf, hg, C.inn hF hS⟩
theorem RB.mk (hr : r = some (.int u)) (hB : GB ng gs (N + 1000)) (hC : CST w1 o n tp nr rs nf fs ng gs sr P sx sy) (h2 : mu_Ct G M2 (.ref (o + 35) :: as) w1 (fun r2 w2 => r2 = some (.int u) ∧ mu_Fi S w1 w2 ∧ MST w2 (o + 35) n tp nr rs nf fs ng gs sr P sx sy)) (hS : ∀ q j, S q j → o + 35 ≤ q ∧ q < o + 72) (hkd : mu_kd w1 (o + 35) = some (12, 0) := by apply MST.kd; assumption) : ∃ (n' : Nat) (tp' : Nat → Nat) (nr' : Nat) (rs' : Nat → mu_RS) (nf' : Nat) (fs' : Nat → mu_FS) (ng' : Nat) (gs' : Nat → mu_GS) (sr' : Nat) (P' : Nat → Prop) (sx' sy' : Int32), RB G M2 as o N n' tp' nr' rs' nf' fs' ng' gs' sr' P' sx' sy' r w1 :=
  ⟨n, tp, nr, rs, nf, fs, ng, gs, sr, P, sx, sy, u, hr, hB, hkd, h2.mono (fun r2 w2 p => ⟨p.1, hC.inn p.2.1 hS, p.2.2⟩)⟩
theorem RB.ro (hr : r = some (.int u)) (hB : GB ng gs N) (hC : CST w1 o n tp nr rs nf fs ng gs sr P sx sy) (hM : MST w1 (o + 35) n tp nr rs nf fs ng gs sr P sx sy) (h2 : mu_Ct G M2 (.ref (o + 35) :: as) w1 (fun r2 w2 => r2 = some (.int u) ∧ w2 = w1)) : ∃ (n' : Nat) (tp' : Nat → Nat) (nr' : Nat) (rs' : Nat → mu_RS) (nf' : Nat) (fs' : Nat → mu_FS) (ng' : Nat) (gs' : Nat → mu_GS) (sr' : Nat) (P' : Nat → Prop) (sx' sy' : Int32), RB G M2 as o N n' tp' nr' rs' nf' fs' ng' gs' sr' P' sx' sy' r w1 :=
  ⟨n, tp, nr, rs, nf, fs, ng, gs, sr, P, sx, sy, u, hr, hB.up, hM.kd, h2.mono (fun r2 w2 p => ⟨p.1, by rw [p.2]; exact hC, by rw [p.2]; exact hM⟩)⟩
/-- what the reference may write and nobody reads again -/
def SM (m q j : Nat) : Prop := (q = m ∧ j ≠ 2 ∧ j ≠ 3 ∧ j ≠ 13 ∧ j ≠ 36 ∧ j ≠ 37 ∧ j ≠ 42 ∧ j ≠ 43 ∧ j ≠ 46) ∨ (m + 12 ≤ q ∧ q ≤ m + 24) ∨ q = m + 26 ∨ (m + 32 ≤ q ∧ q ≤ m + 36)
theorem MST.scr {m : Nat} {w' : mu_W} (h : MST w m n tp nr rs nf fs ng gs sr P sx sy) (hF : mu_Fi S w w') (hS : ∀ q j, S q j → SM m q j) : MST w' m n tp nr rs nf fs ng gs sr P sx sy := by
  obtain ⟨h1, h2, h3, h4, h5, h6, h7, h8⟩ := h
  have I : ∀ {q j : Nat}, ¬ SM m q j → mu_iv w' q j = mu_iv w q j := fun l => hF.e (fun s => l (hS _ _ s))
  exact ⟨h1.fi hF, h2.ei (I (by unfold SM; omega)) (fun j => I (by unfold SM; omega)), h3.ei (I (by unfold SM; omega)) (fun q j l1 l2 => I (by unfold SM; omega)), h4.ei (I (by unfold SM; omega)) (fun q j l1 l2 => I (by unfold SM; omega)), h5.ei (I (by unfold SM; omega)) (fun q j l1 l2 => I (by unfold SM; omega)), h6.ei (I (by unfold SM; omega)) (I (by unfold SM; omega)) (fun j => I (by unfold SM; omega)), (I (by unfold SM; omega)).trans h7, (I (by unfold SM; omega)).trans h8⟩
theorem RB.sc (hr : r = some (.int u)) (hB : GB ng gs N) (hC : CST w1 o n tp nr rs nf fs ng gs sr P sx sy) (hM : MST w1 (o + 35) n tp nr rs nf fs ng gs sr P sx sy) (h2 : mu_Ct G M2 (.ref (o + 35) :: as) w1 (fun r2 w2 => r2 = some (.int u) ∧ mu_Fi S w1 w2)) (hS : ∀ q j, S q j → SM (o + 35) q j) : ∃ (n' : Nat) (tp' : Nat → Nat) (nr' : Nat) (rs' : Nat → mu_RS) (nf' : Nat) (fs' : Nat → mu_FS) (ng' : Nat) (gs' : Nat → mu_GS) (sr' : Nat) (P' : Nat → Prop) (sx' sy' : Int32), RB G M2 as o N n' tp' nr' rs' nf' fs' ng' gs' sr' P' sx' sy' r w1 :=
  RB.mk hr hB.up hC (h2.mono (fun r2 w2 p => ⟨p.1, p.2, hM.scr p.2 hS⟩)) (fun q j s => by have := hS q j s; unfold SM at this; omega)
end RWS
/-! the bounding box, both ways -/
theorem CMx.lk {c : Nat → Nat → Nat} {L R U D : Int} {M : Nat} (h : CMx c L R U D M) {L' R' U' D' : Int} {M' : Nat} (h' : LKP c 256 0 L' R' U' D' M') : M = M' ∧ (M ≠ 0 → L = L' ∧ R = R' ∧ U = U' ∧ D = D') := by
  rcases h with ⟨h1, h2, h3, h4, h5, h6⟩ | ⟨h1, h2⟩
  · have := h6.uniq h'
    exact ⟨by omega, fun q => absurd h1 q⟩
  · have := h2.uniq h'
    exact ⟨this.1, fun _ => this.2⟩
theorem CW.lin {r : mu_RS} {x y : Nat → Int} (hx : CW r x) (hy : CW r y) (g f : Int) : CW r (fun i => x i * g - y i * f) := fun k hk => by
  rw [dt_comm, dt_lin, dt_comm _ x, dt_comm _ y, hx k hk, hy k hk, Int.mul_zero, Int.mul_zero]
  rfl
theorem BAS.one {r : mu_RS} {l : Nat} {x y : Nat → Int} (hx : BAS (rs_S r) (CW r) l x) (hy : BAS (rs_S r) (CW r) l y) : ∀ v, v < rs_S r → x v = y v := by
  obtain ⟨x1, x2, x3, x4, x5⟩ := hx
  obtain ⟨y1, y2, y3, y4, y5⟩ := hy
  have key : ∀ v, v < rs_S r → x v * y l - y v * x l = 0 := fun v => by
    induction v using Nat.strongRecOn with
    | _ v ih =>
      intro hv
      by_cases e : v = l
      · rw [e, Int.mul_comm]; omega
      · by_cases q : x v * y l - y v * x l = 0
        · exact q
        · have hfr : FREE (CW r) v := ⟨_, CW.lin x1 y1 (y l) (x l), fun u hu => ih u hu (by omega), q⟩
          rw [x3 v hv e hfr, y3 v hv e hfr]
          omega
  have key2 : ∀ v, v < rs_S r → y l * x v = x l * y v := fun v hv => by
    have := key v hv
    rw [Int.mul_comm (y l), Int.mul_comm (x l)]
    omega
  have g1 : gr (fun v => y l * x v) (rs_S r) = gr (fun v => x l * y v) (rs_S r) := gr_ext key2
  rw [gr_scale, gr_scale, x5, y5, Nat.mul_one, Nat.mul_one] at g1
  have g2 : y l = x l := by omega
  intro v hv
  have := key2 v hv
  rw [g2] at this
  exact Int.eq_of_mul_eq_mul_left (by omega) this
theorem WTv.uniq {r : mu_RS} {k v : Nat} {a b : Int} (h : WTv r k v a) (h' : WTv r k v b) (hv : v < rs_S r) : a = b := by
  rcases h with ⟨l, x, h1, h2, h3, h4, h5⟩ | ⟨h1, h2⟩ <;> rcases h' with ⟨l', x', g1, g2, g3, g4, g5⟩ | ⟨g1, g2⟩
  · have e : l = l' := by
      rcases Nat.lt_trichotomy l l' with q | q | q
      · have := en_lt q h2; omega
      · exact q
      · have := en_lt q g2; omega
    subst e
    rw [h5, g5]
    exact h4.one g4 v hv
  · have := en_lt h1 h2; omega
  · have := en_lt g1 g2; omega
  · rw [h2, g2]
theorem rs_S2 {r : mu_RS} (h : rs_ok r) (h0 : rs_nb r = 0) : 2 ≤ rs_S r ∧ rs_S r ≤ 4 := by
  rcases h.2.2 with ⟨h1, h2, h3, h4⟩ | ⟨h1, h2⟩
  · exact ⟨h2, h3⟩
  · omega

set_option maxHeartbeats 2000000 in
theorem rw_ruleByte {G : mu_G} {a b : Int32} : ROW G M_X11_ruleByte M_X12_ruleByte [.int a, .int b] := by
  intro w o N n tp nr rs nf fs ng gs sr P sx sy hC hM hB hN
  obtain ⟨za, ha, rfl⟩ := mI_ex a
  obtain ⟨zb, hb, rfl⟩ := mI_ex b
  obtain ⟨ra, fa, ga, hf, hg, C⟩ := id hC
  obtain ⟨c1, c2, c3, c4, c5, c6, c7, ⟨c8, c9, c10⟩, c11⟩ := id C
  obtain ⟨m1, m2, m3, m4, m5, m6, m7, m8⟩ := id hM
  by_cases hq : 0 ≤ za ∧ za < nr
  · obtain ⟨i, rfl⟩ := Int.eq_ofNat_of_zero_le hq.1
    refine (c_X11_ruleByte_y G c1 c4 (i := i) (by omega) hb).mono (fun r w1 p => ?_)
    obtain ⟨p, rfl⟩ := p
    refine RB.ro p hB hC hM ((c_X12_ruleByte G m1 m3 ha hb).mono (fun r2 w2 p2 => ⟨?_, p2.2⟩))
    rw [p2.1, if_neg (fun q => q hq), Int.toNat_natCast]
  · refine (c_X11_ruleByte_n G c1 c4 ha hq).mono (fun r w1 p => ?_)
    obtain ⟨p, rfl⟩ := p
    refine RB.ro p hB hC hM ((c_X12_ruleByte G m1 m3 ha hb).mono (fun r2 w2 p2 => ⟨?_, p2.2⟩))
    rw [p2.1, if_pos hq]

set_option maxHeartbeats 2000000 in
theorem rw_reversible {G : mu_G} {a : Int32} : ROW G M_X11_reversible M_X12_reversible [.int a] := by
  intro w o N n tp nr rs nf fs ng gs sr P sx sy hC hM hB hN
  obtain ⟨za, ha, rfl⟩ := mI_ex a
  obtain ⟨ra, fa, ga, hf, hg, C⟩ := id hC
  obtain ⟨c1, c2, c3, c4, c5, c6, c7, ⟨c8, c9, c10⟩, c11⟩ := id C
  obtain ⟨m1, m2, m3, m4, m5, m6, m7, m8⟩ := id hM
  by_cases hq : 0 ≤ za ∧ za < nr
  · obtain ⟨i, rfl⟩ := Int.eq_ofNat_of_zero_le hq.1
    refine (c_X11_reversible_y G c1 c4 (i := i) (by omega)).mono (fun r w1 p => ?_)
    obtain ⟨p, rfl⟩ := p
    refine RB.sc p hB hC hM ((c_X12_reversible G m1 m3 ha).mono (fun r2 w2 p2 => ⟨?_, p2.1⟩)) (fun q j s => by unfold rv_S at s; unfold SM; omega)
    rw [p2.2, if_neg (fun q => q hq), Int.toNat_natCast]
  · refine (c_X11_reversible_n G c1 c4 ha hq).mono (fun r w1 p => ?_)
    obtain ⟨p, rfl⟩ := p
    refine RB.sc p hB hC hM ((c_X12_reversible G m1 m3 ha).mono (fun r2 w2 p2 => ⟨?_, p2.1⟩)) (fun q j s => by unfold rv_S at s; unfold SM; omega)
    rw [p2.2, if_pos hq]

set_option maxHeartbeats 2000000 in
theorem rw_clash {G : mu_G} {a b : Int32} : ROW G M_X11_clash M_X12_clash [.int a, .int b] := by
  intro w o N n tp nr rs nf fs ng gs sr P sx sy hC hM hB hN
  obtain ⟨za, ha, rfl⟩ := mI_ex a
  obtain ⟨zb, hb, rfl⟩ := mI_ex b
  obtain ⟨ra, fa, ga, hf, hg, C⟩ := id hC
  obtain ⟨c1, c2, c3, c4, c5, c6, c7, ⟨c8, c9, c10⟩, c11⟩ := id C
  obtain ⟨m1, m2, m3, m4, m5, m6, m7, m8⟩ := id hM
  by_cases hq : 0 ≤ za ∧ za < nr
  · obtain ⟨i, rfl⟩ := Int.eq_ofNat_of_zero_le hq.1
    refine (c_X11_clash_y G c1 c4 (i := i) (by omega) hb).mono (fun r w1 p => ?_)
    obtain ⟨⟨p1, p3⟩, rfl⟩ := p
    have hR := c_X12_clash G m1 m3 ha hb
    have hs : ∀ q j, rv_S (o + 35) q j → SM (o + 35) q j := fun q j s => by unfold rv_S at s; unfold SM; omega
    by_cases hy : 0 ≤ zb ∧ zb ≤ 1
    · obtain ⟨p4, p5⟩ := p3 hy
      by_cases hv : ¬ rs_nb (rs i) = 0 ∨ sp_rev (rs_N (rs i)) (rs_be (rs i))
      · refine RB.sc (p4 hv) hB hC hM (hR.mono (fun r2 w2 p2 => ⟨?_, p2.1⟩)) hs
        exact (p2.2.2 ⟨hq, hy⟩).1 (by rw [Int.toNat_natCast]; exact hv)
      · have hv1 : rs_nb (rs i) = 0 := Classical.byContradiction (fun q => hv (Or.inl q))
        have hv2 : ¬ sp_rev (rs_N (rs i)) (rs_be (rs i)) := fun q => hv (Or.inr q)
        obtain ⟨x, y, hxy, hr⟩ := p5 hv1 hv2
        refine RB.sc hr hB hC hM (hR.mono (fun r2 w2 p2 => ⟨?_, p2.1⟩)) hs
        obtain ⟨x2, y2, hxy2, hr2⟩ := (p2.2.2 ⟨hq, hy⟩).2 (by rw [Int.toNat_natCast]; exact hv1) (by rw [Int.toNat_natCast]; exact hv2)
        rw [Int.toNat_natCast] at hxy2
        obtain ⟨e1, e2⟩ := hxy.uniq hxy2
        rw [hr2, e1, e2]
    · refine RB.sc (p1 hy) hB hC hM (hR.mono (fun r2 w2 p2 => ⟨?_, p2.1⟩)) hs
      exact p2.2.1 (fun q => hy q.2)
  · refine (c_X11_clash_n G c1 c4 ha hq).mono (fun r w1 p => ?_)
    obtain ⟨p, rfl⟩ := p
    refine RB.sc p hB hC hM ((c_X12_clash G m1 m3 ha hb).mono (fun r2 w2 p2 => ⟨?_, p2.1⟩)) (fun q j s => by unfold rv_S at s; unfold SM; omega)
    exact p2.2.1 (fun q => hq q.1)

set_option maxHeartbeats 2000000 in
theorem rw_weights {G : mu_G} {a : Int32} : ROW G M_X11_weights M_X12_weights [.int a] := by
  intro w o N n tp nr rs nf fs ng gs sr P sx sy hC hM hB hN
  obtain ⟨za, ha, rfl⟩ := mI_ex a
  obtain ⟨ra, fa, ga, hf, hg, C⟩ := id hC
  obtain ⟨c1, c2, c3, c4, c5, c6, c7, ⟨c8, c9, c10⟩, c11⟩ := id C
  obtain ⟨m1, m2, m3, m4, m5, m6, m7, m8⟩ := id hM
  have hs : ∀ q j, wk_S (o + 35) q j → SM (o + 35) q j := fun q j s => by unfold wk_S at s; unfold SM; omega
  by_cases hq : 0 ≤ za ∧ za < nr
  · obtain ⟨i, rfl⟩ := Int.eq_ofNat_of_zero_le hq.1
    refine (c_X11_weights_y G c1 c4 (i := i) (by omega)).mono (fun r w1 p => ?_)
    obtain ⟨⟨p1, p3⟩, rfl⟩ := p
    have hR := c_X12_weights G m1 m3 ha
    by_cases h0 : rs_nb (rs i) = 0
    · obtain ⟨D, hD, hr⟩ := p3 h0
      refine RB.sc hr hB hC hM (hR.mono (fun r2 w2 p2 => ⟨?_, p2.1⟩)) hs
      obtain ⟨D2, hD2, hr2⟩ := (p2.2.2 hq).2 (by rw [Int.toNat_natCast]; exact h0)
      rw [Int.toNat_natCast] at hD2
      unfold WTn at hD hD2
      rw [hr2, hD, hD2]
    · refine RB.sc (p1 h0) hB hC hM (hR.mono (fun r2 w2 p2 => ⟨?_, p2.1⟩)) hs
      exact (p2.2.2 hq).1 (by rw [Int.toNat_natCast]; exact h0)
  · refine (c_X11_weights_n G c1 c4 ha hq).mono (fun r w1 p => ?_)
    obtain ⟨p, rfl⟩ := p
    refine RB.sc p hB hC hM ((c_X12_weights G m1 m3 ha).mono (fun r2 w2 p2 => ⟨p2.2.1 hq, p2.1⟩)) hs

set_option maxHeartbeats 2000000 in
theorem rw_weight {G : mu_G} {a b c : Int32} : ROW G M_X11_weight M_X12_weight [.int a, .int b, .int c] := by
  intro w o N n tp nr rs nf fs ng gs sr P sx sy hC hM hB hN
  obtain ⟨za, ha, rfl⟩ := mI_ex a
  obtain ⟨zb, hb, rfl⟩ := mI_ex b
  obtain ⟨zc, hc, rfl⟩ := mI_ex c
  obtain ⟨ra, fa, ga, hf, hg, C⟩ := id hC
  obtain ⟨c1, c2, c3, c4, c5, c6, c7, ⟨c8, c9, c10⟩, c11⟩ := id C
  obtain ⟨m1, m2, m3, m4, m5, m6, m7, m8⟩ := id hM
  have hs : ∀ q j, wk_S (o + 35) q j → SM (o + 35) q j := fun q j s => by unfold wk_S at s; unfold SM; omega
  have hR := fun w1 (h : MST w1 (o + 35) n tp nr rs nf fs ng gs sr P sx sy) => c_X12_weight G h.1 h.2.2.1 ha hb hc
  by_cases hq : 0 ≤ za ∧ za < nr
  · obtain ⟨i, rfl⟩ := Int.eq_ofNat_of_zero_le hq.1
    have hi : i < nr := by omega
    refine (c_X11_weight_y G c1 c4 (i := i) hi hb hc).mono (fun r w1 p => ?_)
    obtain ⟨⟨u, hr, x, rfl, p1, p3⟩, rfl⟩ := p
    by_cases h0 : rs_nb (rs i) = 0 ∧ 0 ≤ zb ∧ 0 ≤ zc ∧ zc < rs_S (rs i)
    · refine RB.sc hr hB hC hM ((hR _ hM).mono (fun r2 w2 p2 => ⟨?_, p2.1⟩)) hs
      obtain ⟨a2, ha2, hr2⟩ := p2.2.2 ⟨hq, by rw [Int.toNat_natCast]; exact h0⟩
      rw [Int.toNat_natCast] at ha2
      rw [hr2, WTv.uniq (p1 h0) ha2 (by omega)]
    · refine RB.sc hr hB hC hM ((hR _ hM).mono (fun r2 w2 p2 => ⟨?_, p2.1⟩)) hs
      rw [p3 h0]
      exact p2.2.1 (fun q => h0 (by rw [Int.toNat_natCast] at q; exact q.2))
  · refine (c_X11_weight_n G c1 c4 ha hq).mono (fun r w1 p => ?_)
    obtain ⟨p, rfl⟩ := p
    exact RB.sc p hB hC hM ((hR _ hM).mono (fun r2 w2 p2 => ⟨p2.2.1 (fun q => hq q.1), p2.1⟩)) hs

set_option maxHeartbeats 2000000 in
theorem rw_shift {G : mu_G} {a : Int32} : ROW G M_X11_shift M_X12_shift [.int a] := by
  intro w o N n tp nr rs nf fs ng gs sr P sx sy hC hM hB hN
  obtain ⟨za, ha, rfl⟩ := mI_ex a
  obtain ⟨ra, fa, ga, hf, hg, C⟩ := id hC
  obtain ⟨c1, c2, c3, c4, c5, c6, c7, ⟨c8, c9, c10⟩, c11⟩ := id C
  obtain ⟨m1, m2, m3, m4, m5, m6, m7, m8⟩ := id hM
  refine (c_X11_shift G c1 ha).mono (fun r w1 p => ?_)
  obtain ⟨p, rfl⟩ := p
  refine RB.ro p hB hC hM ((c_X12_shift G m1 ha).mono (fun r2 w2 p2 => ⟨?_, p2.2⟩))
  rw [p2.1, m7, m8, c9, c10]

set_option maxHeartbeats 2000000 in
theorem rw_count {G : mu_G} {a : Int32} : ROW G M_X11_count M_X12_count [.int a] := by
  intro w o N n tp nr rs nf fs ng gs sr P sx sy hC hM hB hN
  obtain ⟨za, ha, rfl⟩ := mI_ex a
  obtain ⟨ra, fa, ga, hf, hg, C⟩ := id hC
  obtain ⟨c1, c2, c3, c4, c5, c6, c7, ⟨c8, c9, c10⟩, c11⟩ := id C
  obtain ⟨m1, m2, m3, m4, m5, m6, m7, m8⟩ := id hM
  refine (c_X11_count G c1 c3 ha).mono (fun r w1 p => ?_)
  obtain ⟨p, rfl⟩ := p
  refine RB.ro p hB hC hM ((c_X12_count G m1 ha).mono (fun r2 w2 p2 => ⟨?_, p2.2⟩))
  rw [p2.1, m3.2.1, m4.2.1, m5.2.1, m6.2.1, m6.2.2.1, m2.2.1, c4.2.1, c5.2.2.1, c6.2.2.1, c8, c7.2]

set_option maxHeartbeats 2000000 in
theorem rw_found {G : mu_G} {a : Int32} : ROW G M_X11_found M_X12_found [.int a] := by
  intro w o N n tp nr rs nf fs ng gs sr P sx sy hC hM hB hN
  obtain ⟨za, ha, rfl⟩ := mI_ex a
  obtain ⟨ra, fa, ga, hf, hg, C⟩ := id hC
  obtain ⟨c1, c2, c3, c4, c5, c6, c7, ⟨c8, c9, c10⟩, c11⟩ := id C
  obtain ⟨m1, m2, m3, m4, m5, m6, m7, m8⟩ := id hM
  have hle : en_c P 65536 ≤ 65536 := en_le P 65536
  have hR := c_X12_found G m1 m6.2.2.1 hle ha
  by_cases hq : 0 ≤ za ∧ za < (en_c P 65536 : Nat)
  · obtain ⟨i, rfl⟩ := Int.eq_ofNat_of_zero_le hq.1
    refine (c_X11_found_y G c1 c7 (i := i) (by omega)).mono (fun r w1 p => ?_)
    obtain ⟨⟨j, hj, hPj, hij, hr⟩, rfl⟩ := p
    refine RB.ro hr hB hC hM (hR.mono (fun r2 w2 p2 => ⟨?_, p2.2⟩))
    rw [p2.1, if_pos hq, Int.toNat_natCast, ← hij, m6.2.2.2 j hj hPj]
  · refine (c_X11_found_n G c1 c7 ha hq).mono (fun r w1 p => ?_)
    obtain ⟨p, rfl⟩ := p
    refine RB.ro p hB hC hM (hR.mono (fun r2 w2 p2 => ⟨?_, p2.2⟩))
    rw [p2.1, if_neg hq]

set_option maxHeartbeats 2000000 in
theorem rw_at {G : mu_G} {a b c : Int32} : ROW G M_X11_at M_X12_at [.int a, .int b, .int c] := by
  intro w o N n tp nr rs nf fs ng gs sr P sx sy hC hM hB hN
  obtain ⟨za, ha, rfl⟩ := mI_ex a
  obtain ⟨zb, hb, rfl⟩ := mI_ex b
  obtain ⟨zc, hc, rfl⟩ := mI_ex c
  obtain ⟨ra, fa, ga, hf, hg, C⟩ := id hC
  obtain ⟨c1, c2, c3, c4, c5, c6, c7, ⟨c8, c9, c10⟩, c11⟩ := id C
  obtain ⟨m1, m2, m3, m4, m5, m6, m7, m8⟩ := id hM
  have hR := c_X12_at G m1 m4 ha hb hc
  by_cases hq : 0 ≤ za ∧ za < nf
  · obtain ⟨i, rfl⟩ := Int.eq_ofNat_of_zero_le hq.1
    refine (c_X11_at_y G c1 c5 (i := i) (by omega) hb hc).mono (fun r w1 p => ?_)
    obtain ⟨p, rfl⟩ := p
    refine RB.ro p hB hC hM (hR.mono (fun r2 w2 p2 => ⟨?_, p2.2⟩))
    rw [p2.1, Int.toNat_natCast]
    by_cases hp : -128 ≤ zb ∧ zb < 128 ∧ -128 ≤ zc ∧ zc < 128
    · rw [if_pos hp, if_pos ⟨hq, hp⟩]
    · rw [if_neg hp, if_neg (fun q => hp q.2)]
  · refine (c_X11_at_n G c1 c5 ha hq).mono (fun r w1 p => ?_)
    obtain ⟨p, rfl⟩ := p
    refine RB.ro p hB hC hM (hR.mono (fun r2 w2 p2 => ⟨?_, p2.2⟩))
    rw [p2.1, if_neg (fun q => hq q.1)]

set_option maxHeartbeats 2000000 in
theorem rw_cell {G : mu_G} {a b c : Int32} : ROW G M_X11_cell M_X12_cell [.int a, .int b, .int c] := by
  intro w o N n tp nr rs nf fs ng gs sr P sx sy hC hM hB hN
  obtain ⟨za, ha, rfl⟩ := mI_ex a
  obtain ⟨zb, hb, rfl⟩ := mI_ex b
  obtain ⟨zc, hc, rfl⟩ := mI_ex c
  obtain ⟨ra, fa, ga, hf, hg, C⟩ := id hC
  obtain ⟨c1, c2, c3, c4, c5, c6, c7, ⟨c8, c9, c10⟩, c11⟩ := id C
  obtain ⟨m1, m2, m3, m4, m5, m6, m7, m8⟩ := id hM
  have hR := c_X12_cell G m1 m5 ha hb hc
  by_cases hq : 0 ≤ za ∧ za < ng
  · obtain ⟨i, rfl⟩ := Int.eq_ofNat_of_zero_le hq.1
    have hi : i < ng := by omega
    have hgk := (m5.2.2 i hi).1
    have hS := rs_S2 (m3.2.2 _ hgk.1).1 hgk.2.1
    by_cases hp : 0 ≤ zb ∧ zb < (gs_R (gs i) : Int) ∧ 0 ≤ zc ∧ zc < (gs_C (gs i) : Int)
    · obtain ⟨x, rfl⟩ := Int.eq_ofNat_of_zero_le hp.1
      obtain ⟨y, rfl⟩ := Int.eq_ofNat_of_zero_le hp.2.2.1
      refine (c_X11_cell_y G c1 c6 hi hgk hS (p := x) (q := y) (by omega) (by omega)).mono (fun r w1 p => ?_)
      obtain ⟨p, rfl⟩ := p
      refine RB.ro p hB hC hM (hR.mono (fun r2 w2 p2 => ⟨?_, p2.2⟩))
      rw [p2.1, if_pos (by rw [Int.toNat_natCast]; omega), Int.toNat_natCast, Int.toNat_natCast, Int.toNat_natCast]
    · refine (c_X11_cell_b G c1 c6 hi hgk hS hb hc hp).mono (fun r w1 p => ?_)
      obtain ⟨p, rfl⟩ := p
      refine RB.ro p hB hC hM (hR.mono (fun r2 w2 p2 => ⟨?_, p2.2⟩))
      rw [p2.1, if_neg (by rw [Int.toNat_natCast]; omega)]
  · refine (c_X11_cell_n G c1 c6 ha hq).mono (fun r w1 p => ?_)
    obtain ⟨p, rfl⟩ := p
    refine RB.ro p hB hC hM (hR.mono (fun r2 w2 p2 => ⟨?_, p2.2⟩))
    rw [p2.1, if_neg (fun q => hq q.1)]

set_option maxHeartbeats 2000000 in
theorem rw_amount {G : mu_G} {a b : Int32} : ROW G M_X11_amount M_X12_amount [.int a, .int b] := by
  intro w o N n tp nr rs nf fs ng gs sr P sx sy hC hM hB hN
  obtain ⟨za, ha, rfl⟩ := mI_ex a
  obtain ⟨zb, hb, rfl⟩ := mI_ex b
  obtain ⟨ra, fa, ga, hf, hg, C⟩ := id hC
  obtain ⟨c1, c2, c3, c4, c5, c6, c7, ⟨c8, c9, c10⟩, c11⟩ := id C
  obtain ⟨m1, m2, m3, m4, m5, m6, m7, m8⟩ := id hM
  have hR := c_X12_amount G m1 m3 m5 ha hb
  by_cases hq : 0 ≤ za ∧ za < ng
  · obtain ⟨i, rfl⟩ := Int.eq_ofNat_of_zero_le hq.1
    have hi : i < ng := by omega
    have hgk := (m5.2.2 i hi).1
    have hS := rs_S2 (m3.2.2 _ hgk.1).1 hgk.2.1
    by_cases hp : 0 ≤ zb ∧ zb < (rs_S (rs (gs_r (gs i))) : Int)
    · obtain ⟨x, rfl⟩ := Int.eq_ofNat_of_zero_le hp.1
      refine (c_X11_amount_y G c1 c6 hi hgk hS (v := x) (by omega)).mono (fun r w1 p => ?_)
      obtain ⟨p, rfl⟩ := p
      refine RB.ro p hB hC hM (hR.mono (fun r2 w2 p2 => ⟨?_, p2.2⟩))
      rw [p2.1, if_pos (by rw [Int.toNat_natCast]; exact ⟨hq, hp⟩), Int.toNat_natCast, Int.toNat_natCast]
    · refine (c_X11_amount_b G c1 c6 hi hgk hS hb hp).mono (fun r w1 p => ?_)
      obtain ⟨p, rfl⟩ := p
      refine RB.ro p hB hC hM (hR.mono (fun r2 w2 p2 => ⟨?_, p2.2⟩))
      rw [p2.1, if_neg (by rw [Int.toNat_natCast]; exact fun q => hp q.2)]
  · refine (c_X11_amount_n G c1 c6 ha hq).mono (fun r w1 p => ?_)
    obtain ⟨p, rfl⟩ := p
    refine RB.ro p hB hC hM (hR.mono (fun r2 w2 p2 => ⟨?_, p2.2⟩))
    rw [p2.1, if_neg (fun q => hq q.1)]
