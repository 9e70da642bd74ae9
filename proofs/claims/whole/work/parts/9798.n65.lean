/-! ===== the class: what stays ===== -/
theorem mu_Fr.smc {S : Nat → Nat → Prop} {w w' : mu_W} (h : mu_Fr S w w') {q : Nat} (hq : ∀ j, ¬ S q j) : smc w w' q := ⟨h.2.1 q, fun j => (h.2.2 q j (hq j)).1, fun j => (h.2.2 q j (hq j)).2.1, fun j => (h.2.2 q j (hq j)).2.2⟩
theorem smc.refl (w : mu_W) (q : Nat) : smc w w q := ⟨rfl, fun _ => rfl, fun _ => rfl, fun _ => rfl⟩
theorem CFs1.sm {w w' : mu_W} {a rr : Nat} {f : mu_FS} (h : CFs1 w a rr f) (h0 : smc w w' a) (h1 : smc w w' (a + 1)) : CFs1 w' a rr f := by
  obtain ⟨g1, ⟨L, R, U, D, M, g2, g3, g4, g5, g6, g7⟩, g8, g9, g10⟩ := h
  exact ⟨⟨g1.1, fun x y hx hy => by rw [h1.2.2.1]; exact g1.2 x y hx hy⟩, ⟨L, R, U, D, M, g2, (h0.2.1 5).trans g3, (h0.2.1 6).trans g4, (h0.2.1 7).trans g5, (h0.2.1 8).trans g6, (h0.2.1 9).trans g7⟩, (h0.2.2.2 2).trans g8, (h0.2.1 3).trans g9, (h0.2.1 4).trans g10⟩
theorem CFo.sm {w w' : mu_W} {a : Nat} (h : CFo w a) (h0 : mu_kd w' a = mu_kd w a) (h1 : mu_kd w' (a + 1) = mu_kd w (a + 1)) (h2 : mu_kd w' (a + 2) = mu_kd w (a + 2)) (r0 : mu_rv w' a 0 = mu_rv w a 0) (r1 : mu_rv w' a 1 = mu_rv w a 1) : CFo w' a := ⟨h0.trans h.1, r0.trans h.2.1, h1.trans h.2.2.1, r1.trans h.2.2.2.1, h2.trans h.2.2.2.2⟩
/-- two fields have no cell in common -/
theorem CFo.dj {w : mu_W} {a b : Nat} (h : CFo w a) (g : CFo w b) (hne : a ≠ b) {x y : Nat} (hx : x ≤ 2) (hy : y ≤ 2) : a + x ≠ b + y := by
  intro e
  have k0 := h.1
  have k1 := h.2.2.1
  have k2 := h.2.2.2.2
  have l0 := g.1
  have l1 := g.2.2.1
  have l2 := g.2.2.2.2
  by_cases q : x < y
  · have e2 : a = b + (y - x) := by omega
    have : y - x = 1 ∨ y - x = 2 := by omega
    rcases this with q2 | q2
    · rw [e2, q2, l1] at k0; cases k0
    · rw [e2, q2, l2] at k0; cases k0
  · by_cases q3 : y < x
    · have e2 : b = a + (x - y) := by omega
      have : x - y = 1 ∨ x - y = 2 := by omega
      rcases this with q2 | q2
      · rw [e2, q2, k1] at l0; cases l0
      · rw [e2, q2, k2] at l0; cases l0
    · omega
theorem CFs.upd {w w' : mu_W} {o : Nat} {ra : Nat → Nat} {nf : Nat} {fs : Nat → mu_FS} {hf : Nat} {fa : Nat → Nat} (h : CFs w o ra nf fs hf fa) (h7 : mu_iv w' o 7 = mu_iv w o 7) (h13 : ∀ j, mu_rv w' (o + 13) j = mu_rv w (o + 13) j) (hx : mu_nx w ≤ mu_nx w') {i : Nat} (hoth : ∀ f, f < hf → f ≠ i → smc w w' (fa f) ∧ smc w w' (fa f + 1) ∧ smc w w' (fa f + 2)) (hi : i < hf → CFo w' (fa i)) {f' : mu_FS} (hf' : i < nf → CFs1 w' (fa i) (ra (fs_r f')) f') : CFs w' o ra nf (rs_up fs i f') hf fa := by
  obtain ⟨h1, h2, h3, h4, h5, h6, h8⟩ := h
  refine ⟨h1, h2, h7.trans h3, fun f hf9 => ?_, fun f g1 g2 => (h13 f).trans (h5 f g1 g2), h6, fun f hf9 => ?_⟩
  · obtain ⟨g1, g2, g3, g4⟩ := h4 f hf9
    refine ⟨(h13 f).trans g1, g2, by omega, ?_⟩
    by_cases e : f = i
    · rw [e] at hf9 ⊢; exact hi hf9
    · obtain ⟨s0, s1, s2⟩ := hoth f hf9 e
      exact g4.sm s0.1 s1.1 s2.1 (s0.2.2.2 0) (s0.2.2.2 1)
  · unfold rs_up
    by_cases e : f = i
    · rw [if_pos e]; rw [e] at hf9 ⊢; exact hf' hf9
    · rw [if_neg e]
      obtain ⟨s0, s1, s2⟩ := hoth f (by omega) e
      exact (h8 f hf9).sm s0 s1
theorem CFs.keep {w w' : mu_W} {o : Nat} {ra : Nat → Nat} {nf : Nat} {fs : Nat → mu_FS} {hf : Nat} {fa : Nat → Nat} (h : CFs w o ra nf fs hf fa) (h7 : mu_iv w' o 7 = mu_iv w o 7) (h13 : ∀ j, mu_rv w' (o + 13) j = mu_rv w (o + 13) j) (hx : mu_nx w ≤ mu_nx w') (hoth : ∀ f, f < hf → smc w w' (fa f) ∧ smc w w' (fa f + 1) ∧ smc w w' (fa f + 2)) : CFs w' o ra nf fs hf fa := by
  have := CFs.upd (i := hf) (f' := fs hf) h h7 h13 hx (fun f hf9 _ => hoth f hf9) (fun q => absurd q (Nat.lt_irrefl _)) (fun q => by have := h.1; omega)
  have e : rs_up fs hf (fs hf) = fs := by
    funext j; unfold rs_up
    by_cases q : j = hf
    · rw [if_pos q, q]
    · rw [if_neg q]
  rw [e] at this
  exact this
theorem CGs1.sm {w w' : mu_W} {a rr S : Nat} {g : mu_GS} (h : CGs1 w a rr S g) (h0 : smc w w' a) (h1 : smc w w' (a + 1)) : CGs1 w' a rr S g :=
  ⟨⟨(h0.2.1 2).trans h.1.1, (h0.2.1 3).trans h.1.2.1, (h0.2.1 4).trans h.1.2.2.1, (h0.2.1 5).trans h.1.2.2.2⟩, fun i j hi hj => (h1.2.1 _).trans (h.2.1 i j hi hj), (h0.2.2.2 1).trans h.2.2⟩
theorem CGo.sm {w w' : mu_W} {a : Nat} (h : CGo w a) (h0 : mu_kd w' a = mu_kd w a) (h1 : mu_kd w' (a + 1) = mu_kd w (a + 1)) (r0 : mu_rv w' a 0 = mu_rv w a 0) : CGo w' a := ⟨h0.trans h.1, r0.trans h.2.1, h1.trans h.2.2⟩
theorem CGo.dj {w : mu_W} {a b : Nat} (h : CGo w a) (g : CGo w b) (hne : a ≠ b) {x y : Nat} (hx : x ≤ 1) (hy : y ≤ 1) : a + x ≠ b + y := by
  intro e
  have k0 := h.1
  have k1 := h.2.2
  have l0 := g.1
  have l1 := g.2.2
  by_cases q : x < y
  · have e2 : a = b + 1 := by omega
    rw [e2, l1] at k0; cases k0
  · by_cases q3 : y < x
    · have e2 : b = a + 1 := by omega
      rw [e2, k1] at l0; cases l0
    · omega
theorem CGs.upd {w w' : mu_W} {o : Nat} {rs : Nat → mu_RS} {ra : Nat → Nat} {ng : Nat} {gs : Nat → mu_GS} {hg : Nat} {ga : Nat → Nat} (h : CGs w o rs ra ng gs hg ga) (h9 : mu_iv w' o 9 = mu_iv w o 9) (h14 : ∀ j, mu_rv w' (o + 14) j = mu_rv w (o + 14) j) (hx : mu_nx w ≤ mu_nx w') {i : Nat} (hoth : ∀ f, f < hg → f ≠ i → smc w w' (ga f) ∧ smc w w' (ga f + 1)) (hi : i < hg → CGo w' (ga i)) {g' : mu_GS} (hg' : i < ng → CGs1 w' (ga i) (ra (gs_r g')) (rs_S (rs (gs_r g'))) g') : CGs w' o rs ra ng (rs_up gs i g') hg ga := by
  obtain ⟨h1, h2, h3, h4, h5, h6, h8⟩ := h
  refine ⟨h1, h2, h9.trans h3, fun f hf9 => ?_, fun f g1 g2 => (h14 f).trans (h5 f g1 g2), h6, fun f hf9 => ?_⟩
  · obtain ⟨g1, g2, g3, g4⟩ := h4 f hf9
    refine ⟨(h14 f).trans g1, g2, by omega, ?_⟩
    by_cases e : f = i
    · rw [e] at hf9 ⊢; exact hi hf9
    · obtain ⟨s0, s1⟩ := hoth f hf9 e
      exact g4.sm s0.1 s1.1 (s0.2.2.2 0)
  · unfold rs_up
    by_cases e : f = i
    · rw [if_pos e]; rw [e] at hf9 ⊢; exact hg' hf9
    · rw [if_neg e]
      obtain ⟨s0, s1⟩ := hoth f (by omega) e
      exact (h8 f hf9).sm s0 s1
theorem CGs.keep {w w' : mu_W} {o : Nat} {rs : Nat → mu_RS} {ra : Nat → Nat} {ng : Nat} {gs : Nat → mu_GS} {hg : Nat} {ga : Nat → Nat} (h : CGs w o rs ra ng gs hg ga) (h9 : mu_iv w' o 9 = mu_iv w o 9) (h14 : ∀ j, mu_rv w' (o + 14) j = mu_rv w (o + 14) j) (hx : mu_nx w ≤ mu_nx w') (hoth : ∀ f, f < hg → smc w w' (ga f) ∧ smc w w' (ga f + 1)) : CGs w' o rs ra ng gs hg ga := by
  have := CGs.upd (i := hg) (g' := gs hg) h h9 h14 hx (fun f hf9 _ => hoth f hf9) (fun q => absurd q (Nat.lt_irrefl _)) (fun q => by have := h.1; omega)
  have e : rs_up gs hg (gs hg) = gs := by
    funext j; unfold rs_up
    by_cases q : j = hg
    · rw [if_pos q, q]
    · rw [if_neg q]
  rw [e] at this
  exact this
theorem CSt.sm {w w' : mu_W} {b : Nat} (h : CSt w b) (hs : ∀ q, b ≤ q → q ≤ b + 3 → smc w w' q) : CSt w' b := by
  obtain ⟨e0, e1, e2, ⟨hE, g1, g2, g3, g4⟩, z0, z1, z2⟩ := h
  have hr : ∀ e, b ≤ e → e ≤ b + 3 → RW0 w e → RW0 w' e := fun e l1 l2 hz => ⟨(hs e l1 l2).1.trans hz.1, ((hs e l1 l2).2.2.1 0).trans hz.2.1, ((hs e l1 l2).2.2.1 5).trans hz.2.2⟩
  have hb := hs b (Nat.le_refl _) (by omega)
  have hE3 := hE
  unfold E3 at hE3
  exact ⟨e0, e1, e2, ⟨hE, hb.1.trans g1, (hb.2.2.2 0).trans g2, (hb.2.2.2 1).trans g3, (hb.2.2.2 2).trans g4⟩, hr e0 (by omega) (by omega) z0, hr e1 (by omega) (by omega) z1, hr e2 (by omega) (by omega) z2⟩
theorem CMo.sm {w w' : mu_W} {o : Nat} (h : CMo w o) (hx : mu_nx w ≤ mu_nx w') (hk : ∀ q, o ≤ q → q < o + 35 → mu_kd w' q = mu_kd w q) (hr : ∀ q j, o ≤ q → q < o + 35 → q ≠ o + 12 → q ≠ o + 13 → q ≠ o + 14 → q ≠ o + 15 → (q = o + 19 → j ≠ 2) → mu_rv w' q j = mu_rv w q j) (hS : CSt w' (o + 15)) : CMo w' o := by
  obtain ⟨ko, hox, ⟨r0, r1, r2, r3, r4, r6, r8, r10, r11, r12, r13, r14⟩, ⟨k1, k3, k4, kB, k12, k13, k14⟩, kS, kF, kQ, k26, kH⟩ := h
  obtain ⟨b1, b2, b3, b4, b5, b6⟩ := kB
  obtain ⟨f1, f2, f3, f4, f5⟩ := kF
  obtain ⟨q1, ⟨q2, q3⟩, ⟨q4, q5⟩, q6, q7⟩ := kQ
  obtain ⟨s1, ⟨s2, s3⟩, ⟨s4, s5⟩, ⟨s6, s7⟩, ⟨s8, s9⟩, ⟨t1, t2⟩, ⟨t3, t4⟩, t5, t6⟩ := kH
  have K : ∀ {q : Nat} {v : Option (Nat × Nat)}, mu_kd w q = v → o ≤ q → q < o + 35 → mu_kd w' q = v := fun z l1 l2 => (hk _ l1 l2).trans z
  have V : ∀ {q j : Nat} {v : Option Nat}, mu_rv w q j = v → o ≤ q → q < o + 35 → q ≠ o + 12 → q ≠ o + 13 → q ≠ o + 14 → q ≠ o + 15 → (q = o + 19 → j ≠ 2) → mu_rv w' q j = v := fun z l1 l2 l3 l4 l5 l6 l7 => (hr _ _ l1 l2 l3 l4 l5 l6 l7).trans z
  refine ⟨K ko (by omega) (by omega), by omega, ⟨?_, ?_, ?_, ?_, ?_, ?_, ?_, ?_, ?_, ?_, ?_, ?_⟩, ⟨K k1 (by omega) (by omega), K k3 (by omega) (by omega), K k4 (by omega) (by omega), ⟨K b1 (by omega) (by omega), ?_, K b3 (by omega) (by omega), fun p hp => ⟨?_, K (b4 p hp).2 (by omega) (by omega)⟩, ?_, K b6 (by omega) (by omega)⟩, K k12 (by omega) (by omega), K k13 (by omega) (by omega), K k14 (by omega) (by omega)⟩, hS, ⟨K f1 (by omega) (by omega), ?_, K f3 (by omega) (by omega), ?_, K f5 (by omega) (by omega)⟩, ⟨K q1 (by omega) (by omega), ⟨?_, K q3 (by omega) (by omega)⟩, ⟨?_, K q5 (by omega) (by omega)⟩, ?_, K q7 (by omega) (by omega)⟩, K k26 (by omega) (by omega), K s1 (by omega) (by omega), ⟨?_, K s3 (by omega) (by omega)⟩, ⟨?_, K s5 (by omega) (by omega)⟩, ⟨?_, K s7 (by omega) (by omega)⟩, ⟨?_, K s9 (by omega) (by omega)⟩, ⟨?_, K t2 (by omega) (by omega)⟩, ⟨?_, K t4 (by omega) (by omega)⟩, ?_, K t6 (by omega) (by omega)⟩
  all_goals first
    | exact V r0 (by omega) (by omega) (by omega) (by omega) (by omega) (by omega) (by omega)
    | exact V r1 (by omega) (by omega) (by omega) (by omega) (by omega) (by omega) (by omega)
    | exact V r2 (by omega) (by omega) (by omega) (by omega) (by omega) (by omega) (by omega)
    | exact V r3 (by omega) (by omega) (by omega) (by omega) (by omega) (by omega) (by omega)
    | exact V r4 (by omega) (by omega) (by omega) (by omega) (by omega) (by omega) (by omega)
    | exact V r6 (by omega) (by omega) (by omega) (by omega) (by omega) (by omega) (by omega)
    | exact V r8 (by omega) (by omega) (by omega) (by omega) (by omega) (by omega) (by omega)
    | exact V r10 (by omega) (by omega) (by omega) (by omega) (by omega) (by omega) (by omega)
    | exact V r11 (by omega) (by omega) (by omega) (by omega) (by omega) (by omega) (by omega)
    | exact V r12 (by omega) (by omega) (by omega) (by omega) (by omega) (by omega) (by omega)
    | exact V r13 (by omega) (by omega) (by omega) (by omega) (by omega) (by omega) (by omega)
    | exact V r14 (by omega) (by omega) (by omega) (by omega) (by omega) (by omega) (by omega)
    | exact V b2 (by omega) (by omega) (by omega) (by omega) (by omega) (by omega) (by omega)
    | exact V (b4 p hp).1 (by omega) (by omega) (by omega) (by omega) (by omega) (by omega) (by omega)
    | exact V b5 (by omega) (by omega) (by omega) (by omega) (by omega) (by omega) (by omega)
    | exact V f2 (by omega) (by omega) (by omega) (by omega) (by omega) (by omega) (by omega)
    | exact V f4 (by omega) (by omega) (by omega) (by omega) (by omega) (by omega) (by omega)
    | exact V q2 (by omega) (by omega) (by omega) (by omega) (by omega) (by omega) (by omega)
    | exact V q4 (by omega) (by omega) (by omega) (by omega) (by omega) (by omega) (by omega)
    | exact V q6 (by omega) (by omega) (by omega) (by omega) (by omega) (by omega) (by omega)
    | exact V s2 (by omega) (by omega) (by omega) (by omega) (by omega) (by omega) (by omega)
    | exact V s4 (by omega) (by omega) (by omega) (by omega) (by omega) (by omega) (by omega)
    | exact V s6 (by omega) (by omega) (by omega) (by omega) (by omega) (by omega) (by omega)
    | exact V s8 (by omega) (by omega) (by omega) (by omega) (by omega) (by omega) (by omega)
    | exact V t1 (by omega) (by omega) (by omega) (by omega) (by omega) (by omega) (by omega)
    | exact V t3 (by omega) (by omega) (by omega) (by omega) (by omega) (by omega) (by omega)
    | exact V t5 (by omega) (by omega) (by omega) (by omega) (by omega) (by omega) (by omega)
