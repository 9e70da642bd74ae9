/-! ===== the two sides together ===== -/
/-- references that the class's object needs -/
def NR (o q j : Nat) : Prop := (q = o ∧ (j ≤ 4 ∨ j = 6 ∨ j = 8 ∨ (10 ≤ j ∧ j ≤ 14))) ∨ (q = o + 5 ∧ j ≤ 1) ∨ (q = o + 6 ∧ j < 4) ∨ (q = o + 19 ∧ j ≤ 1) ∨ (q = o + 22 ∧ j ≤ 2) ∨ (q = o + 27 ∧ (j ≤ 2 ∨ j = 4 ∨ j = 5 ∨ j = 9 ∨ j = 10))
theorem CMo.nr {w w' : mu_W} {o : Nat} (h : CMo w o) (hx : mu_nx w ≤ mu_nx w') (hk : ∀ q, o ≤ q → q < o + 35 → mu_kd w' q = mu_kd w q) (hr : ∀ q j, NR o q j → mu_rv w' q j = mu_rv w q j) (hS : CSt w' (o + 15)) : CMo w' o := by
  obtain ⟨ko, hox, ⟨r0, r1, r2, r3, r4, r6, r8, r10, r11, r12, r13, r14⟩, ⟨k1, k3, k4, kB, k12, k13, k14⟩, kS, kF, kQ, k26, kH⟩ := h
  obtain ⟨b1, b2, b3, b4, b5, b6⟩ := kB
  obtain ⟨f1, f2, f3, f4, f5⟩ := kF
  obtain ⟨q1, ⟨q2, q3⟩, ⟨q4, q5⟩, q6, q7⟩ := kQ
  obtain ⟨s1, ⟨s2, s3⟩, ⟨s4, s5⟩, ⟨s6, s7⟩, ⟨s8, s9⟩, ⟨t1, t2⟩, ⟨t3, t4⟩, t5, t6⟩ := kH
  have K : ∀ {q : Nat} {v : Option (Nat × Nat)}, mu_kd w q = v → o ≤ q → q < o + 35 → mu_kd w' q = v := fun z l1 l2 => (hk _ l1 l2).trans z
  have V : ∀ {q j : Nat} {v : Option Nat}, mu_rv w q j = v → NR o q j → mu_rv w' q j = v := fun z l1 => (hr _ _ l1).trans z
  refine ⟨K ko (by omega) (by omega), by omega, ⟨?_, ?_, ?_, ?_, ?_, ?_, ?_, ?_, ?_, ?_, ?_, ?_⟩, ⟨K k1 (by omega) (by omega), K k3 (by omega) (by omega), K k4 (by omega) (by omega), ⟨K b1 (by omega) (by omega), ?_, K b3 (by omega) (by omega), fun p hp => ⟨?_, K (b4 p hp).2 (by omega) (by omega)⟩, ?_, K b6 (by omega) (by omega)⟩, K k12 (by omega) (by omega), K k13 (by omega) (by omega), K k14 (by omega) (by omega)⟩, hS, ⟨K f1 (by omega) (by omega), ?_, K f3 (by omega) (by omega), ?_, K f5 (by omega) (by omega)⟩, ⟨K q1 (by omega) (by omega), ⟨?_, K q3 (by omega) (by omega)⟩, ⟨?_, K q5 (by omega) (by omega)⟩, ?_, K q7 (by omega) (by omega)⟩, K k26 (by omega) (by omega), K s1 (by omega) (by omega), ⟨?_, K s3 (by omega) (by omega)⟩, ⟨?_, K s5 (by omega) (by omega)⟩, ⟨?_, K s7 (by omega) (by omega)⟩, ⟨?_, K s9 (by omega) (by omega)⟩, ⟨?_, K t2 (by omega) (by omega)⟩, ⟨?_, K t4 (by omega) (by omega)⟩, ?_, K t6 (by omega) (by omega)⟩
  all_goals first
    | exact V r0 (by unfold NR; omega)
    | exact V r1 (by unfold NR; omega)
    | exact V r2 (by unfold NR; omega)
    | exact V r3 (by unfold NR; omega)
    | exact V r4 (by unfold NR; omega)
    | exact V r6 (by unfold NR; omega)
    | exact V r8 (by unfold NR; omega)
    | exact V r10 (by unfold NR; omega)
    | exact V r11 (by unfold NR; omega)
    | exact V r12 (by unfold NR; omega)
    | exact V r13 (by unfold NR; omega)
    | exact V r14 (by unfold NR; omega)
    | exact V b2 (by unfold NR; omega)
    | exact V (b4 p hp).1 (by unfold NR; omega)
    | exact V b5 (by unfold NR; omega)
    | exact V f2 (by unfold NR; omega)
    | exact V f4 (by unfold NR; omega)
    | exact V q2 (by unfold NR; omega)
    | exact V q4 (by unfold NR; omega)
    | exact V q6 (by unfold NR; omega)
    | exact V s2 (by unfold NR; omega)
    | exact V s4 (by unfold NR; omega)
    | exact V s6 (by unfold NR; omega)
    | exact V s8 (by unfold NR; omega)
    | exact V t1 (by unfold NR; omega)
    | exact V t3 (by unfold NR; omega)
    | exact V t5 (by unfold NR; omega)

/-- the class's side -/
def CSx (w : mu_W) (o : Nat) (n : Nat) (tp : Nat → Nat) (nr : Nat) (rs : Nat → mu_RS) (nf : Nat) (fs : Nat → mu_FS) (ng : Nat) (gs : Nat → mu_GS) (sr : Nat) (P : Nat → Prop) (sx sy : Int32) (ra fa ga : Nat → Nat) (hf hg : Nat) : Prop := CMo w o ∧ o + 72 ≤ mu_nx w ∧ CT w (o + 1) n tp ∧ CRs w o nr rs ra ∧ CFs w o ra nf fs hf fa ∧ CGs w o rs ra ng gs hg ga ∧ CHt w (o + 27) P ∧ (mu_iv w o 15 = mI sr ∧ mu_iv w o 16 = sx ∧ mu_iv w o 17 = sy) ∧ (∀ i, i < nr → o + 72 ≤ ra i) ∧ (∀ i, i < hf → o + 72 ≤ fa i) ∧ ∀ i, i < hg → o + 72 ≤ ga i
def CST (w : mu_W) (o : Nat) (n : Nat) (tp : Nat → Nat) (nr : Nat) (rs : Nat → mu_RS) (nf : Nat) (fs : Nat → mu_FS) (ng : Nat) (gs : Nat → mu_GS) (sr : Nat) (P : Nat → Prop) (sx sy : Int32) : Prop := ∃ ra fa ga hf hg, CSx w o n tp nr rs nf fs ng gs sr P sx sy ra fa ga hf hg
/-- the reference's side -/
def MST (w : mu_W) (m : Nat) (n : Nat) (tp : Nat → Nat) (nr : Nat) (rs : Nat → mu_RS) (nf : Nat) (fs : Nat → mu_FS) (ng : Nat) (gs : Nat → mu_GS) (sr : Nat) (P : Nat → Prop) (sx sy : Int32) : Prop := mo_ok w m ∧ MT w m n tp ∧ MRu w m nr rs ∧ MFi w m nr rs nf fs ∧ MGr w m nr rs ng gs ∧ MSr w m sr P ∧ mu_iv w m 36 = sx ∧ mu_iv w m 37 = sy
def GB (ng : Nat) (gs : Nat → mu_GS) (N : Nat) : Prop := ∀ g, g < ng → gs_n (gs g) ≤ N
theorem GB.up {ng : Nat} {gs : Nat → mu_GS} {N : Nat} (h : GB ng gs N) : GB ng gs (N + 1000) := fun g hg => Nat.le_trans (h g hg) (Nat.le_add_right _ _)
/-! the reference's parts, kept -/
theorem mu_Gx.i {S : Nat → Nat → Prop} {w w' : mu_W} (h : mu_Gx S w w') {q j : Nat} (hq : q < mu_nx w) (hn : ¬ S q j) : mu_iv w' q j = mu_iv w q j := ((h.2 q hq).2 j hn).1
theorem mu_Gx.l {S : Nat → Nat → Prop} {w w' : mu_W} (h : mu_Gx S w w') {q j : Nat} (hq : q < mu_nx w) (hn : ¬ S q j) : mu_lg w' q j = mu_lg w q j := ((h.2 q hq).2 j hn).2.1
theorem mu_Gx.r {S : Nat → Nat → Prop} {w w' : mu_W} (h : mu_Gx S w w') {q j : Nat} (hq : q < mu_nx w) (hn : ¬ S q j) : mu_rv w' q j = mu_rv w q j := ((h.2 q hq).2 j hn).2.2
theorem mu_Gx.fi {S : Nat → Nat → Prop} {w w' : mu_W} (h : mu_Fi S w w') : mu_Gx S w w' := mu_Gx.ofFr h.fr
theorem MT.ei {w w' : mu_W} {m n : Nat} {tp : Nat → Nat} (h : MT w m n tp) (a : mu_iv w' m 2 = mu_iv w m 2) (b : ∀ j, mu_iv w' (m + 1) j = mu_iv w (m + 1) j) : MT w' m n tp := ⟨h.1, a.trans h.2.1, fun j hj => (b j).trans (h.2.2 j hj)⟩
theorem MSr.ei {w w' : mu_W} {m sr : Nat} {P : Nat → Prop} (h : MSr w m sr P) (a : mu_iv w' m 42 = mu_iv w m 42) (b : mu_iv w' m 43 = mu_iv w m 43) (c : ∀ j, mu_iv w' (m + 25) j = mu_iv w (m + 25) j) : MSr w' m sr P := ⟨h.1, a.trans h.2.1, b.trans h.2.2.1, fun j hj hp => (c _).trans (h.2.2.2 j hj hp)⟩
theorem MRu.ei {w w' : mu_W} {m nr : Nat} {rs : Nat → mu_RS} (h : MRu w m nr rs) (a : mu_iv w' m 3 = mu_iv w m 3) (b : ∀ q j, m + 2 ≤ q → q ≤ m + 8 → mu_iv w' q j = mu_iv w q j) : MRu w' m nr rs := h.eqs a (fun q r h1 h2 _ => b q r (by omega) (by omega)) (fun j _ => b _ j (by omega) (by omega)) (fun j _ => b _ j (by omega) (by omega))
theorem MFi.ei {w w' : mu_W} {m nr : Nat} {rs : Nat → mu_RS} {nf : Nat} {fs : Nat → mu_FS} (h : MFi w m nr rs nf fs) (a : mu_iv w' m 13 = mu_iv w m 13) (b : ∀ q j, m + 9 ≤ q → q ≤ m + 11 → mu_iv w' q j = mu_iv w q j) : MFi w' m nr rs nf fs := h.eqs a (fun f _ => ⟨b _ f (by omega) (by omega), b _ f (by omega) (by omega)⟩) (fun j _ => b _ j (by omega) (by omega))
theorem MGr.ei {w w' : mu_W} {m nr : Nat} {rs : Nat → mu_RS} {ng : Nat} {gs : Nat → mu_GS} (h : MGr w m nr rs ng gs) (a : mu_iv w' m 46 = mu_iv w m 46) (b : ∀ q j, m + 27 ≤ q → q ≤ m + 31 → mu_iv w' q j = mu_iv w q j) : MGr w' m nr rs ng gs := h.eqs a b
/-- the class changes what is its own -/
theorem MST.out {S : Nat → Nat → Prop} {w w' : mu_W} {o : Nat} {n : Nat} {tp : Nat → Nat} {nr : Nat} {rs : Nat → mu_RS} {nf : Nat} {fs : Nat → mu_FS} {ng : Nat} {gs : Nat → mu_GS} {sr : Nat} {P : Nat → Prop} {sx sy : Int32} (h : MST w (o + 35) n tp nr rs nf fs ng gs sr P sx sy) (hx : o + 72 ≤ mu_nx w) (hG : mu_Gx S w w') (hS : ∀ q j, o + 35 ≤ q → q < o + 72 → ¬ S q j) : MST w' (o + 35) n tp nr rs nf fs ng gs sr P sx sy := by
  obtain ⟨h1, h2, h3, h4, h5, h6, h7, h8⟩ := h
  have I : ∀ q j, o + 35 ≤ q → q < o + 72 → mu_iv w' q j = mu_iv w q j := fun q j l1 l2 => hG.i (by omega) (hS q j l1 l2)
  have hA : ∀ q ∈ mo_A, q.2.1 ≤ 36 := by decide
  refine ⟨⟨(hG.2 _ (by omega)).1.trans h1.1, fun q hq => ⟨(hG.r (by omega) (hS _ _ (by omega) (by omega))).trans (h1.2 q hq).1, (hG.2 _ (by have := hA q hq; omega)).1.trans (h1.2 q hq).2⟩⟩, h2.ei (I _ _ (by omega) (by omega)) (fun j => I _ _ (by omega) (by omega)), h3.ei (I _ _ (by omega) (by omega)) (fun q j l1 l2 => I _ _ (by omega) (by omega)), h4.ei (I _ _ (by omega) (by omega)) (fun q j l1 l2 => I _ _ (by omega) (by omega)), h5.ei (I _ _ (by omega) (by omega)) (fun q j l1 l2 => I _ _ (by omega) (by omega)), h6.ei (I _ _ (by omega) (by omega)) (I _ _ (by omega) (by omega)) (fun j => I _ _ (by omega) (by omega)), (I _ _ (by omega) (by omega)).trans h7, (I _ _ (by omega) (by omega)).trans h8⟩
/-! the class's parts, kept -/
section KP
variable {S : Nat → Nat → Prop} {w w' : mu_W} {o : Nat} {n : Nat} {tp : Nat → Nat} {nr : Nat} {rs : Nat → mu_RS} {nf : Nat} {fs : Nat → mu_FS} {ng : Nat} {gs : Nat → mu_GS} {sr : Nat} {P : Nat → Prop} {sx sy : Int32} {ra fa ga : Nat → Nat} {hf hg : Nat}
theorem CSx.lo (h : CSx w o n tp nr rs nf fs ng gs sr P sx sy ra fa ga hf hg) : (∀ i, i < nr → o + 72 ≤ ra i ∧ ra i + 5 ≤ mu_nx w) ∧ (∀ i, i < hf → o + 72 ≤ fa i ∧ fa i + 3 ≤ mu_nx w) ∧ ∀ i, i < hg → o + 72 ≤ ga i ∧ ga i + 2 ≤ mu_nx w := by
  obtain ⟨c1, c2, c3, c4, c5, c6, c7, c8, c9, c10, c11⟩ := h
  exact ⟨fun i hi => ⟨c9 i hi, (c4.2.2 i hi).2.2.1⟩, fun i hi => ⟨c10 i hi, (c5.2.2.2.1 i hi).2.2.1⟩, fun i hi => ⟨c11 i hi, (c6.2.2.2.1 i hi).2.2.1⟩⟩
theorem CSx.kT (h : CSx w o n tp nr rs nf fs ng gs sr P sx sy ra fa ga hf hg) (hG : mu_Gx S w w') (a : ∀ q j, o + 1 ≤ q → q ≤ o + 2 → ¬ S q j) : CT w' (o + 1) n tp := h.2.2.1.sm (hG.smc (by have := h.2.1; omega) (fun j => a _ j (by omega) (by omega))) (hG.smc (by have := h.2.1; omega) (fun j => a _ j (by omega) (by omega)))
theorem CSx.kR (h : CSx w o n tp nr rs nf fs ng gs sr P sx sy ra fa ga hf hg) (hG : mu_Gx S w w') (a : ¬ S o 5) (b : ∀ j, ¬ S (o + 12) j) (c : ∀ i, i < nr → ∀ q j, ru_in (ra i) q → ¬ S q j) : CRs w' o nr rs ra := by
  have hx := h.2.1
  exact h.2.2.2.1.keep (hG.i (by omega) a) (fun j => hG.r (by omega) (b j)) hG.1 (fun i hi q hq => hG.smc (by have := (h.lo.1 i hi).2; unfold ru_in at hq; omega) (fun j => c i hi q j hq))
theorem CSx.kF (h : CSx w o n tp nr rs nf fs ng gs sr P sx sy ra fa ga hf hg) (hG : mu_Gx S w w') (a : ¬ S o 7) (b : ∀ j, ¬ S (o + 13) j) (c : ∀ f, f < hf → ∀ q j, fa f ≤ q → q ≤ fa f + 2 → ¬ S q j) : CFs w' o ra nf fs hf fa := by
  have hx := h.2.1
  exact h.2.2.2.2.1.keep (hG.i (by omega) a) (fun j => hG.r (by omega) (b j)) hG.1 (fun f hf' => by
    have := (h.lo.2.1 f hf').2
    exact ⟨hG.smc (by omega) (fun j => c f hf' _ j (by omega) (by omega)), hG.smc (by omega) (fun j => c f hf' _ j (by omega) (by omega)), hG.smc (by omega) (fun j => c f hf' _ j (by omega) (by omega))⟩)
theorem CSx.kG (h : CSx w o n tp nr rs nf fs ng gs sr P sx sy ra fa ga hf hg) (hG : mu_Gx S w w') (a : ¬ S o 9) (b : ∀ j, ¬ S (o + 14) j) (c : ∀ f, f < hg → ∀ q j, ga f ≤ q → q ≤ ga f + 1 → ¬ S q j) : CGs w' o rs ra ng gs hg ga := by
  have hx := h.2.1
  exact h.2.2.2.2.2.1.keep (hG.i (by omega) a) (fun j => hG.r (by omega) (b j)) hG.1 (fun f hf' => by
    have := (h.lo.2.2 f hf').2
    exact ⟨hG.smc (by omega) (fun j => c f hf' _ j (by omega) (by omega)), hG.smc (by omega) (fun j => c f hf' _ j (by omega) (by omega))⟩)
theorem CSx.kH (h : CSx w o n tp nr rs nf fs ng gs sr P sx sy ra fa ga hf hg) (hG : mu_Gx S w w') (a : ¬ S (o + 27) 11) (b : ∀ j, ¬ S (o + 34) j) : CHt w' (o + 27) P := by
  have hx := h.2.1
  exact ⟨fun p hp => by rw [show o + 27 + 7 = o + 34 from rfl, hG.l (by omega) (b _)]; exact h.2.2.2.2.2.2.1.1 p hp, (hG.i (by omega) a).trans h.2.2.2.2.2.2.1.2⟩
theorem CSx.kS (h : CSx w o n tp nr rs nf fs ng gs sr P sx sy ra fa ga hf hg) (hG : mu_Gx S w w') (a : ∀ q j, o + 15 ≤ q → q ≤ o + 18 → ¬ S q j) : CSt w' (o + 15) := by
  have hx := h.2.1
  obtain ⟨ko, hox, r0, k1, kS, -⟩ := id h.1
  exact kS.sm (fun q l1 l2 => hG.smc (by omega) (fun j => a q j (by omega) (by omega)))
theorem CSx.kM (h : CSx w o n tp nr rs nf fs ng gs sr P sx sy ra fa ga hf hg) (hG : mu_Gx S w w') (a : ∀ q j, NR o q j → ¬ S q j) (b : CSt w' (o + 15)) : CMo w' o := by
  have hx := h.2.1
  exact h.1.nr hG.1 (fun q l1 l2 => (hG.2 q (by omega)).1) (fun q j l => hG.r (by unfold NR at l; omega) (a q j l)) b
theorem CSx.kI (h : CSx w o n tp nr rs nf fs ng gs sr P sx sy ra fa ga hf hg) (hG : mu_Gx S w w') (a : ¬ S o 15) (b : ¬ S o 16) (c : ¬ S o 17) : mu_iv w' o 15 = mI sr ∧ mu_iv w' o 16 = sx ∧ mu_iv w' o 17 = sy := by
  have hx := h.2.1
  exact ⟨(hG.i (by omega) a).trans h.2.2.2.2.2.2.2.1.1, (hG.i (by omega) b).trans h.2.2.2.2.2.2.2.1.2.1, (hG.i (by omega) c).trans h.2.2.2.2.2.2.2.1.2.2⟩
/-- the reference changes what is its own -/
theorem CSx.inn (h : CSx w o n tp nr rs nf fs ng gs sr P sx sy ra fa ga hf hg) (hF : mu_Fi S w w') (hS : ∀ q j, S q j → o + 35 ≤ q ∧ q < o + 72) : CSx w' o n tp nr rs nf fs ng gs sr P sx sy ra fa ga hf hg := by
  have hG := mu_Gx.fi hF
  have N : ∀ q j, (q < o + 35 ∨ o + 72 ≤ q) → ¬ S q j := fun q j l s => by have := hS q j s; omega
  have hl := h.lo
  have hSt := h.kS hG (fun q j l1 l2 => N _ _ (by omega))
  exact ⟨h.kM hG (fun q j l => N _ _ (by unfold NR at l; omega)) hSt, by rw [hF.1]; exact h.2.1, h.kT hG (fun q j l1 l2 => N _ _ (by omega)), h.kR hG (N _ _ (by omega)) (fun j => N _ _ (by omega)) (fun i hi q j l => N _ _ (by have := hl.1 i hi; unfold ru_in at l; omega)), h.kF hG (N _ _ (by omega)) (fun j => N _ _ (by omega)) (fun f hf' q j l1 l2 => N _ _ (by have := hl.2.1 f hf'; omega)), h.kG hG (N _ _ (by omega)) (fun j => N _ _ (by omega)) (fun f hf' q j l1 l2 => N _ _ (by have := hl.2.2 f hf'; omega)), h.kH hG (N _ _ (by omega)) (fun j => N _ _ (by omega)), h.kI hG (N _ _ (by omega)) (N _ _ (by omega)) (N _ _ (by omega)), h.2.2.2.2.2.2.2.2⟩
/-- the class changes what nobody reads again -/
def SCR (o q j : Nat) : Prop := q = o + 3 ∨ q = o + 4 ∨ q = o + 26 ∨ (o + 7 ≤ q ∧ q ≤ o + 11) ∨ (o + 15 ≤ q ∧ q ≤ o + 18) ∨ (q = o + 19 ∧ 2 ≤ j) ∨ q = o + 20 ∨ q = o + 21 ∨ (q = o + 22 ∧ 3 ≤ j) ∨ (o + 23 ≤ q ∧ q ≤ o + 25)
theorem CSx.scr (h : CSx w o n tp nr rs nf fs ng gs sr P sx sy ra fa ga hf hg) (hG : mu_Gx S w w') (hS : ∀ q j, S q j → SCR o q j) (hSt : CSt w' (o + 15)) : CSx w' o n tp nr rs nf fs ng gs sr P sx sy ra fa ga hf hg := by
  have N : ∀ q j, ¬ SCR o q j → ¬ S q j := fun q j l s => l (hS q j s)
  have hl := h.lo
  have hx := h.2.1
  exact ⟨h.kM hG (fun q j l => N _ _ (by unfold NR at l; unfold SCR; omega)) hSt, Nat.le_trans h.2.1 hG.1, h.kT hG (fun q j l1 l2 => N _ _ (by unfold SCR; omega)), h.kR hG (N _ _ (by unfold SCR; omega)) (fun j => N _ _ (by unfold SCR; omega)) (fun i hi q j l => N _ _ (by have := hl.1 i hi; unfold ru_in at l; unfold SCR; omega)), h.kF hG (N _ _ (by unfold SCR; omega)) (fun j => N _ _ (by unfold SCR; omega)) (fun f hf' q j l1 l2 => N _ _ (by have := hl.2.1 f hf'; unfold SCR; omega)), h.kG hG (N _ _ (by unfold SCR; omega)) (fun j => N _ _ (by unfold SCR; omega)) (fun f hf' q j l1 l2 => N _ _ (by have := hl.2.2 f hf'; unfold SCR; omega)), h.kH hG (N _ _ (by unfold SCR; omega)) (fun j => N _ _ (by unfold SCR; omega)), h.kI hG (N _ _ (by unfold SCR; omega)) (N _ _ (by unfold SCR; omega)) (N _ _ (by unfold SCR; omega)), h.2.2.2.2.2.2.2.2⟩
/-- .. and the tape -/
theorem CSx.tap (h : CSx w o n tp nr rs nf fs ng gs sr P sx sy ra fa ga hf hg) (hG : mu_Gx S w w') (hS : ∀ q j, S q j → SCR o q j ∨ (q = o + 1 ∧ j = 1) ∨ q = o + 2) (hSt : CSt w' (o + 15)) {n' : Nat} {tp' : Nat → Nat} (ht : CT w' (o + 1) n' tp') : CSx w' o n' tp' nr rs nf fs ng gs sr P sx sy ra fa ga hf hg := by
  have N : ∀ q j, ¬ (SCR o q j ∨ (q = o + 1 ∧ j = 1) ∨ q = o + 2) → ¬ S q j := fun q j l s => l (hS q j s)
  have hl := h.lo
  have hx := h.2.1
  exact ⟨h.kM hG (fun q j l => N _ _ (by unfold NR at l; unfold SCR; omega)) hSt, Nat.le_trans h.2.1 hG.1, ht, h.kR hG (N _ _ (by unfold SCR; omega)) (fun j => N _ _ (by unfold SCR; omega)) (fun i hi q j l => N _ _ (by have := hl.1 i hi; unfold ru_in at l; unfold SCR; omega)), h.kF hG (N _ _ (by unfold SCR; omega)) (fun j => N _ _ (by unfold SCR; omega)) (fun f hf' q j l1 l2 => N _ _ (by have := hl.2.1 f hf'; unfold SCR; omega)), h.kG hG (N _ _ (by unfold SCR; omega)) (fun j => N _ _ (by unfold SCR; omega)) (fun f hf' q j l1 l2 => N _ _ (by have := hl.2.2 f hf'; unfold SCR; omega)), h.kH hG (N _ _ (by unfold SCR; omega)) (fun j => N _ _ (by unfold SCR; omega)), h.kI hG (N _ _ (by unfold SCR; omega)) (N _ _ (by unfold SCR; omega)) (N _ _ (by unfold SCR; omega)), h.2.2.2.2.2.2.2.2⟩
/-- .. and the shift -/
theorem CSx.shf (h : CSx w o n tp nr rs nf fs ng gs sr P sx sy ra fa ga hf hg) (hG : mu_Gx S w w') (hS : ∀ q j, S q j → SCR o q j ∨ (q = o ∧ (j = 16 ∨ j = 17))) (hSt : CSt w' (o + 15)) : CSx w' o n tp nr rs nf fs ng gs sr P (mu_iv w' o 16) (mu_iv w' o 17) ra fa ga hf hg := by
  have N : ∀ q j, ¬ (SCR o q j ∨ (q = o ∧ (j = 16 ∨ j = 17))) → ¬ S q j := fun q j l s => l (hS q j s)
  have hl := h.lo
  have hx := h.2.1
  exact ⟨h.kM hG (fun q j l => N _ _ (by unfold NR at l; unfold SCR; omega)) hSt, Nat.le_trans h.2.1 hG.1, h.kT hG (fun q j l1 l2 => N _ _ (by unfold SCR; omega)), h.kR hG (N _ _ (by unfold SCR; omega)) (fun j => N _ _ (by unfold SCR; omega)) (fun i hi q j l => N _ _ (by have := hl.1 i hi; unfold ru_in at l; unfold SCR; omega)), h.kF hG (N _ _ (by unfold SCR; omega)) (fun j => N _ _ (by unfold SCR; omega)) (fun f hf' q j l1 l2 => N _ _ (by have := hl.2.1 f hf'; unfold SCR; omega)), h.kG hG (N _ _ (by unfold SCR; omega)) (fun j => N _ _ (by unfold SCR; omega)) (fun f hf' q j l1 l2 => N _ _ (by have := hl.2.2 f hf'; unfold SCR; omega)), h.kH hG (N _ _ (by unfold SCR; omega)) (fun j => N _ _ (by unfold SCR; omega)), ⟨(hG.i (by omega) (N _ _ (by unfold SCR; omega))).trans h.2.2.2.2.2.2.2.1.1, rfl, rfl⟩, h.2.2.2.2.2.2.2.2⟩
/-- .. and the search -/
theorem CSx.sea (h : CSx w o n tp nr rs nf fs ng gs sr P sx sy ra fa ga hf hg) (hF : mu_Fi S w w') (hS : ∀ q j, S q j → (o + 27 ≤ q ∧ q ≤ o + 34) ∨ (q = o ∧ j = 15)) {sr' : Nat} {P' : Nat → Prop} (h15 : mu_iv w' o 15 = mI sr') (hP : CHt w' (o + 27) P') : CSx w' o n tp nr rs nf fs ng gs sr' P' sx sy ra fa ga hf hg := by
  have hG := mu_Gx.fi hF
  have N : ∀ q j, ¬ ((o + 27 ≤ q ∧ q ≤ o + 34) ∨ (q = o ∧ j = 15)) → ¬ S q j := fun q j l s => l (hS q j s)
  have hl := h.lo
  have hx := h.2.1
  have hSt := h.kS hG (fun q j l1 l2 => N _ _ (by omega))
  exact ⟨h.1.nr hG.1 (fun q l1 l2 => hF.2.1 q) (fun q j l => hF.2.2.1 q j) hSt, Nat.le_trans h.2.1 hG.1, h.kT hG (fun q j l1 l2 => N _ _ (by omega)), h.kR hG (N _ _ (by omega)) (fun j => N _ _ (by omega)) (fun i hi q j l => N _ _ (by have := hl.1 i hi; unfold ru_in at l; omega)), h.kF hG (N _ _ (by omega)) (fun j => N _ _ (by omega)) (fun f hf' q j l1 l2 => N _ _ (by have := hl.2.1 f hf'; omega)), h.kG hG (N _ _ (by omega)) (fun j => N _ _ (by omega)) (fun f hf' q j l1 l2 => N _ _ (by have := hl.2.2 f hf'; omega)), hP, ⟨h15, (hG.i (by omega) (N _ _ (by omega))).trans h.2.2.2.2.2.2.2.1.2.1, (hG.i (by omega) (N _ _ (by omega))).trans h.2.2.2.2.2.2.2.1.2.2⟩, h.2.2.2.2.2.2.2.2⟩
/-! the class's objects lie apart -/
theorem CSx.dRF (h : CSx w o n tp nr rs nf fs ng gs sr P sx sy ra fa ga hf hg) {k i : Nat} (hk : k < nr) (hi : i < hf) : ra k + 5 ≤ fa i ∨ fa i + 3 ≤ ra k := by
  obtain ⟨a1, -, a3, -, a5, -, a7, -, a9, -⟩ := (h.2.2.2.1.2.2 k hk).2.2.2
  obtain ⟨b1, -, b3, -, b5⟩ := (h.2.2.2.2.1.2.2.2.1 i hi).2.2.2
  have X : ∀ x y, x < 5 → y < 3 → ra k + x ≠ fa i + y := fun x y hx hy e => by
    have hx5 : x = 0 ∨ x = 1 ∨ x = 2 ∨ x = 3 ∨ x = 4 := by omega
    have hy3 : y = 0 ∨ y = 1 ∨ y = 2 := by omega
    rcases hx5 with rfl | rfl | rfl | rfl | rfl <;> rcases hy3 with rfl | rfl | rfl <;> simp_all
  have x1 := X (fa i - ra k) 0
  have x2 := X 0 (ra k - fa i)
  omega
theorem CSx.dRG (h : CSx w o n tp nr rs nf fs ng gs sr P sx sy ra fa ga hf hg) {k i : Nat} (hk : k < nr) (hi : i < hg) : ra k + 5 ≤ ga i ∨ ga i + 2 ≤ ra k := by
  obtain ⟨a1, -, a3, -, a5, -, a7, -, a9, -⟩ := (h.2.2.2.1.2.2 k hk).2.2.2
  obtain ⟨b1, -, b3⟩ := (h.2.2.2.2.2.1.2.2.2.1 i hi).2.2.2
  have X : ∀ x, x < 5 → ra k + x ≠ ga i := fun x hx e => by
    have hx5 : x = 0 ∨ x = 1 ∨ x = 2 ∨ x = 3 ∨ x = 4 := by omega
    rcases hx5 with rfl | rfl | rfl | rfl | rfl <;> simp_all
  have Y : ra k ≠ ga i + 1 := fun e => by
    rw [← e, a1] at b3
    cases b3
  have x1 := X (ga i - ra k)
  omega
theorem CSx.dFG (h : CSx w o n tp nr rs nf fs ng gs sr P sx sy ra fa ga hf hg) {k i : Nat} (hk : k < hf) (hi : i < hg) : fa k + 3 ≤ ga i ∨ ga i + 2 ≤ fa k := by
  obtain ⟨a1, -, a3, -, a5⟩ := (h.2.2.2.2.1.2.2.2.1 k hk).2.2.2
  obtain ⟨b1, -, b3⟩ := (h.2.2.2.2.2.1.2.2.2.1 i hi).2.2.2
  have X : ∀ x y, x < 3 → y < 2 → fa k + x ≠ ga i + y := fun x y hx hy e => by
    have hx5 : x = 0 ∨ x = 1 ∨ x = 2 := by omega
    have hy3 : y = 0 ∨ y = 1 := by omega
    rcases hx5 with rfl | rfl | rfl <;> rcases hy3 with rfl | rfl <;> simp_all
  have x1 := X (ga i - fa k) 0
  have x2 := X 0 (fa k - ga i)
  omega
theorem CSx.dFF (h : CSx w o n tp nr rs nf fs ng gs sr P sx sy ra fa ga hf hg) {k i : Nat} (hk : k < hf) (hi : i < hf) (hne : k ≠ i) : fa k + 3 ≤ fa i ∨ fa i + 3 ≤ fa k := by
  have hF := h.2.2.2.2.1
  have D : ∀ x y, x ≤ 2 → y ≤ 2 → fa k + x ≠ fa i + y := fun x y hx hy => (hF.2.2.2.1 k hk).2.2.2.dj (hF.2.2.2.1 i hi).2.2.2 (fun e => hne (hF.2.2.2.2.2.1 k i hk hi e)) hx hy
  have x1 := D (fa i - fa k) 0
  have x2 := D 0 (fa k - fa i)
  omega
theorem CSx.dGG (h : CSx w o n tp nr rs nf fs ng gs sr P sx sy ra fa ga hf hg) {k i : Nat} (hk : k < hg) (hi : i < hg) (hne : k ≠ i) : ga k + 2 ≤ ga i ∨ ga i + 2 ≤ ga k := by
  have hF := h.2.2.2.2.2.1
  have D : ∀ x y, x ≤ 1 → y ≤ 1 → ga k + x ≠ ga i + y := fun x y hx hy => (hF.2.2.2.1 k hk).2.2.2.dj (hF.2.2.2.1 i hi).2.2.2 (fun e => hne (hF.2.2.2.2.2.1 k i hk hi e)) hx hy
  have x1 := D (ga i - ga k) 0
  have x2 := D 0 (ga k - ga i)
  omega
/-- the class changes one field -/
theorem CSx.fld (h : CSx w o n tp nr rs nf fs ng gs sr P sx sy ra fa ga hf hg) (hG : mu_Gx S w w') {i : Nat} (hi : i < hf) (hS : ∀ q j, S q j → SCR o q j ∨ (fa i ≤ q ∧ q ≤ fa i + 2)) (hSt : CSt w' (o + 15)) (hFo : CFo w' (fa i)) {f' : mu_FS} (hf1 : i < nf → CFs1 w' (fa i) (ra (fs_r f')) f') : CSx w' o n tp nr rs nf (rs_up fs i f') ng gs sr P sx sy ra fa ga hf hg := by
  have N : ∀ q j, ¬ (SCR o q j ∨ (fa i ≤ q ∧ q ≤ fa i + 2)) → ¬ S q j := fun q j l s => l (hS q j s)
  have hl := h.lo
  have hx := h.2.1
  have hli := hl.2.1 i hi
  refine ⟨h.kM hG (fun q j l => N _ _ (by unfold NR at l; unfold SCR; omega)) hSt, Nat.le_trans h.2.1 hG.1, h.kT hG (fun q j l1 l2 => N _ _ (by unfold SCR; omega)), h.kR hG (N _ _ (by unfold SCR; omega)) (fun j => N _ _ (by unfold SCR; omega)) (fun k hk q j l => N _ _ (by have := hl.1 k hk; have := h.dRF hk hi; unfold ru_in at l; unfold SCR; omega)), ?_, h.kG hG (N _ _ (by unfold SCR; omega)) (fun j => N _ _ (by unfold SCR; omega)) (fun f hf' q j l1 l2 => N _ _ (by have := hl.2.2 f hf'; have := h.dFG hi hf'; unfold SCR; omega)), h.kH hG (N _ _ (by unfold SCR; omega)) (fun j => N _ _ (by unfold SCR; omega)), h.kI hG (N _ _ (by unfold SCR; omega)) (N _ _ (by unfold SCR; omega)) (N _ _ (by unfold SCR; omega)), h.2.2.2.2.2.2.2.2⟩
  refine h.2.2.2.2.1.upd (hG.i (by omega) (N _ _ (by unfold SCR; omega))) (fun j => hG.r (by omega) (N _ _ (by unfold SCR; omega))) hG.1 (fun f hf' hne => ?_) (fun _ => hFo) hf1
  have h1 := hl.2.1 f hf'
  have h2 := h.dFF hf' hi hne
  exact ⟨hG.smc (by omega) (fun j => N _ _ (by unfold SCR; omega)), hG.smc (by omega) (fun j => N _ _ (by unfold SCR; omega)), hG.smc (by omega) (fun j => N _ _ (by unfold SCR; omega))⟩
/-- the class changes one grid -/
theorem CSx.grd (h : CSx w o n tp nr rs nf fs ng gs sr P sx sy ra fa ga hf hg) (hG : mu_Gx S w w') {i : Nat} (hi : i < hg) (hS : ∀ q j, S q j → SCR o q j ∨ (ga i ≤ q ∧ q ≤ ga i + 1)) (hSt : CSt w' (o + 15)) (hFo : CGo w' (ga i)) {g' : mu_GS} (hf1 : i < ng → CGs1 w' (ga i) (ra (gs_r g')) (rs_S (rs (gs_r g'))) g') : CSx w' o n tp nr rs nf fs ng (rs_up gs i g') sr P sx sy ra fa ga hf hg := by
  have N : ∀ q j, ¬ (SCR o q j ∨ (ga i ≤ q ∧ q ≤ ga i + 1)) → ¬ S q j := fun q j l s => l (hS q j s)
  have hl := h.lo
  have hx := h.2.1
  have hli := hl.2.2 i hi
  refine ⟨h.kM hG (fun q j l => N _ _ (by unfold NR at l; unfold SCR; omega)) hSt, Nat.le_trans h.2.1 hG.1, h.kT hG (fun q j l1 l2 => N _ _ (by unfold SCR; omega)), h.kR hG (N _ _ (by unfold SCR; omega)) (fun j => N _ _ (by unfold SCR; omega)) (fun k hk q j l => N _ _ (by have := hl.1 k hk; have := h.dRG hk hi; unfold ru_in at l; unfold SCR; omega)), h.kF hG (N _ _ (by unfold SCR; omega)) (fun j => N _ _ (by unfold SCR; omega)) (fun f hf' q j l1 l2 => N _ _ (by have := hl.2.1 f hf'; have := h.dFG hf' hi; unfold SCR; omega)), ?_, h.kH hG (N _ _ (by unfold SCR; omega)) (fun j => N _ _ (by unfold SCR; omega)), h.kI hG (N _ _ (by unfold SCR; omega)) (N _ _ (by unfold SCR; omega)) (N _ _ (by unfold SCR; omega)), h.2.2.2.2.2.2.2.2⟩
  refine h.2.2.2.2.2.1.upd (hG.i (by omega) (N _ _ (by unfold SCR; omega))) (fun j => hG.r (by omega) (N _ _ (by unfold SCR; omega))) hG.1 (fun f hf' hne => ?_) (fun _ => hFo) hf1
  have h1 := hl.2.2 f hf'
  have h2 := h.dGG hf' hi hne
  exact ⟨hG.smc (by omega) (fun j => N _ _ (by unfold SCR; omega)), hG.smc (by omega) (fun j => N _ _ (by unfold SCR; omega))⟩
end KP
