/-! ===== fields, arrays, new cells ===== -/
theorem mu_V_eq {w w' : mu_W} {b t : Nat} (h1 : ∀ j, mu_iv w' b j = mu_iv w b j) (h2 : ∀ j, mu_lg w' b j = mu_lg w b j) (h3 : ∀ j, mu_rv w' b j = mu_rv w b j) : mu_V w' b t = mu_V w b t := by
  funext j
  unfold mu_V
  rw [h1, h2, h3]
theorem mu_R_eq {w w' : mu_W} {b t : Nat} (h1 : ∀ j, mu_iv w' b j = mu_iv w b j) (h2 : ∀ j, mu_lg w' b j = mu_lg w b j) (h3 : ∀ j, mu_rv w' b j = mu_rv w b j) : mu_R w' b t = mu_R w b t := by
  unfold mu_R
  rw [show mu_iv w' b = mu_iv w b from funext h1, show mu_lg w' b = mu_lg w b from funext h2, show mu_rv w' b = mu_rv w b from funext h3]
theorem mu_at.kept {G : mu_G} {w w' : mu_W} {b t n : Nat} {H H' : Heap} (h : mu_at G w b t n H) (h1 : ∀ j, mu_iv w' b j = mu_iv w b j) (h2 : ∀ j, mu_lg w' b j = mu_lg w b j) (h3 : ∀ j, mu_rv w' b j = mu_rv w b j) (hq : H'[b]? = H[b]?) : mu_at G w' b t n H' := by
  unfold mu_at at h ⊢
  by_cases ht : t < 100
  · rw [if_pos ht] at h ⊢
    rw [mu_V_eq h1 h2 h3]
    obtain ⟨r, hr, ho⟩ := h
    exact ⟨r, hr, ho.kept hq⟩
  · rw [if_neg ht] at h ⊢
    rw [mu_R_eq h1 h2 h3, hq]
    exact h
theorem mu_at.lt {G : mu_G} {w : mu_W} {b t n : Nat} {H : Heap} (h : mu_at G w b t n H) : b < H.size := by
  unfold mu_at at h
  by_cases ht : t < 100
  · rw [if_pos ht] at h
    obtain ⟨r, hr, cell, hc, -⟩ := h
    exact (Array.getElem?_eq_some_iff.mp hc).1
  · rw [if_neg ht] at h
    exact (Array.getElem?_eq_some_iff.mp h).1
/-- one old cell changes -/
theorem mu_Hp.set {G : mu_G} {w w' : mu_W} {a t m : Nat} {H H' : Heap} (h : mu_Hp G w H) (hk : mu_kd w a = some (t, m)) (hn : mu_nx w' = mu_nx w) (hkd : ∀ b, mu_kd w' b = mu_kd w b)
    (h1 : ∀ b j, b ≠ a → mu_iv w' b j = mu_iv w b j) (h2 : ∀ b j, b ≠ a → mu_lg w' b j = mu_lg w b j) (h3 : ∀ b j, b ≠ a → mu_rv w' b j = mu_rv w b j) (hz : H'.size = H.size) (oq : ∀ q : Nat, q ≠ a → H'[q]? = H[q]?) (hat : mu_at G w' a t m H') : mu_Hp G w' H' := by
  refine ⟨by rw [hz, hn]; exact h.1, by rw [hn]; exact h.2.1, fun b t' n' hb => ?_⟩
  rw [hkd] at hb
  obtain ⟨g1, g2⟩ := h.2.2 b t' n' hb
  refine ⟨g1, ?_⟩
  by_cases e : b = a
  · subst e
    rw [hk] at hb
    cases hb
    exact hat
  · exact g2.kept (fun j => h1 b j e) (fun j => h2 b j e) (fun j => h3 b j e) (oq b e)
/-- one new cell -/
theorem mu_Hp.push {G : mu_G} {w : mu_W} {t n : Nat} {H H' : Heap} (h : mu_Hp G w H) (hz : H'.size = H.size + 1) (oq : ∀ q : Nat, q < H.size → H'[q]? = H[q]?) (hat : mu_at G (mu_al w t n) (mu_nx w) t n H') : mu_Hp G (mu_al w t n) H' := by
  refine ⟨by rw [hz, h.1]; rfl, Nat.le_succ_of_le h.2.1, fun b t' n' hb => ?_⟩
  rw [mu_kd_al] at hb
  by_cases e : b = mu_nx w
  · rw [if_pos e] at hb
    cases hb
    rw [e]
    exact ⟨h.2.1, hat⟩
  · rw [if_neg e] at hb
    obtain ⟨g1, g2⟩ := h.2.2 b t' n' hb
    exact ⟨g1, g2.kept (fun j => by rw [mu_iv_al, if_neg e]) (fun j => by rw [mu_lg_al, if_neg e]) (fun j => by rw [mu_rv_al, if_neg e]) (oq b g2.lt)⟩
theorem mu_Hp.arr {G : mu_G} {w : mu_W} {a t n : Nat} {H : Heap} (h : mu_Hp G w H) (hk : mu_kd w a = some (t, n)) (ht : ¬ t < 100) : H[a]? = some (vp_cell (G.2.1 (t - 100)) (n, mu_R w a t)) := by
  have := (h.2.2 a t n hk).2
  unfold mu_at at this
  rw [if_neg ht] at this
  exact this
theorem mu_Hp.obj {G : mu_G} {w : mu_W} {a t n : Nat} {H : Heap} (h : mu_Hp G w H) (hk : mu_kd w a = some (t, n)) (ht : t < 100) : ∃ r : vw_C, vwCl[t]? = some r ∧ t_OB a (G.1.1 t) r.2.2 (G.1.2 t) H (mu_V w a t) := by
  have := (h.2.2 a t n hk).2
  unfold mu_at at this
  rw [if_pos ht] at this
  exact this
/-- a class's words -/
def mu_cF (t : Nat) (C : String) (T : u_T) (N : Nat) (ty0 : Nat → FieldType) : Prop :=
  vwCl[t]? = some (C, T, N) ∧ t < 100 ∧ (∀ k, k < N → parseFieldDescriptor (T k).2.2.1 = some (ty0 k)) ∧ (∀ a, a < N → ∀ b, b < N → a ≠ b → (T a).2.1 ≠ (T b).2.1) ∧ (∀ w ∈ u_ws C T N, w ∈ lw_gd) ∧
  (∀ k, k < N → defaultValue (ty0 k) = if mu_ft t k = 0 then .int 0 else if mu_ft t k = 1 then .long 0 else .null)
def mu_fL (own : String) (idx t f : Nat) : Prop := ∃ (C : String) (T : u_T) (N : Nat) (ty0 : Nat → FieldType), mu_cF t C T N ty0 ∧ f < N ∧ Cond.fieldLink own idx (T f).1 (T f).2.1 (T f).2.2.1 ∈ lw_gd
def mu_fN (own : String) (idx t f : Nat) : Prop := ∃ (C : String) (T : u_T) (N : Nat) (ty0 : Nat → FieldType), mu_cF t C T N ty0 ∧ f < N ∧ ∃ host : String, Cond.fieldLinkNest own idx (T f).1 (T f).2.1 (T f).2.2.1 host ∈ mu_nests
/-- a field that may be written (no final one), and its type -/
def mu_fW (t f : Nat) (ty : FieldType) : Prop := ∃ (C : String) (T : u_T) (N : Nat), vwCl[t]? = some (C, T, N) ∧ (T f).2.2.2 = false ∧ parseFieldDescriptor (T f).2.2.1 = some ty
def mu_fF (own : String) (t f : Nat) (ty : FieldType) : Prop := ∃ (C : String) (T : u_T) (N : Nat), vwCl[t]? = some (C, T, N) ∧ (T f).2.2.2 = true ∧ (T f).1 = own ∧ parseFieldDescriptor (T f).2.2.1 = some ty
section MUF
variable {X : mu_X} {G : mu_G} {cc : ByteArray} {own : String} {nL : Nat} {R : Room} {Qf : State → Prop} {w : mu_W} {kc ks pc : Nat} {lv st rest : List Value} {idx t f a m : Nat}
theorem mu_get0 (B : mu_B X G cc own nL R) (hdg : decode cc pc = .ok (.getfield idx, 3)) (hf : mu_fL own idx t f) (hk : mu_kd w a = some (t, m)) (k : mu_WA X G nL Qf w kc ks (pc + 3) lv (mu_V w a t f :: st)) : mu_WA X G nL Qf w kc ks pc lv (.ref a :: st) := fun H locs ls hH hS hl => by
  obtain ⟨C, T, N, ty0, ⟨hc, ht, hty, hnm, hin, -⟩, hfN, hlink⟩ := hf
  obtain ⟨r, hr, cell, q1, q2, q3, q4⟩ := hH.obj hk ht
  have hr' : r = (C, T, N) := Option.some.inj (hr.symm.trans hc)
  subst hr'
  have hts := B.2.2.2.2.1
  obtain ⟨hSl, hfc, kC, hkC, hkind⟩ := B.2.2.2.2.2.1.1.1 t _ hc
  obtain ⟨cf, kf, fi, fd, hi, hsl⟩ := hSl f hfN
  exact W.getf B.1 B.2.1 B.2.2.2.1 (hts _ hlink) hi (u_facts hfc hkC (u_lays hts hin hfN) hi).1 q1 (by rw [q3]; exact fun h => by cases h) (v := mu_V w a t f) (by rw [hsl, q4 f hfN]) rfl rfl hdg (k H locs ls hH hS hl)
theorem mu_get0N (B : mu_B X G cc own nL R) (hdg : decode cc pc = .ok (.getfield idx, 3)) (hf : mu_fN own idx t f) (hk : mu_kd w a = some (t, m)) (k : mu_WA X G nL Qf w kc ks (pc + 3) lv (mu_V w a t f :: st)) : mu_WA X G nL Qf w kc ks pc lv (.ref a :: st) := fun H locs ls hH hS hl => by
  obtain ⟨C, T, N, ty0, ⟨hc, ht, hty, hnm, hin, -⟩, hfN, host, hlink⟩ := hf
  obtain ⟨r, hr, cell, q1, q2, q3, q4⟩ := hH.obj hk ht
  have hr' : r = (C, T, N) := Option.some.inj (hr.symm.trans hc)
  subst hr'
  have hts := B.2.2.2.2.1
  obtain ⟨hSl, hfc, kC, hkC, hkind⟩ := B.2.2.2.2.2.1.1.1 t _ hc
  obtain ⟨cf, kf, fi, fd, hi, hsl⟩ := hSl f hfN
  exact va_Wgetf B.1 B.2.1 B.2.2.2.1 (va_Nw.use rfl (B.2.2.2.2.2.1.2.1 _ hlink)) hi (u_facts hfc hkC (u_lays hts hin hfN) hi).1 q1 (by rw [q3]; exact fun h => by cases h) (v := mu_V w a t f) (by rw [hsl, q4 f hfN]) rfl rfl hdg (k H locs ls hH hS hl)
theorem mu_V_i (h : mu_ft t f = 0) : mu_V w a t f = .int (mu_iv w a f) := by unfold mu_V; rw [if_pos h]
theorem mu_V_l (h : mu_ft t f = 1) : mu_V w a t f = .long (mu_lg w a f) := by unfold mu_V; rw [h]; rfl
theorem mu_V_r (h : mu_ft t f = 2) : mu_V w a t f = va_rf (mu_rv w a f) := by unfold mu_V; rw [h]; rfl
theorem mu_getI (B : mu_B X G cc own nL R) (hdg : decode cc pc = .ok (.getfield idx, 3)) (hf : mu_fL own idx t f) (ht : mu_ft t f = 0) (hk : mu_kd w a = some (t, m)) (k : mu_WA X G nL Qf w kc ks (pc + 3) lv (.int (mu_iv w a f) :: st)) : mu_WA X G nL Qf w kc ks pc lv (.ref a :: st) := mu_get0 B hdg hf hk (by rw [mu_V_i ht]; exact k)
theorem mu_getL (B : mu_B X G cc own nL R) (hdg : decode cc pc = .ok (.getfield idx, 3)) (hf : mu_fL own idx t f) (ht : mu_ft t f = 1) (hk : mu_kd w a = some (t, m)) (k : mu_WA X G nL Qf w kc ks (pc + 3) lv (.long (mu_lg w a f) :: st)) : mu_WA X G nL Qf w kc ks pc lv (.ref a :: st) := mu_get0 B hdg hf hk (by rw [mu_V_l ht]; exact k)
theorem mu_getR (B : mu_B X G cc own nL R) (hdg : decode cc pc = .ok (.getfield idx, 3)) (hf : mu_fL own idx t f) (ht : mu_ft t f = 2) (hk : mu_kd w a = some (t, m)) {b : Nat} (hb : mu_rv w a f = some b) (k : mu_WA X G nL Qf w kc ks (pc + 3) lv (.ref b :: st)) : mu_WA X G nL Qf w kc ks pc lv (.ref a :: st) := mu_get0 B hdg hf hk (by rw [mu_V_r ht, hb]; exact k)
theorem mu_getZ (B : mu_B X G cc own nL R) (hdg : decode cc pc = .ok (.getfield idx, 3)) (hf : mu_fL own idx t f) (ht : mu_ft t f = 2) (hk : mu_kd w a = some (t, m)) (hb : mu_rv w a f = none) (k : mu_WA X G nL Qf w kc ks (pc + 3) lv (.null :: st)) : mu_WA X G nL Qf w kc ks pc lv (.ref a :: st) := mu_get0 B hdg hf hk (by rw [mu_V_r ht, hb]; exact k)
theorem mu_getIN (B : mu_B X G cc own nL R) (hdg : decode cc pc = .ok (.getfield idx, 3)) (hf : mu_fN own idx t f) (ht : mu_ft t f = 0) (hk : mu_kd w a = some (t, m)) (k : mu_WA X G nL Qf w kc ks (pc + 3) lv (.int (mu_iv w a f) :: st)) : mu_WA X G nL Qf w kc ks pc lv (.ref a :: st) := mu_get0N B hdg hf hk (by rw [mu_V_i ht]; exact k)
theorem mu_getRN (B : mu_B X G cc own nL R) (hdg : decode cc pc = .ok (.getfield idx, 3)) (hf : mu_fN own idx t f) (ht : mu_ft t f = 2) (hk : mu_kd w a = some (t, m)) {b : Nat} (hb : mu_rv w a f = some b) (k : mu_WA X G nL Qf w kc ks (pc + 3) lv (.ref b :: st)) : mu_WA X G nL Qf w kc ks pc lv (.ref a :: st) := mu_get0N B hdg hf hk (by rw [mu_V_r ht, hb]; exact k)
/-- a field's new value, whatever its type: w' is w but for the field -/
theorem mu_put0 (B : mu_B X G cc own nL R) (hdg : decode cc pc = .ok (.putfield idx, 3)) (hf : mu_fL own idx t f) {ty : FieldType} (hw : mu_fW t f ty) {v : Value} (hn : narrow ty v = v) (hfit : fits ty v = true) (hk : mu_kd w a = some (t, m)) {w' : mu_W}
    (e1 : mu_nx w' = mu_nx w) (e2 : ∀ b, mu_kd w' b = mu_kd w b) (e3 : ∀ b j, b ≠ a → mu_iv w' b j = mu_iv w b j) (e4 : ∀ b j, b ≠ a → mu_lg w' b j = mu_lg w b j) (e5 : ∀ b j, b ≠ a → mu_rv w' b j = mu_rv w b j) (e6 : ∀ j, updV (mu_V w a t) f v j = mu_V w' a t j)
    (k : mu_WA X G nL Qf w' kc ks (pc + 3) lv st) : mu_WA X G nL Qf w kc ks pc lv (v :: .ref a :: st) := fun H locs ls hH hS hl => by
  obtain ⟨C, T, N, ty0, ⟨hc, ht, hty, hnm, hin, -⟩, hfN, hlink⟩ := hf
  obtain ⟨C', T', N', hc', hfin, hd⟩ := hw
  cases hc.symm.trans hc'
  obtain ⟨r, hr, cell, q1, q2, q3, q4⟩ := hH.obj hk ht
  have hr' : r = (C, T, N) := Option.some.inj (hr.symm.trans hc)
  subst hr'
  have hts := B.2.2.2.2.1
  have hap := va_apart (own := own) hts hin ty0 hty hnm B.2.2.2.2.2.1.1 hc
  obtain ⟨hSl, hfc, kC, hkC, hkind⟩ := B.2.2.2.2.2.1.1.1 t _ hc
  obtain ⟨cf, kf, fi, fd, hi, hsl⟩ := hSl f hfN
  have hlay := hts _ (hin _ (u_in_lay hfN))
  unfold u_lay at hlay
  rw [if_neg (by rw [hfin]; decide)] at hlay
  have hst := (u_facts hfc hkC (u_lays hts hin hfN) hi).1
  have h6 := u_store hfc hkC hkind hlay hi hd hn hfit
  refine W.putK B.1 B.2.1 (f := fd) ⟨B.2.2.2.1, hts _ hlink, ⟨_, _, _, hi⟩, hst⟩ (by rw [q2]; exact h6) q1 q3 (by rw [hsl]; exact k2_hasslot (q4 f hfN)) rfl rfl hdg fun H' g1 g2 g3 => ?_
  rw [hsl] at g1 ⊢
  have hat : mu_at G w' a t m H' := by
    unfold mu_at
    rw [if_pos ht]
    exact ⟨_, hc, t_OB.to (V := updV (mu_V w a t) f v) ⟨_, g1, q2, q3, t_set q4 hap hfN v⟩ (fun j _ => e6 j)⟩
  exact k H' _ ls (hH.set hk e1 e2 e3 e4 e5 g2 g3 hat) (hS.put g2 g3 (hH.2.2 a t m hk).1) hl
theorem mu_put0F (B : mu_B X G cc own nL R) (hinit : X.2.2.2.2.2.2.2.2.1.name = "<init>") (hdg : decode cc pc = .ok (.putfield idx, 3)) (hf : mu_fL own idx t f) {ty : FieldType} (hw : mu_fF own t f ty) {v : Value} (hn : narrow ty v = v) (hfit : fits ty v = true) (hk : mu_kd w a = some (t, m)) {w' : mu_W}
    (e1 : mu_nx w' = mu_nx w) (e2 : ∀ b, mu_kd w' b = mu_kd w b) (e3 : ∀ b j, b ≠ a → mu_iv w' b j = mu_iv w b j) (e4 : ∀ b j, b ≠ a → mu_lg w' b j = mu_lg w b j) (e5 : ∀ b j, b ≠ a → mu_rv w' b j = mu_rv w b j) (e6 : ∀ j, updV (mu_V w a t) f v j = mu_V w' a t j)
    (k : mu_WA X G nL Qf w' kc ks (pc + 3) lv st) : mu_WA X G nL Qf w kc ks pc lv (v :: .ref a :: st) := fun H locs ls hH hS hl => by
  obtain ⟨C, T, N, ty0, ⟨hc, ht, hty, hnm, hin, -⟩, hfN, hlink⟩ := hf
  obtain ⟨C', T', N', hc', hfin, hdecl, hd⟩ := hw
  cases hc.symm.trans hc'
  obtain ⟨r, hr, cell, q1, q2, q3, q4⟩ := hH.obj hk ht
  have hr' : r = (C, T, N) := Option.some.inj (hr.symm.trans hc)
  subst hr'
  have hts := B.2.2.2.2.1
  have hap := va_apart (own := own) hts hin ty0 hty hnm B.2.2.2.2.2.1.1 hc
  obtain ⟨hSl, hfc, kC, hkC, hkind⟩ := B.2.2.2.2.2.1.1.1 t _ hc
  obtain ⟨cf, kf, fi, fd, hi, hsl⟩ := hSl f hfN
  have hlay := hts _ (hin _ (u_in_lay hfN))
  unfold u_lay at hlay
  rw [if_pos hfin] at hlay
  have hst := (u_facts hfc hkC (u_lays hts hin hfN) hi).1
  have hcf : X.2.2.2.2.2.1.cls = cf := by
    obtain ⟨_, _, c', _, _, _, -, -, hf', -, -, -, hown2, -⟩ := Cond.laysFinal_spec hlay
    have e1 : c' = cf := by have := hi.symm.trans hf'; simp at this; exact this.1.symm
    rw [hdecl] at hown2
    rw [← e1]; exact Option.some.inj (B.2.2.2.1.symm.trans hown2)
  have h6 := u_fits hfc hkC hkind (Or.inr hlay) hi hd hn hfit
  refine W.putFinK B.1 B.2.1 B.2.2.2.1 (hts _ hlink) hi hst hcf hinit (by rw [q2]; exact h6) q1 q3 (by rw [hsl]; exact k2_hasslot (q4 f hfN)) rfl rfl hdg fun H' g1 g2 g3 => ?_
  rw [hsl] at g1 ⊢
  have hat : mu_at G w' a t m H' := by
    unfold mu_at
    rw [if_pos ht]
    exact ⟨_, hc, t_OB.to (V := updV (mu_V w a t) f v) ⟨_, g1, q2, q3, t_set q4 hap hfN v⟩ (fun j _ => e6 j)⟩
  exact k H' _ ls (hH.set hk e1 e2 e3 e4 e5 g2 g3 hat) (hS.put g2 g3 (hH.2.2 a t m hk).1) hl
theorem mu_ui {x : Int32} (ht : mu_ft t f = 0) (j : Nat) : updV (mu_V w a t) f (.int x) j = mu_V (mu_si w a f x) a t j := by
  unfold updV
  by_cases e : j = f
  · subst e
    rw [if_pos rfl, mu_V_i ht, mu_iv_si, if_pos ⟨rfl, rfl⟩]
  · rw [if_neg e]
    unfold mu_V
    rw [mu_iv_si, if_neg (show ¬ (a = a ∧ j = f) from fun h => e h.2), mu_lg_si, mu_rv_si]
theorem mu_ul {x : Int64} (ht : mu_ft t f = 1) (j : Nat) : updV (mu_V w a t) f (.long x) j = mu_V (mu_sl w a f x) a t j := by
  unfold updV
  by_cases e : j = f
  · subst e
    rw [if_pos rfl, mu_V_l ht, mu_lg_sl, if_pos ⟨rfl, rfl⟩]
  · rw [if_neg e]
    unfold mu_V
    rw [mu_lg_sl, if_neg (show ¬ (a = a ∧ j = f) from fun h => e h.2), mu_iv_sl, mu_rv_sl]
theorem mu_ur {x : Option Nat} (ht : mu_ft t f = 2) (j : Nat) : updV (mu_V w a t) f (va_rf x) j = mu_V (mu_sr w a f x) a t j := by
  unfold updV
  by_cases e : j = f
  · subst e
    rw [if_pos rfl, mu_V_r ht, mu_rv_sr, if_pos ⟨rfl, rfl⟩]
  · rw [if_neg e]
    unfold mu_V
    rw [mu_rv_sr, if_neg (show ¬ (a = a ∧ j = f) from fun h => e h.2), mu_iv_sr, mu_lg_sr]
theorem mu_putI (B : mu_B X G cc own nL R) (hdg : decode cc pc = .ok (.putfield idx, 3)) (hf : mu_fL own idx t f) (hw : mu_fW t f .int) (ht : mu_ft t f = 0) {x : Int32} (hk : mu_kd w a = some (t, m)) (k : mu_WA X G nL Qf (mu_si w a f x) kc ks (pc + 3) lv st) : mu_WA X G nL Qf w kc ks pc lv (.int x :: .ref a :: st) :=
  mu_put0 (w' := mu_si w a f x) B hdg hf hw rfl rfl hk rfl (fun _ => rfl) (fun b j h => by rw [mu_iv_si, if_neg (fun q => h q.1)]) (fun _ _ _ => rfl) (fun _ _ _ => rfl) (mu_ui ht) k
theorem mu_putZ (B : mu_B X G cc own nL R) (hdg : decode cc pc = .ok (.putfield idx, 3)) (hf : mu_fL own idx t f) (hw : mu_fW t f .boolean) (ht : mu_ft t f = 0) {x : Int32} (hx : x = 0 ∨ x = 1) (hk : mu_kd w a = some (t, m)) (k : mu_WA X G nL Qf (mu_si w a f x) kc ks (pc + 3) lv st) : mu_WA X G nL Qf w kc ks pc lv (.int x :: .ref a :: st) :=
  mu_put0 (w' := mu_si w a f x) B hdg hf hw (by rcases hx with rfl | rfl <;> rfl) (by rcases hx with rfl | rfl <;> rfl) hk rfl (fun _ => rfl) (fun b j h => by rw [mu_iv_si, if_neg (fun q => h q.1)]) (fun _ _ _ => rfl) (fun _ _ _ => rfl) (mu_ui ht) k
theorem mu_putL (B : mu_B X G cc own nL R) (hdg : decode cc pc = .ok (.putfield idx, 3)) (hf : mu_fL own idx t f) (hw : mu_fW t f .long) (ht : mu_ft t f = 1) {x : Int64} (hk : mu_kd w a = some (t, m)) (k : mu_WA X G nL Qf (mu_sl w a f x) kc ks (pc + 3) lv st) : mu_WA X G nL Qf w kc ks pc lv (.long x :: .ref a :: st) :=
  mu_put0 (w' := mu_sl w a f x) B hdg hf hw rfl rfl hk rfl (fun _ => rfl) (fun _ _ _ => rfl) (fun b j h => by rw [mu_lg_sl, if_neg (fun q => h q.1)]) (fun _ _ _ => rfl) (mu_ul ht) k
theorem mu_putR (B : mu_B X G cc own nL R) (hdg : decode cc pc = .ok (.putfield idx, 3)) (hf : mu_fL own idx t f) {ty : FieldType} (hw : mu_fW t f ty) (hty : ty.isReference = true) (ht : mu_ft t f = 2) {x : Nat} (hk : mu_kd w a = some (t, m)) (k : mu_WA X G nL Qf (mu_sr w a f (some x)) kc ks (pc + 3) lv st) : mu_WA X G nL Qf w kc ks pc lv (.ref x :: .ref a :: st) :=
  mu_put0 (w' := mu_sr w a f (some x)) B hdg hf hw (by cases ty <;> first | rfl | cases hty) (by cases ty <;> first | rfl | cases hty) hk rfl (fun _ => rfl) (fun _ _ _ => rfl) (fun _ _ _ => rfl) (fun b j h => by rw [mu_rv_sr, if_neg (fun q => h q.1)]) (mu_ur (x := some x) ht) k
theorem mu_putRF (B : mu_B X G cc own nL R) (hinit : X.2.2.2.2.2.2.2.2.1.name = "<init>") (hdg : decode cc pc = .ok (.putfield idx, 3)) (hf : mu_fL own idx t f) {ty : FieldType} (hw : mu_fF own t f ty) (hty : ty.isReference = true) (ht : mu_ft t f = 2) {x : Nat} (hk : mu_kd w a = some (t, m)) (k : mu_WA X G nL Qf (mu_sr w a f (some x)) kc ks (pc + 3) lv st) : mu_WA X G nL Qf w kc ks pc lv (.ref x :: .ref a :: st) :=
  mu_put0F (w' := mu_sr w a f (some x)) B hinit hdg hf hw (by cases ty <;> first | rfl | cases hty) (by cases ty <;> first | rfl | cases hty) hk rfl (fun _ => rfl) (fun _ _ _ => rfl) (fun _ _ _ => rfl) (fun b j h => by rw [mu_rv_sr, if_neg (fun q => h q.1)]) (mu_ur (x := some x) ht) k
theorem mu_putIF (B : mu_B X G cc own nL R) (hinit : X.2.2.2.2.2.2.2.2.1.name = "<init>") (hdg : decode cc pc = .ok (.putfield idx, 3)) (hf : mu_fL own idx t f) (hw : mu_fF own t f .int) (ht : mu_ft t f = 0) {x : Int32} (hk : mu_kd w a = some (t, m)) (k : mu_WA X G nL Qf (mu_si w a f x) kc ks (pc + 3) lv st) : mu_WA X G nL Qf w kc ks pc lv (.int x :: .ref a :: st) :=
  mu_put0F (w' := mu_si w a f x) B hinit hdg hf hw rfl rfl hk rfl (fun _ => rfl) (fun b j h => by rw [mu_iv_si, if_neg (fun q => h q.1)]) (fun _ _ _ => rfl) (fun _ _ _ => rfl) (mu_ui ht) k
/-! arrays -/
theorem mu_iald (B : mu_B X G cc own nL R) (hdg : decode cc pc = .ok (.iaload, 1)) {N : Nat} (hk : mu_kd w a = some (100, N)) {i : Int32} (hin : vp_in i N) (k : mu_WA X G nL Qf w kc ks (pc + 1) lv (.int (mu_iv w a i.toNatClampNeg) :: st)) : mu_WA X G nL Qf w kc ks pc lv (.int i :: .ref a :: st) := fun H locs ls hH hS hl => by
  have hlt : i.toNatClampNeg < N := Nat.not_le.mp fun q => hin (Or.inr q)
  exact W.iald (v := .int (mu_iv w a i.toNatClampNeg)) B.1 B.2.1 (hH.arr hk (by decide)) ((B.2.2.2.2.2.1.1.2 0 _ rfl).1 N (fun j => .int (mu_iv w a j))) (fun q => by cases q) (by show ¬ (i < 0 ∨ (arrV _ _ _).slots.size ≤ _); rw [arrV_size]; exact hin) (by show (arrV _ _ _).slots[_]? = _; rw [arrV_read _ _ hlt]) rfl rfl hdg (k H locs ls hH hS hl)
theorem mu_bald (B : mu_B X G cc own nL R) (hdg : decode cc pc = .ok (.baload, 1)) {N : Nat} (hk : mu_kd w a = some (102, N)) {i : Int32} (hin : vp_in i N) (k : mu_WA X G nL Qf w kc ks (pc + 1) lv (.int (mu_iv w a i.toNatClampNeg) :: st)) : mu_WA X G nL Qf w kc ks pc lv (.int i :: .ref a :: st) := fun H locs ls hH hS hl => by
  have hlt : i.toNatClampNeg < N := Nat.not_le.mp fun q => hin (Or.inr q)
  exact W.bald (v := .int (mu_iv w a i.toNatClampNeg)) B.1 B.2.1 (hH.arr hk (by decide)) ((B.2.2.2.2.2.1.1.2 2 _ rfl).1 N (fun j => .int (mu_iv w a j))) (fun q => by cases q) (by show ¬ (i < 0 ∨ (arrV _ _ _).slots.size ≤ _); rw [arrV_size]; exact hin) (by show (arrV _ _ _).slots[_]? = _; rw [arrV_read _ _ hlt]) rfl rfl hdg (k H locs ls hH hS hl)
theorem mu_zald (B : mu_B X G cc own nL R) (hdg : decode cc pc = .ok (.baload, 1)) {N : Nat} (hk : mu_kd w a = some (103, N)) {i : Int32} (hin : vp_in i N) (k : mu_WA X G nL Qf w kc ks (pc + 1) lv (.int (mu_iv w a i.toNatClampNeg) :: st)) : mu_WA X G nL Qf w kc ks pc lv (.int i :: .ref a :: st) := fun H locs ls hH hS hl => by
  have hlt : i.toNatClampNeg < N := Nat.not_le.mp fun q => hin (Or.inr q)
  exact W.zald (v := .int (mu_iv w a i.toNatClampNeg)) B.1 B.2.1 (hH.arr hk (by decide)) ((B.2.2.2.2.2.1.1.2 3 _ rfl).1 N (fun j => .int (mu_iv w a j))) (fun q => by cases q) (by show ¬ (i < 0 ∨ (arrV _ _ _).slots.size ≤ _); rw [arrV_size]; exact hin) (by show (arrV _ _ _).slots[_]? = _; rw [arrV_read _ _ hlt]) rfl rfl hdg (k H locs ls hH hS hl)
theorem mu_lald (B : mu_B X G cc own nL R) (hdg : decode cc pc = .ok (.laload, 1)) {N : Nat} (hk : mu_kd w a = some (101, N)) {i : Int32} (hin : vp_in i N) (k : mu_WA X G nL Qf w kc ks (pc + 1) lv (.long (mu_lg w a i.toNatClampNeg) :: st)) : mu_WA X G nL Qf w kc ks pc lv (.int i :: .ref a :: st) := fun H locs ls hH hS hl => by
  have hlt : i.toNatClampNeg < N := Nat.not_le.mp fun q => hin (Or.inr q)
  exact W.lald (v := .long (mu_lg w a i.toNatClampNeg)) B.1 B.2.1 (hH.arr hk (by decide)) ((B.2.2.2.2.2.1.1.2 1 _ rfl).1 N (fun j => .long (mu_lg w a j))) (fun q => by cases q) (by show ¬ (i < 0 ∨ (arrV _ _ _).slots.size ≤ _); rw [arrV_size]; exact hin) (by show (arrV _ _ _).slots[_]? = _; rw [arrV_read _ _ hlt]) rfl rfl hdg (k H locs ls hH hS hl)
theorem mu_aald0 (B : mu_B X G cc own nL R) (hdg : decode cc pc = .ok (.aaload, 1)) {t N : Nat} (hk : mu_kd w a = some (t, N)) (ht : t = 104 ∨ t = 105 ∨ t = 106 ∨ t = 107) {i : Int32} (hin : vp_in i N) (k : mu_WA X G nL Qf w kc ks (pc + 1) lv (va_rf (mu_rv w a i.toNatClampNeg) :: st)) : mu_WA X G nL Qf w kc ks pc lv (.int i :: .ref a :: st) := fun H locs ls hH hS hl => by
  have hlt : i.toNatClampNeg < N := Nat.not_le.mp fun q => hin (Or.inr q)
  rcases ht with rfl | rfl | rfl | rfl
  · exact W.aald (v := va_rf (mu_rv w a i.toNatClampNeg)) (ty := .object RX4) B.1 B.2.1 (hH.arr hk (by decide)) ((B.2.2.2.2.2.1.1.2 4 _ rfl).1 N (fun j => va_rf (mu_rv w a j))) rfl (fun q => by cases q) (by show ¬ (i < 0 ∨ (arrV _ _ _).slots.size ≤ _); rw [arrV_size]; exact hin) (by show (arrV _ _ _).slots[_]? = _; rw [arrV_read _ _ hlt]) rfl rfl hdg (k H locs ls hH hS hl)
  · exact W.aald (v := va_rf (mu_rv w a i.toNatClampNeg)) (ty := .object RX1) B.1 B.2.1 (hH.arr hk (by decide)) ((B.2.2.2.2.2.1.1.2 5 _ rfl).1 N (fun j => va_rf (mu_rv w a j))) rfl (fun q => by cases q) (by show ¬ (i < 0 ∨ (arrV _ _ _).slots.size ≤ _); rw [arrV_size]; exact hin) (by show (arrV _ _ _).slots[_]? = _; rw [arrV_read _ _ hlt]) rfl rfl hdg (k H locs ls hH hS hl)
  · exact W.aald (v := va_rf (mu_rv w a i.toNatClampNeg)) (ty := .object RX3) B.1 B.2.1 (hH.arr hk (by decide)) ((B.2.2.2.2.2.1.1.2 6 _ rfl).1 N (fun j => va_rf (mu_rv w a j))) rfl (fun q => by cases q) (by show ¬ (i < 0 ∨ (arrV _ _ _).slots.size ≤ _); rw [arrV_size]; exact hin) (by show (arrV _ _ _).slots[_]? = _; rw [arrV_read _ _ hlt]) rfl rfl hdg (k H locs ls hH hS hl)
  · exact W.aald (v := va_rf (mu_rv w a i.toNatClampNeg)) (ty := .array .long) B.1 B.2.1 (hH.arr hk (by decide)) ((B.2.2.2.2.2.1.1.2 7 _ rfl).1 N (fun j => va_rf (mu_rv w a j))) rfl (fun q => by cases q) (by show ¬ (i < 0 ∨ (arrV _ _ _).slots.size ≤ _); rw [arrV_size]; exact hin) (by show (arrV _ _ _).slots[_]? = _; rw [arrV_read _ _ hlt]) rfl rfl hdg (k H locs ls hH hS hl)
theorem mu_aald (B : mu_B X G cc own nL R) (hdg : decode cc pc = .ok (.aaload, 1)) {t N : Nat} (hk : mu_kd w a = some (t, N)) (ht : t = 104 ∨ t = 105 ∨ t = 106 ∨ t = 107) {i : Int32} (hin : vp_in i N) {b : Nat} (hb : mu_rv w a i.toNatClampNeg = some b) (k : mu_WA X G nL Qf w kc ks (pc + 1) lv (.ref b :: st)) : mu_WA X G nL Qf w kc ks pc lv (.int i :: .ref a :: st) := mu_aald0 B hdg hk ht hin (by rw [hb]; exact k)
theorem mu_aaldN (B : mu_B X G cc own nL R) (hdg : decode cc pc = .ok (.aaload, 1)) {t N : Nat} (hk : mu_kd w a = some (t, N)) (ht : t = 104 ∨ t = 105 ∨ t = 106 ∨ t = 107) {i : Int32} (hin : vp_in i N) (hb : mu_rv w a i.toNatClampNeg = none) (k : mu_WA X G nL Qf w kc ks (pc + 1) lv (.null :: st)) : mu_WA X G nL Qf w kc ks pc lv (.int i :: .ref a :: st) := mu_aald0 B hdg hk ht hin (by rw [hb]; exact k)
theorem mu_ar_i {c : ClassId} {N i : Nat} {x : Int32} {w : mu_W} {a : Nat} : (arrV c N (fun j => .int (mu_iv w a j))).setSlot i (.int x) = arrV c N (fun j => .int (mu_iv (mu_si w a i x) a j)) := by
  rw [arrV_store]
  congr 1
  funext q
  unfold updV
  rw [mu_iv_si]
  by_cases hq : q = i
  · rw [if_pos hq, if_pos ⟨rfl, hq⟩]
  · rw [if_neg hq, if_neg (fun h => hq h.2)]
theorem mu_iast (B : mu_B X G cc own nL R) (hdg : decode cc pc = .ok (.iastore, 1)) {N : Nat} (hk : mu_kd w a = some (100, N)) {i x : Int32} (hin : vp_in i N) (k : mu_WA X G nL Qf (mu_si w a i.toNatClampNeg x) kc ks (pc + 1) lv st) : mu_WA X G nL Qf w kc ks pc lv (.int x :: .int i :: .ref a :: st) := fun H locs ls hH hS hl => by
  refine W.iast B.1 B.2.1 (hH.arr hk (by decide)) ((B.2.2.2.2.2.1.1.2 0 _ rfl).1 N (fun j => .int (mu_iv w a j))) (fun q => by cases q) (by show ¬ (i < 0 ∨ (arrV _ _ _).slots.size ≤ _); rw [arrV_size]; exact hin) rfl rfl hdg fun H1 e z oq => ?_
  refine k H1 _ ls (hH.set hk rfl (fun _ => rfl) (fun b j h => by rw [mu_iv_si, if_neg (fun q => h q.1)]) (fun _ _ _ => rfl) (fun _ _ _ => rfl) z oq ?_) (hS.put z oq (hH.2.2 a _ _ hk).1) hl
  exact e.trans (congrArg some mu_ar_i)
theorem mu_bast (B : mu_B X G cc own nL R) (hdg : decode cc pc = .ok (.bastore, 1)) {N : Nat} (hk : mu_kd w a = some (102, N)) {i x : Int32} (hin : vp_in i N) (k : mu_WA X G nL Qf (mu_si w a i.toNatClampNeg x.toInt8.toInt32) kc ks (pc + 1) lv st) : mu_WA X G nL Qf w kc ks pc lv (.int x :: .int i :: .ref a :: st) := fun H locs ls hH hS hl => by
  refine W.bast B.1 B.2.1 (hH.arr hk (by decide)) ((B.2.2.2.2.2.1.1.2 2 _ rfl).1 N (fun j => .int (mu_iv w a j))) (fun q => by cases q) (by show ¬ (i < 0 ∨ (arrV _ _ _).slots.size ≤ _); rw [arrV_size]; exact hin) rfl rfl hdg fun H1 e z oq => ?_
  refine k H1 _ ls (hH.set hk rfl (fun _ => rfl) (fun b j h => by rw [mu_iv_si, if_neg (fun q => h q.1)]) (fun _ _ _ => rfl) (fun _ _ _ => rfl) z oq ?_) (hS.put z oq (hH.2.2 a _ _ hk).1) hl
  exact e.trans (congrArg some mu_ar_i)
theorem mu_zast (B : mu_B X G cc own nL R) (hdg : decode cc pc = .ok (.bastore, 1)) {N : Nat} (hk : mu_kd w a = some (103, N)) {i x : Int32} (hin : vp_in i N) (hx : x = 0 ∨ x = 1) (k : mu_WA X G nL Qf (mu_si w a i.toNatClampNeg x) kc ks (pc + 1) lv st) : mu_WA X G nL Qf w kc ks pc lv (.int x :: .int i :: .ref a :: st) := fun H locs ls hH hS hl => by
  refine W.zast B.1 B.2.1 (hH.arr hk (by decide)) ((B.2.2.2.2.2.1.1.2 3 _ rfl).1 N (fun j => .int (mu_iv w a j))) (fun q => by cases q) (by show ¬ (i < 0 ∨ (arrV _ _ _).slots.size ≤ _); rw [arrV_size]; exact hin) rfl rfl hdg fun H1 e z oq => ?_
  refine k H1 _ ls (hH.set hk rfl (fun _ => rfl) (fun b j h => by rw [mu_iv_si, if_neg (fun q => h q.1)]) (fun _ _ _ => rfl) (fun _ _ _ => rfl) z oq ?_) (hS.put z oq (hH.2.2 a _ _ hk).1) hl
  have hn : narrow .boolean (.int x) = .int x := by rcases hx with rfl | rfl <;> rfl
  rw [hn] at e
  exact e.trans (congrArg some mu_ar_i)
theorem mu_last (B : mu_B X G cc own nL R) (hdg : decode cc pc = .ok (.lastore, 1)) {N : Nat} (hk : mu_kd w a = some (101, N)) {i : Int32} {x : Int64} (hin : vp_in i N) (k : mu_WA X G nL Qf (mu_sl w a i.toNatClampNeg x) kc ks (pc + 1) lv st) : mu_WA X G nL Qf w kc ks pc lv (.long x :: .int i :: .ref a :: st) := fun H locs ls hH hS hl => by
  refine W.last B.1 B.2.1 (hH.arr hk (by decide)) ((B.2.2.2.2.2.1.1.2 1 _ rfl).1 N (fun j => .long (mu_lg w a j))) (fun q => by cases q) (by show ¬ (i < 0 ∨ (arrV _ _ _).slots.size ≤ _); rw [arrV_size]; exact hin) rfl rfl hdg fun H1 e z oq => ?_
  refine k H1 _ ls (hH.set hk rfl (fun _ => rfl) (fun _ _ _ => rfl) (fun b j h => by rw [mu_lg_sl, if_neg (fun q => h q.1)]) (fun _ _ _ => rfl) z oq ?_) (hS.put z oq (hH.2.2 a _ _ hk).1) hl
  refine e.trans (congrArg some ?_)
  show (arrV _ _ (fun j => .long (mu_lg w a j))).setSlot _ _ = arrV _ _ (fun j => .long (mu_lg (mu_sl w a _ x) a j))
  rw [arrV_store]
  congr 1
  funext q
  unfold updV
  rw [mu_lg_sl]
  by_cases hq : q = i.toNatClampNeg
  · rw [if_pos hq, if_pos ⟨rfl, hq⟩]
  · rw [if_neg hq, if_neg (fun h => hq h.2)]
/-- a reference to an object of class t, into an array of such -/
theorem mu_aast (B : mu_B X G cc own nL R) (hdg : decode cc pc = .ok (.aastore, 1)) {ka t N v m : Nat} (hk : mu_kd w a = some (100 + ka, N)) {r : vw_C} (ht : t < 100) (hc : vwCl[t]? = some r) (hty : (mu_tys G)[ka]? = some (G.2.1 ka, .object r.1)) (hka : 4 ≤ ka) (hv : mu_kd w v = some (t, m)) {i : Int32} (hin : vp_in i N) (k : mu_WA X G nL Qf (mu_sr w a i.toNatClampNeg (some v)) kc ks (pc + 1) lv st) : mu_WA X G nL Qf w kc ks pc lv (.ref v :: .int i :: .ref a :: st) := fun H locs ls hH hS hl => by
  have hlt : i.toNatClampNeg < N := Nat.not_le.mp fun q => hin (Or.inr q)
  have h0 : ¬ i < 0 := fun q => hin (Or.inl q)
  obtain ⟨r', hr', cellV, g1, g2, g3, -⟩ := hH.obj hv ht
  have hcls := (B.2.2.2.2.2.1.1.1 t r hc).2
  obtain ⟨kA, comp, k1, k2, k3, -⟩ := (B.2.2.2.2.2.1.1.2 ka _ hty).2
  have hcomp : comp = G.1.1 t := Option.some.inj (k3.symm.trans hcls.1)
  subst hcomp
  obtain ⟨kC, hkC, -⟩ := hcls.2
  have hR : ∀ w : mu_W, mu_R w a (100 + ka) = .inr (.inr (.inr (.inr (mu_rv w a)))) := fun w => by unfold mu_R; rw [if_neg (by omega), if_neg (by omega)]
  have hcl := hH.arr hk (by omega)
  rw [hR, Nat.add_sub_cancel_left] at hcl
  refine W.aast B.1 B.2.1 hcl (fun q h => by cases h) (fun h => by cases h) k1 k2 rfl hkC ⟨h0, by show _ < (arrV _ _ _).slots.size; rw [arrV_size]; exact hlt⟩ g1 (fun q h => by rw [g3] at h; cases h) (by rw [g2]; exact hkC) (by rw [g2]; exact va_assign hcls) rfl rfl hdg fun H1 e z oq => ?_
  refine k H1 _ ls (hH.set hk rfl (fun _ => rfl) (fun _ _ _ => rfl) (fun _ _ _ => rfl) (fun b j h => by rw [mu_rv_sr, if_neg (fun q => h q.1)]) z oq ?_) (hS.put z oq (hH.2.2 a _ _ hk).1) hl
  unfold mu_at
  rw [if_neg (by omega), hR, Nat.add_sub_cancel_left]
  refine e.trans (congrArg some ?_)
  show (arrV _ _ (fun j => va_rf (mu_rv w a j))).setSlot _ _ = arrV _ _ (fun j => va_rf (mu_rv (mu_sr w a _ (some v)) a j))
  rw [arrV_store]
  congr 1
  funext q
  unfold updV
  rw [mu_rv_sr]
  by_cases hq : q = i.toNatClampNeg
  · rw [if_pos hq, if_pos ⟨rfl, hq⟩]
    rfl
  · rw [if_neg hq, if_neg (fun h => hq h.2)]
theorem mu_alen (B : mu_B X G cc own nL R) (hdg : decode cc pc = .ok (.arraylength, 1)) {ka N : Nat} (hk : mu_kd w a = some (100 + ka, N)) (hka : ka < 8) (k : mu_WA X G nL Qf w kc ks (pc + 1) lv (.int (nI N) :: st)) : mu_WA X G nL Qf w kc ks pc lv (.ref a :: st) := fun H locs ls hH hS hl => by
  obtain ⟨ty, hty⟩ : ∃ ty, (mu_tys G)[ka]? = some (G.2.1 ka, ty) := by
    match ka, hka with
    | 0, _ => exact ⟨_, rfl⟩
    | 1, _ => exact ⟨_, rfl⟩
    | 2, _ => exact ⟨_, rfl⟩
    | 3, _ => exact ⟨_, rfl⟩
    | 4, _ => exact ⟨_, rfl⟩
    | 5, _ => exact ⟨_, rfl⟩
    | 6, _ => exact ⟨_, rfl⟩
    | 7, _ => exact ⟨_, rfl⟩
  have hcl := hH.arr hk (by omega)
  rw [Nat.add_sub_cancel_left] at hcl
  have hP : va_P G.1 vwCl [(a, .inl (G.2.1 ka, N, mu_R w a (100 + ka)))] H := fun k q h => by
    have hz : k < 1 := (List.getElem?_eq_some_iff.mp h).1
    rw [show k = 0 by omega] at h
    cases h
    exact hcl
  exact va_alen B.1 B.2.1 B.2.2.2.2.2.1.1 hP 0 ka rfl hty rfl hdg (k H locs ls hH hS hl)
/-! new cells -/
theorem mu_new (B : mu_B X G cc own nL R) (hdg : decode cc pc = .ok (.new idx, 3)) {C : String} {T : u_T} {N : Nat} {ty0 : Nat → FieldType} (hcf : mu_cF t C T N ty0) (hl1 : Cond.classLink own idx C ∈ lw_gd) (hl2 : Cond.instantiable C N ∈ lw_gd) (hl3 : Cond.initialized C ∈ lw_gd) (hc1 : kc + 1 ≤ R.cells) (hc2 : ks + N ≤ R.slots)
    (k : mu_WA X G nL Qf (mu_al w t 0) (kc + 1) (ks + N) (pc + 3) lv (.ref (mu_nx w) :: st)) : mu_WA X G nL Qf w kc ks pc lv st := fun H locs ls hH hS hl => by
  obtain ⟨hc, ht, hty, hnm, hin, hdf⟩ := hcf
  have hts := B.2.2.2.2.1
  have hKn := B.2.2.2.2.2.1.1.1 t _ hc
  have hR := B.2.2.2.2.2.2
  refine W.newcK B.1 B.2.1 B.2.2.2.1 (hts _ hl1) (hts _ hl2) (hts _ hl3) rfl hdg (by rw [hR]; exact hc1) (by rw [hR]; exact hc2) hKn.2.1 hH.1 fun H1 kC hkC e1 z1 o1 => ?_
  refine k H1 locs ls (hH.push (by rw [z1, hH.1]) (fun q hq => o1 q (by rw [← hH.1]; exact hq)) ?_) ⟨Nat.le_trans hS.1 (by rw [z1, hH.1]; exact Nat.le_succ _), fun q h1 h2 => (o1 q (by rw [← hH.1]; exact Nat.lt_of_lt_of_le h1 hS.1)).trans (hS.2.1 q h1 h2), hS.2.2⟩ hl
  unfold mu_at
  rw [if_pos ht]
  refine ⟨_, hc, (u_born ty0 hts hin hKn hkC e1 hty).to (fun j hj => ?_)⟩
  rw [hdf j hj]
  unfold mu_V
  rw [mu_iv_al, mu_lg_al, mu_rv_al, if_pos rfl, if_pos rfl, if_pos rfl]
  rfl
theorem mu_newa (B : mu_B X G cc own nL R) {atype : ArrayType} (hdg : decode cc pc = .ok (.newarray atype, 2)) {ka : Nat} {ty : FieldType} (hty : newarray.typeOf atype = ty) (hka : (ka = 0 ∧ ty = .int) ∨ (ka = 1 ∧ ty = .long) ∨ (ka = 2 ∧ ty = .byte) ∨ (ka = 3 ∧ ty = .boolean)) (hw : Cond.arrayClass ty ∈ lw_gd) {N : Nat} (hN : N * componentBytes ty ≤ 536870912) (hN2 : N < 2 ^ 31) (hc1 : kc + 1 ≤ R.cells) (hc2 : ks + N ≤ R.slots)
    (k : mu_WA X G nL Qf (mu_al w (100 + ka) N) (kc + 1) (ks + N) (pc + 2) lv (.ref (mu_nx w) :: st)) : mu_WA X G nL Qf w kc ks pc lv (.int (nI N) :: st) := fun H locs ls hH hS hl => by
  subst hty
  have hR := B.2.2.2.2.2.2
  refine va_newaK B.1 B.2.1 (B.2.2.2.2.1 _ hw) rfl hdg rfl (nI_pos hN2) (nI_clamp hN2) hN (by rw [hR]; exact hc1) (by rw [hR]; exact hc2) hH.1 fun H1 cA e1 z1 o1 hAr hNm => ?_
  refine k H1 locs ls (hH.push (by rw [z1, hH.1]) (fun q hq => o1 q (by rw [← hH.1]; exact hq)) ?_) ⟨Nat.le_trans hS.1 (by rw [z1, hH.1]; exact Nat.le_succ _), fun q h1 h2 => (o1 q (by rw [← hH.1]; exact Nat.lt_of_lt_of_le h1 hS.1)).trans (hS.2.1 q h1 h2), hS.2.2⟩ hl
  unfold mu_at
  rw [if_neg (by omega), Nat.add_sub_cancel_left]
  rw [e1]
  have hz0 : (fun j => mu_iv (mu_al w (100 + ka) N) (mu_nx w) j) = fun _ => 0 := funext fun j => by rw [mu_iv_al, if_pos rfl]
  have hz1 : (fun j => mu_lg (mu_al w (100 + ka) N) (mu_nx w) j) = fun _ => 0 := funext fun j => by rw [mu_lg_al, if_pos rfl]
  rcases hka with ⟨rfl, h2⟩ | ⟨rfl, h2⟩ | ⟨rfl, h2⟩ | ⟨rfl, h2⟩
  · rw [h2] at hNm ⊢
    have e2 : cA = G.2.1 0 := Option.some.inj (hNm.symm.trans (B.2.2.2.2.2.1.1.2 0 _ rfl).2)
    rw [e2]
    show some (arrV _ _ _) = some (arrV _ _ (fun j => .int (mu_iv (mu_al w (100 + 0) N) (mu_nx w) j)))
    rw [show (fun j => Value.int (mu_iv (mu_al w (100 + 0) N) (mu_nx w) j)) = fun _ => Value.int 0 from funext fun j => congrArg Value.int (congrFun hz0 j)]
    rfl
  · rw [h2] at hNm ⊢
    have e2 : cA = G.2.1 1 := Option.some.inj (hNm.symm.trans (B.2.2.2.2.2.1.1.2 1 _ rfl).2)
    rw [e2]
    show some (arrV _ _ _) = some (arrV _ _ (fun j => .long (mu_lg (mu_al w (100 + 1) N) (mu_nx w) j)))
    rw [show (fun j => Value.long (mu_lg (mu_al w (100 + 1) N) (mu_nx w) j)) = fun _ => Value.long 0 from funext fun j => congrArg Value.long (congrFun hz1 j)]
    rfl
  · rw [h2] at hNm ⊢
    have e2 : cA = G.2.1 2 := Option.some.inj (hNm.symm.trans (B.2.2.2.2.2.1.1.2 2 _ rfl).2)
    rw [e2]
    show some (arrV _ _ _) = some (arrV _ _ (fun j => .int (mu_iv (mu_al w (100 + 2) N) (mu_nx w) j)))
    rw [show (fun j => Value.int (mu_iv (mu_al w (100 + 2) N) (mu_nx w) j)) = fun _ => Value.int 0 from funext fun j => congrArg Value.int (congrFun hz0 j)]
    rfl
  · rw [h2] at hNm ⊢
    have e2 : cA = G.2.1 3 := Option.some.inj (hNm.symm.trans (B.2.2.2.2.2.1.1.2 3 _ rfl).2)
    rw [e2]
    show some (arrV _ _ _) = some (arrV _ _ (fun j => .int (mu_iv (mu_al w (100 + 3) N) (mu_nx w) j)))
    rw [show (fun j => Value.int (mu_iv (mu_al w (100 + 3) N) (mu_nx w) j)) = fun _ => Value.int 0 from funext fun j => congrArg Value.int (congrFun hz0 j)]
    rfl
theorem mu_getsX (B : mu_B X G cc own nL R) (hdg : decode cc pc = .ok (.getstatic idx, 3)) {host : String} (hl1 : Cond.fieldLinkNest own idx RX11 "NEIGHBOUR_X" "[I" host ∈ mu_nests) (k : mu_WA X G nL Qf w kc ks (pc + 3) lv (.ref G.2.2.2.1 :: st)) : mu_WA X G nL Qf w kc ks pc lv st := fun H locs ls hH hS hl =>
  va_getsN B.1 B.2.1 B.2.2.2.2.2.1.2.2.1.1 hS B.2.2.2.1 (va_Nw.use rfl (B.2.2.2.2.2.1.2.1 _ hl1)) (fun _ h => h) hdg (k H locs ls hH hS hl)
theorem mu_getsY (B : mu_B X G cc own nL R) (hdg : decode cc pc = .ok (.getstatic idx, 3)) {host : String} (hl1 : Cond.fieldLinkNest own idx RX11 "NEIGHBOUR_Y" "[I" host ∈ mu_nests) (k : mu_WA X G nL Qf w kc ks (pc + 3) lv (.ref G.2.2.2.2 :: st)) : mu_WA X G nL Qf w kc ks pc lv st := fun H locs ls hH hS hl =>
  va_getsN B.1 B.2.1 B.2.2.2.2.2.1.2.2.2.1 hS B.2.2.2.1 (va_Nw.use rfl (B.2.2.2.2.2.1.2.1 _ hl1)) (fun _ h => h) hdg (k H locs ls hH hS hl)
theorem mu_ialdX (B : mu_B X G cc own nL R) (hdg : decode cc pc = .ok (.iaload, 1)) {i : Int32} (hin : vp_in i 8) (k : mu_WA X G nL Qf w kc ks (pc + 1) lv (.int (mu_nbX i.toNatClampNeg) :: st)) : mu_WA X G nL Qf w kc ks pc lv (.int i :: .ref G.2.2.2.1 :: st) := fun H locs ls hH hS hl =>
  va_ti B.1 B.2.1 B.2.2.2.2.2.1.2.2.1.2 hS hin rfl hdg (k H locs ls hH hS hl)
theorem mu_ialdY (B : mu_B X G cc own nL R) (hdg : decode cc pc = .ok (.iaload, 1)) {i : Int32} (hin : vp_in i 8) (k : mu_WA X G nL Qf w kc ks (pc + 1) lv (.int (mu_nbY i.toNatClampNeg) :: st)) : mu_WA X G nL Qf w kc ks pc lv (.int i :: .ref G.2.2.2.2 :: st) := fun H locs ls hH hS hl =>
  va_ti B.1 B.2.1 B.2.2.2.2.2.1.2.2.2.2 hS hin rfl hdg (k H locs ls hH hS hl)
theorem mu_alenX (B : mu_B X G cc own nL R) (hdg : decode cc pc = .ok (.arraylength, 1)) (k : mu_WA X G nL Qf w kc ks (pc + 1) lv (.int 8 :: st)) : mu_WA X G nL Qf w kc ks pc lv (.ref G.2.2.2.1 :: st) := fun H locs ls hH hS hl =>
  va_tlen B.1 B.2.1 B.2.2.2.2.2.1.2.2.1.2 hS rfl hdg (k H locs ls hH hS hl)
end MUF
