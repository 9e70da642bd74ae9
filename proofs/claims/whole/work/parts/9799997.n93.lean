/-! THE CLAIM OUT OF ONE WALK OF THE LAW'S BODY. Your part is whole_start (and what it stands on); all else here is the same for every law, but numbers. -/
def R_law : String := "CellMuseumLaw"
def lw_P (b : Addr) (xs : List Int32) (args : Array Value) (s : State) : Prop := args = #[.ref b] ∧ s.IntsAt b xs ∧ xs.length ≤ 3072 ∧ (Jvm.Cond.and given_1 narrow_1).before args s = true
def lw_Q (_ : Array Value) (s : State) (o : Outcome) (t : State) : Prop := o = .returned (some (.int 1)) ∧ Framed s o t [] 600000 7302250
def lw_Z (below : List Frame) (a : Array Value) (s : State) : State → Prop := fun t => ∃ o, t.status = .running ∧ Ended t below o ∧ lw_Q a s o t
/-- the law's own end, with 1 on the stack, nothing written that was there before, its room as the claim has it -/
theorem lw_ret {p : Program} {l : Launch} {e : Env} {s : State} {m : MethodId} {below : List Frame} {meth : Method} {c : Code} {b : Nat} (hx : p.tables.exec = Jvm.exec) (hb : c.code = code) (hr : meth.sig.returnType = ret) (hlocks : meth.locks = false) {pc : Nat} {H : Heap} {ls : Array Slot} (hdg : decode code pc = .ok (.ireturn, 1)) : W p l e room_1 s m #[Value.ref b] below meth c H [] 600000 7302250 (lw_Z below #[Value.ref b] s) (F0 m pc ls [.int 1]) := by
  intro T hT X
  obtain ⟨fs, hret, hrun, hended, hW, hframe⟩ := X.leave (v := some (.int 1)) (hlocks := hlocks) (fun h => by rw [hr] at h; cases h)
  have hmeth' : T.vm.method? m = some meth := X.method'
  refine ⟨T.setFrames fs, ?_, .returned (some (.int 1)), hrun, hended, rfl, ⟨_, rfl⟩, hW, hframe⟩
  jvm_step X.here [X.here.top, hx, hb, hdg, hmeth', hr, ret, narrow_b1]
  (try refine ⟨rfl, ?_⟩); (try refine ⟨rfl, ?_⟩)
  first | (intro acts; rw [hret _ acts rfl rfl rfl]) | rw [hret _ _ rfl rfl rfl]
  exact Steps.refl _
/-- what holds at the law's entry: the machine, the code, the tables' words (any of lw_tbl by 'hts w (by decide +kernel)'), the script of L ints xs at the cell b, what the Statement gives of the start (any of its parts by flat_of_before) -/
def lw_At (p : Program) (s : State) (m : MethodId) (meth : Method) (c : Code) (b L : Nat) (xs : Nat → Int32) : Prop :=
  p.tables.exec = Jvm.exec ∧ c.code = code ∧ meth.sig.returnType = ret ∧ c.maxLocals = 4 ∧ s.vm.findClass R_law = some m.cls ∧ (∀ w ∈ lw_tbl, w.before #[Value.ref b] s = true) ∧ va_X b L xs s s.heap ∧ b < s.heap.size ∧ meth.locks = false ∧ (Jvm.Cond.and given_1 narrow_1).before #[Value.ref b] s = true
/-! ===== the start ===== -/
theorem arr_at {s : State} {cA comp : ClassId} {k : Class} {ty : FieldType} (hk : s.vm.classes[cA]? = some k) (hd : k.kind = .array comp ty) : ArrOfT s cA ty := fun n z => ⟨fun q h => (by cases h), k, hk, comp, hd⟩
theorem arr_prim {s : State} {b : Nat} {ty : FieldType} (h : (Cond.arrayClass ty).before #[Value.ref b] s = true) : ∃ cA, ArrOfT s cA ty ∧ s.vm.findClass ("[" ++ ty.toString) = some cA := by
  obtain ⟨c, k, comp, h1, h2, h3⟩ := Cond.arrayClass_spec h
  exact ⟨c, arr_at h2 h3, h1⟩
theorem arr_obj {s : State} {b : Nat} {C : String} (h : (Cond.arrayOver (.object C)).before #[Value.ref b] s = true) : ∃ cA, ArrOfT s cA (.object C) ∧ va_RA s cA (.object C) := by
  obtain ⟨comp, cA, kA, h1, h2, h3, h4, h5⟩ := Cond.arrayOver_spec h
  exact ⟨cA, arr_at h3 h4, kA, comp, h3, h4, h1, h5⟩
theorem arr_arr {s : State} {b : Nat} {t : FieldType} (h : (Cond.arrayOver (.array t)).before #[Value.ref b] s = true) : ∃ cA, ArrOfT s cA (.array t) ∧ va_RA s cA (.array t) := by
  obtain ⟨comp, cA, kA, h1, h2, h3, h4, h5⟩ := arrayOverA_spec h
  exact ⟨cA, arr_at h3 h4, h5⟩
def mu_w0 (n : Nat) : mu_W := (n, fun _ => none, fun _ _ => 0, fun _ _ => 0, fun _ _ => none)
set_option maxRecDepth 100000 in
set_option maxHeartbeats 4000000 in
theorem start_K {s : State} {b : Nat} (hts : ∀ w ∈ lw_tbl, w.before #[Value.ref b] s = true) (hgv : (Jvm.Cond.and given_1 narrow_1).before #[Value.ref b] s = true) : ∃ G : mu_G, mu_lo G = s.heap.size ∧ mu_K G s := by
  have hs := flat_of_before _ hgv
  have ex : ∀ c : Nat, ∃ (cC : ClassId) (iS : Nat → Nat), ∀ q, vwCl[c]? = some q → u_Kn s q.1 q.2.1 q.2.2 cC iS := fun c => by
    match c with
    | 0 => obtain ⟨a, d, h⟩ := u_known hts inX0 (hts _ (List.mem_filter.mp niX0).1); exact ⟨a, d, fun q hq => by cases hq; exact h⟩
    | 1 => obtain ⟨a, d, h⟩ := u_known hts inX1 (hts _ (List.mem_filter.mp niX1).1); exact ⟨a, d, fun q hq => by cases hq; exact h⟩
    | 2 => obtain ⟨a, d, h⟩ := u_known hts inX2 (hts _ (List.mem_filter.mp niX2).1); exact ⟨a, d, fun q hq => by cases hq; exact h⟩
    | 3 => obtain ⟨a, d, h⟩ := u_known hts inX3 (hts _ (List.mem_filter.mp niX3).1); exact ⟨a, d, fun q hq => by cases hq; exact h⟩
    | 4 => obtain ⟨a, d, h⟩ := u_known hts inX4 (hts _ (List.mem_filter.mp niX4).1); exact ⟨a, d, fun q hq => by cases hq; exact h⟩
    | 5 => obtain ⟨a, d, h⟩ := u_known hts inX5 (hts _ (List.mem_filter.mp niX5).1); exact ⟨a, d, fun q hq => by cases hq; exact h⟩
    | 6 => obtain ⟨a, d, h⟩ := u_known hts inX6 (hts _ (List.mem_filter.mp niX6).1); exact ⟨a, d, fun q hq => by cases hq; exact h⟩
    | 7 => obtain ⟨a, d, h⟩ := u_known hts inX7 (hts _ (List.mem_filter.mp niX7).1); exact ⟨a, d, fun q hq => by cases hq; exact h⟩
    | 8 => obtain ⟨a, d, h⟩ := u_known hts inX8 (hts _ (List.mem_filter.mp niX8).1); exact ⟨a, d, fun q hq => by cases hq; exact h⟩
    | 9 => obtain ⟨a, d, h⟩ := u_known hts inX9 (hts _ (List.mem_filter.mp niX9).1); exact ⟨a, d, fun q hq => by cases hq; exact h⟩
    | 10 => obtain ⟨a, d, h⟩ := u_known hts inX10 (hts _ (List.mem_filter.mp niX10).1); exact ⟨a, d, fun q hq => by cases hq; exact h⟩
    | 11 => obtain ⟨a, d, h⟩ := u_known hts inX11 (hts _ (List.mem_filter.mp niX11).1); exact ⟨a, d, fun q hq => by cases hq; exact h⟩
    | 12 => obtain ⟨a, d, h⟩ := u_known hts inX12 (hts _ (List.mem_filter.mp niX12).1); exact ⟨a, d, fun q hq => by cases hq; exact h⟩
    | n + 13 => exact ⟨0, fun _ => 0, fun q hq => absurd hq (by simp [vwCl])⟩

  have hX : ∀ j : Nat, j < 8 → (Term.elem (.static RX11 "NEIGHBOUR_X" "[I") (.int (Int32.ofNat j))).eval #[Value.ref b] s none [] s = some (.int (mu_nbX j)) := fun j hj => by
    have h8 : j = 0 ∨ j = 1 ∨ j = 2 ∨ j = 3 ∨ j = 4 ∨ j = 5 ∨ j = 6 ∨ j = 7 := by omega
    rcases h8 with rfl | rfl | rfl | rfl | rfl | rfl | rfl | rfl
    · exact va_eqt (hs (Cond.eq (.elem (.static RX11 "NEIGHBOUR_X" "[I") (.int 0)) (.int (0))) (by decide +kernel))
    · exact va_eqt (hs (Cond.eq (.elem (.static RX11 "NEIGHBOUR_X" "[I") (.int 1)) (.int (0))) (by decide +kernel))
    · exact va_eqt (hs (Cond.eq (.elem (.static RX11 "NEIGHBOUR_X" "[I") (.int 2)) (.int (-1))) (by decide +kernel))
    · exact va_eqt (hs (Cond.eq (.elem (.static RX11 "NEIGHBOUR_X" "[I") (.int 3)) (.int (1))) (by decide +kernel))
    · exact va_eqt (hs (Cond.eq (.elem (.static RX11 "NEIGHBOUR_X" "[I") (.int 4)) (.int (-1))) (by decide +kernel))
    · exact va_eqt (hs (Cond.eq (.elem (.static RX11 "NEIGHBOUR_X" "[I") (.int 5)) (.int (1))) (by decide +kernel))
    · exact va_eqt (hs (Cond.eq (.elem (.static RX11 "NEIGHBOUR_X" "[I") (.int 6)) (.int (1))) (by decide +kernel))
    · exact va_eqt (hs (Cond.eq (.elem (.static RX11 "NEIGHBOUR_X" "[I") (.int 7)) (.int (-1))) (by decide +kernel))
  obtain ⟨tX, eX, TX⟩ := va_Tof (tm := (.static RX11 "NEIGHBOUR_X" "[I")) (ty := .int) (N := 8) (f := fun j => .int (mu_nbX j)) (A := fun q => s.heap.size ≤ q) (by decide) (hs (Cond.arrayOf (.static RX11 "NEIGHBOUR_X" "[I") .int) (by decide +kernel)) (va_eqt (hs (Cond.eq (.length (.static RX11 "NEIGHBOUR_X" "[I")) (.int 8)) (by decide +kernel))) hX (fun a ha => Nat.not_le.mpr ha)
  have ZX : va_Z RX11 "NEIGHBOUR_X" "[I" (.ref tX) (fun q => s.heap.size ≤ q) s s.heap := va_Zref (hts (.laysStatic RX11 "NEIGHBOUR_X" "[I") (by decide +kernel)) (hts _ (List.mem_filter.mp ndX11).1) eX (fun a ha => Nat.not_le.mpr ha)
  have hY : ∀ j : Nat, j < 8 → (Term.elem (.static RX11 "NEIGHBOUR_Y" "[I") (.int (Int32.ofNat j))).eval #[Value.ref b] s none [] s = some (.int (mu_nbY j)) := fun j hj => by
    have h8 : j = 0 ∨ j = 1 ∨ j = 2 ∨ j = 3 ∨ j = 4 ∨ j = 5 ∨ j = 6 ∨ j = 7 := by omega
    rcases h8 with rfl | rfl | rfl | rfl | rfl | rfl | rfl | rfl
    · exact va_eqt (hs (Cond.eq (.elem (.static RX11 "NEIGHBOUR_Y" "[I") (.int 0)) (.int (-1))) (by decide +kernel))
    · exact va_eqt (hs (Cond.eq (.elem (.static RX11 "NEIGHBOUR_Y" "[I") (.int 1)) (.int (1))) (by decide +kernel))
    · exact va_eqt (hs (Cond.eq (.elem (.static RX11 "NEIGHBOUR_Y" "[I") (.int 2)) (.int (0))) (by decide +kernel))
    · exact va_eqt (hs (Cond.eq (.elem (.static RX11 "NEIGHBOUR_Y" "[I") (.int 3)) (.int (0))) (by decide +kernel))
    · exact va_eqt (hs (Cond.eq (.elem (.static RX11 "NEIGHBOUR_Y" "[I") (.int 4)) (.int (-1))) (by decide +kernel))
    · exact va_eqt (hs (Cond.eq (.elem (.static RX11 "NEIGHBOUR_Y" "[I") (.int 5)) (.int (1))) (by decide +kernel))
    · exact va_eqt (hs (Cond.eq (.elem (.static RX11 "NEIGHBOUR_Y" "[I") (.int 6)) (.int (-1))) (by decide +kernel))
    · exact va_eqt (hs (Cond.eq (.elem (.static RX11 "NEIGHBOUR_Y" "[I") (.int 7)) (.int (1))) (by decide +kernel))
  obtain ⟨tY, eY, TY⟩ := va_Tof (tm := (.static RX11 "NEIGHBOUR_Y" "[I")) (ty := .int) (N := 8) (f := fun j => .int (mu_nbY j)) (A := fun q => s.heap.size ≤ q) (by decide) (hs (Cond.arrayOf (.static RX11 "NEIGHBOUR_Y" "[I") .int) (by decide +kernel)) (va_eqt (hs (Cond.eq (.length (.static RX11 "NEIGHBOUR_Y" "[I")) (.int 8)) (by decide +kernel))) hY (fun a ha => Nat.not_le.mpr ha)
  have ZY : va_Z RX11 "NEIGHBOUR_Y" "[I" (.ref tY) (fun q => s.heap.size ≤ q) s s.heap := va_Zref (hts (.laysStatic RX11 "NEIGHBOUR_Y" "[I") (by decide +kernel)) (hts _ (List.mem_filter.mp ndX11).1) eY (fun a ha => Nat.not_le.mpr ha)
  obtain ⟨a0, A0, R0⟩ := arr_prim (hts _ (List.mem_filter.mp aw_int).1)
  obtain ⟨a1, A1, R1⟩ := arr_prim (hts _ (List.mem_filter.mp aw_long).1)
  obtain ⟨a2, A2, R2⟩ := arr_prim (hts _ (List.mem_filter.mp aw_byte).1)
  obtain ⟨a3, A3, R3⟩ := arr_prim (hts _ (List.mem_filter.mp aw_boolean).1)
  obtain ⟨a4, A4, R4⟩ := arr_obj (hts _ (List.mem_filter.mp ao_X4).1)
  obtain ⟨a5, A5, R5⟩ := arr_obj (hts _ (List.mem_filter.mp ao_X1).1)
  obtain ⟨a6, A6, R6⟩ := arr_obj (hts _ (List.mem_filter.mp ao_X3).1)
  obtain ⟨a7, A7, R7⟩ := arr_arr (hts _ (List.mem_filter.mp ao_J).1)
  refine ⟨((fun c => (ex c).choose, fun c => (ex c).choose_spec.choose), fun k => [a0, a1, a2, a3, a4, a5, a6, a7].getD k 0, s.heap.size, tX, tY), rfl, ⟨fun c q hq => (ex c).choose_spec.choose_spec q hq, fun k q hq => ?_⟩, fun w hw => ?_, ⟨ZX, TX⟩, ZY, TY⟩
  · match k, hq with
    | 0, hq => cases hq; exact ⟨A0, R0⟩
    | 1, hq => cases hq; exact ⟨A1, R1⟩
    | 2, hq => cases hq; exact ⟨A2, R2⟩
    | 3, hq => cases hq; exact ⟨A3, R3⟩
    | 4, hq => cases hq; exact ⟨A4, R4⟩
    | 5, hq => cases hq; exact ⟨A5, R5⟩
    | 6, hq => cases hq; exact ⟨A6, R6⟩
    | 7, hq => cases hq; exact ⟨A7, R7⟩
    | n + 8, hq => exact absurd hq (by simp [mu_tys])
  · obtain ⟨h1, h2⟩ := List.mem_filter.mp hw
    have h3 := hts w h1
    cases w with
    | fieldLinkNest a i b n d h => exact va_Nw.of rfl h3
    | methodLinkNest a i x h => exact va_Nw.of rfl h3
    | arrayOver ty => exact h3
    | _ => cases h2

set_option maxHeartbeats 4000000 in
theorem whole_start {p : Program} {e : Env} {s : State} {m : MethodId} {below : List Frame} {meth : Method} {c : Code} (l : Launch) {b L : Nat} {xs : Nat → Int32} (hL : L ≤ 3072) (C0 : lw_At p s m meth c b L xs) : W p l e room_1 s m #[Value.ref b] below meth c s.heap [] 0 0 (lw_Z below #[Value.ref b] s) (entryFrame m ([Value.ref b] : List Value).toArray 4) := by
  obtain ⟨hx, hb, hr, hml, hown, hts, hX, hbl, hlocks, hgv⟩ := id C0
  obtain ⟨G, hlo, hK⟩ := start_K hts hgv
  have B : mu_B (p, l, e, room_1, s, m, #[Value.ref b], below, meth, c) G cL_law RL 4 room_1 := ⟨hx, hb, hml, hown, fun w hw => hts w (List.mem_filter.mp hw).1, hK, rfl⟩
  have hbA : ¬ mu_A G b := by
    unfold mu_A
    rw [hlo]
    exact Nat.not_le.mpr hbl
  have key : mu_WA (p, l, e, room_1, s, m, #[Value.ref b], below, meth, c) G 4 (lw_Z below #[Value.ref b] s) (mu_w0 s.heap.size) 0 0 0 [.ref b, mu_no, mu_no, mu_no] [] := by
    refine law_start B hX hbl hbA hL (fun w kc ks lv h1 h2 => ?_) _
    intro H locs ls hH hS hl
    exact va_forget (fun q hq => by have := hS.2.2 q hq; unfold mu_A at this; rw [hlo] at this; exact this) (W.widen h1 h2 (lw_ret hx hb hr hlocks dL_law_1356))
  have hl := lv_entry ([.ref b]) (n := 4) (Nat.le_of_ble_eq_true rfl)
  rw [lg_entry_eq]
  generalize (lg_sl ([.ref b]) ++ List.replicate (4 - (lg_sl ([.ref b])).length) Slot.unset).toArray = ls at hl ⊢
  exact key s.heap [] ls ⟨rfl, by rw [hlo]; exact Nat.le_refl _, fun a t n h => by cases h⟩ va_S.rf hl

set_option maxHeartbeats 4000000 in
theorem lw_walk (l : Launch) (b : Addr) (xs : List Int32) : MetFree l x (headSpec (Jvm.Cond.code x code maxLocals ret :: tables_1) room_1) (lw_P b xs) (fun _ _ _ _ _ => True) lw_Q := by
  refine MetFree.of_bodyS (code := code) (maxLocals := maxLocals) (ret := ret) (by decide) ?_ ?_
  · intro args s m h hn
    obtain ⟨meth, c, h1, h2, h3, h4, h5, h6, -, -⟩ := Cond.code_spec hn (atoms_spec (ws := Jvm.Cond.code x code maxLocals ret :: tables_1) h _ List.mem_cons_self)
    exact ⟨meth, c, h1, h2, h3, h4, h5, h6⟩
  · intro p e s m args below meth c s₁ B hml0 hP _
    obtain ⟨rfl, hx, hbd, hgv⟩ := hP
    obtain ⟨scr, harrAt, hlist, hof, hsmall⟩ := hx
    obtain ⟨hcb, hkn, -, -⟩ := State.arrayAt?_spec harrAt
    have hown : s.vm.findClass R_law = some m.cls := findClass_of_methodNamed B.named
    have hts0 : ∀ c ∈ (Jvm.Cond.code x code maxLocals ret :: tables_1), c.before #[Value.ref b] s = true := atoms_spec (ws := Jvm.Cond.code x code maxLocals ret :: tables_1) B.pre
    have hts : ∀ w ∈ lw_tbl, w.before #[Value.ref b] s = true := k2_hts_sels lw_privs (fun w hw => hts0 w (List.mem_cons_of_mem _ hw)) lw_privs_ok
    have hml : c.maxLocals = 4 := B.maxLocals_eq (hts0 _ List.mem_cons_self)
    have X₀ : Stand p l e room_1 s m #[Value.ref b] below meth c s₁ [] 0 0 := Stand.of_body B
    have hh0 : s₁.heap = s.heap := by rw [B.state]; rfl
    have hsz : scr.slots.size = xs.length := by rw [← Array.length_toList, hlist, List.length_map]
    have hval : ∀ j : Nat, j < xs.length → scr.slots[j]? = some (.int (xs.getD j 0)) := fun j hj => by
      rw [← Array.getElem?_toList, hlist]
      simp [hj]
    have hbl : b < s.heap.size := (Array.getElem?_eq_some_iff.mp hcb).1
    have hX : va_X b xs.length (fun j => xs.getD j 0) s s.heap := ⟨scr, hcb, hof, hkn, hsz, hval⟩
    have K : W p l e room_1 s m #[Value.ref b] below meth c s₁.heap [] 0 0 (lw_Z below #[Value.ref b] s) (entryFrame m ([Value.ref b] : List Value).toArray 4) := by
      rw [hh0]
      exact whole_start l hbd ⟨B.exec, B.bytes, B.returns, hml, hown, hts, hX, hbl, B.notSynchronized, hgv⟩
    obtain ⟨t, a1, o, b1, b2, b3⟩ := K s₁ rfl X₀
    exact ⟨t, o, a1, b1, b2, b3⟩
theorem lw_pre_spec {args : Array Value} {s : State} (h : (Jvm.Cond.and given_1 narrow_1).before args s = true) (hr : rest_1_c.before args s = true) : ∃ (b : Addr) (xs : List Int32), lw_P b xs args s := by
  have hs := flat_of_before _ h
  have hq := flat_of_before _ hr
  have hc : (Cond.count 1).before args s = true := hs _ (by decide +kernel)
  have harr : (Cond.arrayOf (.arg 0) .int).before args s = true := hs _ (by decide +kernel)
  have hle : (Cond.le (.length (.arg 0)) (.int 3072)).before args s = true := hs _ (by decide +kernel)
  have hlen : (Cond.isInt (.length (.arg 0))).before args s = true := hq _ (by decide +kernel)
  have hall : (Cond.all (.arg 0) (.isInt (.elem (.arg 0) (.index 0)))).before args s = true := hq _ (by decide +kernel)
  obtain ⟨b, xs, hb, hx⟩ := State.ints_of_pre rfl harr hlen hall
  have hsm : xs.length < 2 ^ 31 := hx.choose_spec.2.2.2
  have hev : (Term.length (.arg 0)).eval args s none [] s = some (.int xs.length.toInt32) := hx.length_eval hb
  have hv := Cond.le_ints hev (show (Term.int 3072).eval args s none [] s = some (.int 3072) from rfl)
  have hd : xs.length.toInt32 ≤ 3072 := by
    simpa [Cond.before, Cond.holds, hv] using hle
  have hN : xs.length ≤ 3072 := (Int32.ofNat_le_ofNat hsm (by decide)).mp (show Int32.ofNat xs.length ≤ Int32.ofNat 3072 from hd)
  exact ⟨b, xs, Cond.one_arg hc (show args[0]? = some (.ref b) from hb), hx, hN, h⟩
theorem lw_comes (l : Launch) : Comes l x (Jvm.Cond.code x code maxLocals ret :: tables_1) room_1 (fun tb e args s => Calls_1 tb e args s ∧ rest_1 tb e args s ∧ Pre_1 tb e args s)
    (fun _ _ args s o t => lw_Q args s o t) := by
  intro p e ha hc hk s m args below hf hfit hheap happ hpre
  obtain ⟨b, xs, hP⟩ := lw_pre_spec hpre.2.2 hpre.2.1
  obtain ⟨k, o, h1, h2, h3, hQ⟩ := lw_walk l b xs p e ha hc hk s m args below hf ((Spec.applies_iff_loose hf).mp happ).1 hP trivial
  exact ⟨k, o, h1, h2, h3, hQ⟩
theorem lw_frame {s t : State} {o : Outcome} {args : Array Value} (h : Framed s o t [] 600000 7302250) :
    Framed s o t (fieldLocs frame_1_writes args s ++ arrayLocs frame_1_arrays args s ++ staticLocs frame_1_statics s) 600000 7302250 := h
theorem lw_limb (L : Cond) (hL : ∀ (args : Array Value) (s t : State), L.after args s (.returned (some (.int 1))) t = true) :
    ArmFor flags0 classFile x code maxLocals ret World_1 tables_1 room_1 Calls_1 rest_1 Pre_1
      (fun tb e a s o t => postC L tb e a s o t ∧ Framed s o t (fieldLocs frame_1_writes a s ++ arrayLocs frame_1_arrays a s ++ staticLocs frame_1_statics s) 600000 7302250) := by
  intro l _ _ _ p e ha hc hk s m args below hf hfit hheap happ hpre
  obtain ⟨k, o, h1, h2, h3, rfl, hF⟩ := lw_comes l p e ha hc hk s m args below hf hfit hheap happ hpre
  exact ⟨k, _, h1, h2, h3, hL args s _, lw_frame hF⟩
theorem i_vc : Claimed_1_1 ∧ Claimed_1_2 := ⟨lw_limb limb_1_1 (fun args s t => by simp [limb_1_1, Cond.after, Cond.holds, Cond.value]), lw_limb limb_1_2 (fun args s t => Cond.after_iff.mpr (by
  first | (rw [show limb_1_2 = Cond.eq .result (.int 1) from rfl, Cond.eq_ints (x := 1) (y := 1) rfl rfl]; simp; done) | (simp [limb_1_2, Cond.value, Term.eval]; done)))⟩

