/-! ===== an array of arrays, four by four ===== -/
section MJ
theorem mj_new {e : Env} {E : CtlPost} {d : Bool} {acts : List Action} {s : State} {Q : Addr → Pre} {c comp : ClassId} {k : Class} {type : FieldType} {N : Nat} {v : Value}
    (hk : s.vm.classes[c]? = some k) (hkind : k.kind = .array comp type) (hfit : fits type v = true) (hv : v.isDefault = true) (hlimit : ¬ N > e.platform.arrayLengthLimit) (hheap : ¬ N * componentBytes type > e.platform.maxHeapBytes) (h1 : s.heap.size < e.platform.maxCells) (h2 : s.slotsUsed + N ≤ e.platform.maxSlots)
    (hq : Q s.heap.size d acts (s.pushCell { cls := c, slots := Array.replicate N v, vm := .none })) : wp (Jvm.newArray c N v) Q E e d acts s := by
  have hf : ∀ i x, (Array.replicate N v)[i]? = some x → s.fitsSlot c .none i x = true := by
    intro i x hx
    simp only [Array.getElem?_replicate] at hx
    split at hx
    · cases hx; simp [State.fitsSlot, State.slotType?, hk, hkind, hfit]
    · cases hx
  have hdef : allocActs (Array.replicate N v) s.heap.size acts = acts := by
    have hall : ((Array.replicate N v).all (·.isDefault)) = true := by
      rw [Array.all_replicate]; split <;> simp [hv]
    unfold allocActs; rw [if_pos hall]
  simp only [Jvm.newArray, Jvm.arrayFits, wp_bind', Jvm.W.ask, Jvm.W.ite, hlimit, if_false, wp_pure', Jvm.W.theClass, hk, hkind, Option.some.injEq, exists_eq_left', hheap, Jvm.W.alloc, Jvm.W.stop, Array.size_replicate, hdef]
  rw [if_neg (by omega)]
  exact ⟨h1, h2, hf, hq⟩
theorem mj_rowE (comp : ClassId) : ({ cls := comp, slots := Array.replicate 4 (.long 0), vm := .none } : Cell) = mj_row comp := arrV_new comp 4 (.long 0)
theorem mj_outE (cA : ClassId) (h : Nat) : ({ cls := cA, slots := Array.replicate 4 .null, vm := .none } : Cell) = mj_out cA h 0 := arrV_new cA 4 .null
theorem mj_make {e : Env} {E : CtlPost} {d : Bool} {acts : List Action} {s : State} {Q : Addr → Pre} {cA comp cj : ClassId} (I : Nat → State → Prop)
    (hl : ¬ 4 > e.platform.arrayLengthLimit) (hh : ¬ 4 * 8 > e.platform.maxHeapBytes) (hA : ∃ k, s.vm.classes[cA]? = some k ∧ k.kind = .array comp (.array .long)) (r1 : s.heap.size < e.platform.maxCells) (r2 : s.slotsUsed + 4 ≤ e.platform.maxSlots)
    (h0 : I 0 (s.pushCell (mj_out cA s.heap.size 0)))
    (hv : ∀ i u, i < 4 → I i u → (∃ k, u.vm.classes[comp]? = some k ∧ k.kind = .array cj .long) ∧ (∃ k, u.vm.classes[cA]? = some k ∧ k.kind = .array comp (.array .long)) ∧ u.heap.size = s.heap.size + 1 + i ∧ u.heap.size < e.platform.maxCells ∧ u.slotsUsed + 4 ≤ e.platform.maxSlots ∧ u.heap[s.heap.size]? = some (mj_out cA s.heap.size i))
    (hI : ∀ i u, i < 4 → I i u → I (i + 1) ((u.pushCell (mj_row comp)).setCell s.heap.size (mj_out cA s.heap.size (i + 1))))
    (hq : ∀ u d' acts', I 4 u → Q s.heap.size d' acts' u) : wp (multianewarray.make cA [4, 4]) Q E e d acts s := by
  obtain ⟨kA, hkA, hdA⟩ := hA
  rw [multianewarray.make]
  simp only [wp_bind', Jvm.W.ite, show ¬ ((4 : Int32) < 0) by decide, if_false, wp_pure', Jvm.W.theClass, hkA, Option.some.injEq, exists_eq_left', hdA]
  refine mj_new hkA hdA rfl rfl hl (by show ¬ 4 * 4 > _; omega) r1 r2 ?_
  rw [show ((4 : Int32).toNatClampNeg) = 4 from rfl, mj_outE cA s.heap.size]
  simp only [show ((4 : Int32) == 0) = false by decide, Bool.false_eq_true, if_false, wp_bind', wp_pure']
  rw [Std.Legacy.Range.forIn_eq_forIn_range']
  refine wp_forIn_inv (fun rest u => ∃ i, i ≤ 4 ∧ rest = List.range' i (4 - i) ∧ I i u) _ _ ⟨0, by omega, rfl, h0⟩ ?_ ?_
  · rintro x rest u d' acts' Q' ⟨i, hi, he, hu⟩ hk
    have h4 : i < 4 := by
      rcases Nat.lt_or_ge i 4 with q | q
      · exact q
      · rw [show 4 - i = 0 by omega] at he
        cases he
    rw [show 4 - i = (3 - i) + 1 by omega, List.range'_succ] at he
    obtain ⟨e1, e2⟩ := List.cons.inj he
    have e3 := e1.symm
    subst e3 e2
    obtain ⟨⟨kc, hkc, hdc⟩, ⟨kB, hkB, hdB⟩, z1, z2, z3, z4⟩ := hv i u h4 hu
    simp only [wp_bind', wp_pure']
    rw [multianewarray.make]
    simp only [wp_bind', Jvm.W.ite, show ¬ ((4 : Int32) < 0) by decide, if_false, wp_pure', Jvm.W.theClass, hkc, Option.some.injEq, exists_eq_left', hdc]
    refine mj_new hkc hdc rfl rfl hl hh z2 z3 ?_
    rw [show ((4 : Int32).toNatClampNeg) = 4 from rfl, show defaultValue .long = .long 0 from rfl, mj_rowE]
    simp only [wp_bind', Jvm.W.writeLoc, wp_pure']
    refine ⟨mj_out cA s.heap.size i, ?_, (by intro hx; cases hx), ?_, ?_, ?_⟩
    · rw [State.heap_pushCell, Array.getElem?_push, if_neg (by omega)]
      exact z4
    · rw [show (mj_out cA s.heap.size i).slots.size = 4 from arrV_size ..]
      exact h4
    · show State.fitsSlot _ cA .none i _ = true
      simp [State.fitsSlot, State.slotType?, hkB, hdB, fits]
    · rw [z1, mj_set]
      exact hk _ _ _ ⟨i + 1, by omega, by rw [show 4 - (i + 1) = 3 - i by omega], hI i u h4 hu⟩
  · rintro u d' acts' ⟨i, hi, he, hu⟩
    have h4 : i = 4 := by
      rcases Nat.lt_or_ge i 4 with q | q
      · rw [show 4 - i = (3 - i) + 1 by omega, List.range'_succ] at he
        cases he
      · omega
    rw [h4] at hu
    exact hq u d' acts' hu
variable {p : Program} {l : Launch} {e : Env} {R : Room} {s : State} {m : MethodId} {args : Array Value} {below : List Frame} {meth : Method} {c : Code} {H : Heap} {locs : List Loc} {cells slots : Nat} {Q : State → Prop}
theorem mj_row_size (comp : ClassId) : (mj_row comp).slots.size = 4 := arrV_size ..
theorem mj_out_size (cA : ClassId) (h i : Nat) : (mj_out cA h i).slots.size = 4 := arrV_size ..
/-- the state with i rows laid -/
def mj_T (T0 : State) (cA comp : ClassId) : Nat → State
  | 0 => T0.pushCell (mj_out cA T0.heap.size 0)
  | i + 1 => ((mj_T T0 cA comp i).pushCell (mj_row comp)).setCell T0.heap.size (mj_out cA T0.heap.size (i + 1))
theorem mj_T_ok {T0 : State} {cA cj : ClassId} (X₁ : Stand p l e R s m args below meth c T0 locs cells slots) (hlow : s.heap.size ≤ T0.heap.size) : ∀ i, Stand p l e R s m args below meth c (mj_T T0 cA cj i) locs (cells + 1 + i) (slots + 4 + 4 * i) ∧ (mj_T T0 cA cj i).vm = T0.vm ∧ LaidJ cA cj T0.heap i (mj_T T0 cA cj i).heap
  | 0 => by
    have Y := X₁.pushed (mj_out cA T0.heap.size 0)
    rw [mj_out_size] at Y
    exact ⟨Y, rfl, LaidJ.start cA cj T0.heap⟩
  | i + 1 => by
    obtain ⟨Y, hvm, hL⟩ := mj_T_ok (cA := cA) (cj := cj) X₁ hlow i
    have hsz := hL.1
    have hold : ((mj_T T0 cA cj i).pushCell (mj_row cj)).heap[T0.heap.size]? = some (mj_out cA T0.heap.size i) := by
      rw [State.heap_pushCell, Array.getElem?_push, if_neg (by omega)]
      exact hL.2.2.1
    have Y2 := Y.pushed (mj_row cj)
    rw [mj_row_size] at Y2
    have Y3 := (Y2.stored hold i (.ref (T0.heap.size + 1 + i))).forget (fun y hy => by
      rw [List.mem_singleton] at hy
      rw [hy]
      exact hlow)
    rw [mj_set] at Y3
    exact ⟨Y3, hvm, hL.next⟩
theorem mj_cold {s : State} {f : JFrame} {Q : Unit → Pre} {E : CtlPost} {d : Bool} {acts : List Action} {index dm c : Nat} {vm' : Vm} (hs : s.topJava?.isSome) (hg : (Jvm.resolveClass f.method.cls index).Gives e.toSetting s.vm (.ok c) vm') (hr : vm'.classReady f.method.cls index c)
    (hsz : vm'.classes.size ≤ s.vm.classes.size := by no_record) :
    wp (multianewarray.sem index dm) Q E e d acts (s.setTop f) ↔ wp (multianewarray.sem index dm) Q E e d acts ((s.setVm vm').setTop f) := by
  simp only [multianewarray.sem, wp_bind']
  exact Jvm.W.resolveClassAt_transfer (s := s.setTop f) (State.method?_setTop f hs) hg hr
theorem mj_sem {T : State} {g : JFrame} {vm₁ : Vm} {index : Nat} {rest : List Value} {cA cj cp : ClassId} {kA₁ kj₁ : Class} {Qs : Unit → Pre} {E : CtlPost} {d : Bool} {acts : List Action}
    (X₁ : Stand p l e R s g.method args below meth c (T.setVm vm₁) locs cells slots) (hready₁ : vm₁.classReady g.method.cls index cA) (hkA₁ : vm₁.classes[cA]? = some kA₁) (hkindA₁ : kA₁.kind = .array cj (.array .long)) (hkj₁ : vm₁.classes[cj]? = some kj₁) (hkindj₁ : kj₁.kind = .array cp .long)
    (hlimit : ¬ 4 > e.platform.arrayLengthLimit) (hheap : ¬ 4 * 8 > e.platform.maxHeapBytes) (hstack : g.stack = .int 4 :: .int 4 :: rest) (hlow : s.heap.size ≤ T.heap.size) (hcells : cells + 5 ≤ R.cells) (hslots : slots + 20 ≤ R.slots)
    (hq : ∀ (d' : Bool) (acts' : List Action), Qs () d' acts' ((mj_T (T.setVm vm₁) cA cj 4).setTop { g with stack := .ref T.heap.size :: rest })) :
    wp (multianewarray.sem index 2) Qs E e d acts ((T.setVm vm₁).setTop g) := by
  simp only [multianewarray.sem, wp_bind', Jvm.W.resolveClassAt_ready (State.method?_setTop g X₁.here.top) hready₁]
  refine (popN_top (args := [.int 4, .int 4]) (rest := rest) X₁.here.top hstack).mpr ?_
  simp only [List.mapM_cons, List.mapM_nil, wp_bind', wp_pure']
  obtain ⟨hr1, hr2⟩ := X₁.roomAbove (a := 5) (b := 20) hcells hslots
  have K := mj_T_ok (cA := cA) (cj := cj) X₁ hlow
  refine mj_make (cA := cA) (comp := cj) (cj := cp) (fun i u => u = (mj_T (T.setVm vm₁) cA cj i).setTop { g with stack := rest }) hlimit hheap ⟨kA₁, hkA₁, hkindA₁⟩ (Nat.lt_of_lt_of_le (Nat.lt_add_of_pos_right (by decide)) hr1) (Nat.le_trans (Nat.add_le_add_left (by decide) _) hr2) rfl ?_ ?_ ?_
  · rintro i u hi rfl
    obtain ⟨Y, hvm, hL⟩ := K i
    obtain ⟨y1, y2⟩ := Y.roomAbove (a := 1) (b := 4) (by omega) (by omega)
    exact ⟨⟨kj₁, by show (mj_T (T.setVm vm₁) cA cj i).vm.classes[cj]? = _; rw [hvm]; exact hkj₁, hkindj₁⟩, ⟨kA₁, by show (mj_T (T.setVm vm₁) cA cj i).vm.classes[cA]? = _; rw [hvm]; exact hkA₁, hkindA₁⟩, hL.1, y1, y2, hL.2.2.1⟩
  · rintro i u hi rfl
    rfl
  · rintro u d' acts' rfl
    simp only [wp_bind', Jvm.W.mark, Jvm.W.pushRef, State.topJava?_setTop' _ (K 4).1.here.top, Option.some.injEq, exists_eq_left', State.setTop_setTop]
    exact hq _ _
theorem W.manewJ {cc : ByteArray} (hexec : p.tables.exec = Jvm.exec) (hb : c.code = cc) {own : String} {index : Nat} (hown : s.vm.findClass own = some m.cls) (hclink : (Cond.classLink own index ("[" ++ (FieldType.array .long).toString)).before args s = true) (hover : (Cond.arrayOver (.array .long)).before args s = true) (hac : (Cond.arrayClass .long).before args s = true)
    {g : JFrame} (hg : g.method = m) (hdg : decode cc g.pc = .ok (.multianewarray index 2, 4)) {rest : List Value} (hstack : g.stack = .int 4 :: .int 4 :: rest) (hlow : s.heap.size ≤ H.size) (hcells : cells + 5 ≤ R.cells) (hslots : slots + 20 ≤ R.slots)
    (kk : ∀ (cA comp : ClassId) (H' : Heap), s.vm.findClass ("[" ++ (FieldType.array .long).toString) = some cA → s.vm.findClass (FieldType.array .long).toString = some comp → LaidJ cA comp H 4 H' →
      W p l e R s m args below meth c H' locs (cells + 5) (slots + 20) Q { g with pc := g.pc + 4, stack := .ref H.size :: rest }) : W p l e R s m args below meth c H locs cells slots Q g := by
  intro T hT X
  subst hT; subst hb; subst hg
  have hpl : e.platform.magicAccessors = ({} : Platform).magicAccessors := by rw [X.admits.platform]
  obtain ⟨comp, cA, kA, hcomp, hidx, hkA, hkindA, hnameA⟩ := arrayOverA_spec hover
  obtain ⟨cj, kj, cp, hcj, hkj, hkindj⟩ := Cond.arrayClass_spec hac
  have ej : cj = comp := Option.some.inj (hcj.symm.trans hcomp)
  subst ej
  obtain ⟨cc', hfcc, hcl⟩ := Cond.classLink_spec hown hclink e.platform hpl
  cases hnameA.symm.trans hfcc
  obtain ⟨hg₁, hwarm₁, hready₁⟩ := State.classEntry (e := e) X.warmed hcl
  generalize T.vm.noted g.method.cls index (.cls cA) = vm₁ at hg₁ hwarm₁ hready₁
  have hal : s.vm.Alike vm₁ := hwarm₁.alike
  obtain ⟨kA₁, hkA₁, heA⟩ := hal.2.2 _ _ hkA
  have hkindA₁ : kA₁.kind = .array cj (.array .long) := by rw [heA]; exact hkindA
  obtain ⟨kj₁, hkj₁, hej⟩ := hal.2.2 _ _ hkj
  have hkindj₁ : kj₁.kind = .array cp .long := by rw [hej]; exact hkindj
  have hlimit : ¬ 4 > e.platform.arrayLengthLimit := by rw [Launch.admits_arrayLengthLimit X.admits]; decide
  have hheap : ¬ 4 * 8 > e.platform.maxHeapBytes := by
    rw [Launch.admits_maxHeapBytes X.admits]; decide
  have X₁ := X.noted hwarm₁
  obtain ⟨Y, hvm, hL⟩ := mj_T_ok (cA := cA) (cj := cj) X₁ hlow 4
  obtain ⟨t, a1, b1⟩ := kk cA cj (mj_T (T.setVm vm₁) cA cj 4).heap hnameA hcomp hL (mj_T (T.setVm vm₁) cA cj 4) rfl Y
  refine ⟨t, ?_, b1⟩
  jvm_step X.here [hexec, hdg, mj_cold (e := e) (s := T) (f := g) X.here.top hg₁ hready₁]
  refine mj_sem X₁ hready₁ hkA₁ hkindA₁ hkj₁ hkindj₁ hlimit hheap hstack hlow hcells hslots (fun d' acts' => ?_)
  simp [jvm, Y.here.top]
  exact a1
end MJ
