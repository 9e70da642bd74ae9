/-! ===== the class: arrays of references, an array of arrays ===== -/
theorem ao_X4 : Cond.arrayOver (.object RX4) ∈ mu_nests := (List.mem_filter.mpr ⟨List.mem_of_getElem? (i := 191) (by decide +kernel), rfl⟩)
theorem ao_X1 : Cond.arrayOver (.object RX1) ∈ mu_nests := (List.mem_filter.mpr ⟨List.mem_of_getElem? (i := 193) (by decide +kernel), rfl⟩)
theorem ao_X3 : Cond.arrayOver (.object RX3) ∈ mu_nests := (List.mem_filter.mpr ⟨List.mem_of_getElem? (i := 195) (by decide +kernel), rfl⟩)
theorem ao_J : Cond.arrayOver (.array .long) ∈ mu_nests := (List.mem_filter.mpr ⟨List.mem_of_getElem? (i := 181) (by decide +kernel), rfl⟩)
theorem nlX0_9 : Cond.classLink RX0 9 ("[" ++ (FieldType.array .long).toString) ∈ lw_gd := (List.mem_filter.mpr ⟨List.mem_of_getElem? (i := 180) (by decide +kernel), rfl⟩)

theorem mu_anew {X : mu_X} {G : mu_G} {cc : ByteArray} {own : String} {nL : Nat} {R : Room} {Qf : State → Prop} {w : mu_W} {kc ks pc idx : Nat} {lv st : List Value} (B : mu_B X G cc own nL R) (hdg : decode cc pc = .ok (.anewarray idx, 3)) {C : String} {t : Nat} (ht : (mu_tys G)[t]? = some (G.2.1 t, .object C)) (ht4 : 4 ≤ t) (hl : Cond.classLink own idx C ∈ lw_gd) (ho : Cond.arrayOver (.object C) ∈ mu_nests) (N : Nat) (hN : N ≤ 1000) (hc1 : kc + 1 ≤ R.cells) (hc2 : ks + N ≤ R.slots)
    (k : mu_WA X G nL Qf (mu_al w (100 + t) N) (kc + 1) (ks + N) (pc + 3) lv (.ref (mu_nx w) :: st)) : mu_WA X G nL Qf w kc ks pc lv (.int (mI (N : Nat)) :: st) := fun H locs ls hH hS hls => by
  have hts := B.2.2.2.2.1
  have hR := B.2.2.2.2.2.2
  have zn : (mI (N : Int)).toNatClampNeg = N := mI_clampN (by omega)
  have nN : ¬ mI (N : Int) < 0 := by
    rw [show (0 : Int32) = mI 0 from rfl, mI_lt ⟨by omega, by omega⟩ ⟨by omega, by omega⟩]; omega
  refine W.anew B.1 B.2.1 B.2.2.2.1 (hts _ hl) (va_AO.use (B.2.2.2.2.2.1.2.1 _ ho)) rfl hdg rfl nN (by rw [zn]; omega) (by rw [hR]; exact hc1) (by rw [hR, zn]; exact hc2) fun cA kA comp f1 f2 f3 f4 => ?_
  rw [zn]
  obtain ⟨_, kA2, comp2, g1, g2, g3, g4⟩ := B.2.2.2.2.2.1.1.2 t _ ht
  have ec : cA = G.2.1 t := Option.some.inj (f1.symm.trans g4)
  subst ec
  rw [hH.1]
  have z1 : (H.push ({ cls := G.2.1 t, slots := Array.replicate N .null, vm := .none } : Cell)).size = H.size + 1 := Array.size_push ..
  have o1 : ∀ q : Nat, q < H.size → (H.push ({ cls := G.2.1 t, slots := Array.replicate N .null, vm := .none } : Cell))[q]? = H[q]? := fun q hq => by rw [Array.getElem?_push, if_neg (Nat.ne_of_lt hq)]
  refine k _ locs ls (hH.push z1 o1 ?_) ⟨Nat.le_trans hS.1 (by rw [z1]; exact Nat.le_succ _), fun q h1 h2 => (o1 q (Nat.lt_of_lt_of_le h1 hS.1)).trans (hS.2.1 q h1 h2), hS.2.2⟩ hls
  unfold mu_at
  rw [if_neg (by omega), Nat.add_sub_cancel_left, ← hH.1, Array.getElem?_push_size, arrV_new]
  congr 1
  unfold mu_R
  rw [if_neg (by omega), if_neg (by omega), vp_cell_q]
  congr 1
  funext j
  rw [mu_rv_al, if_pos hH.1]
  rfl
/-! four rows of four longs -/
def mj_out (cA : ClassId) (h i : Nat) : Cell := arrV cA 4 (fun j => if j < i then .ref (h + 1 + j) else .null)
def mj_row (comp : ClassId) : Cell := arrV comp 4 (fun _ => .long 0)
/-- the heap with i rows laid -/
def LaidJ (cA comp : ClassId) (H0 : Heap) (i : Nat) (H : Heap) : Prop := H.size = H0.size + 1 + i ∧ (∀ q : Nat, q < H0.size → H[q]? = H0[q]?) ∧ H[H0.size]? = some (mj_out cA H0.size i) ∧ ∀ j, j < i → H[H0.size + 1 + j]? = some (mj_row comp)
theorem mj_set (cA : ClassId) (h i : Nat) : (mj_out cA h i).setSlot i (.ref (h + 1 + i)) = mj_out cA h (i + 1) := by
  unfold mj_out
  rw [arrV_store]
  congr 1
  funext j
  unfold updV
  by_cases q : j = i
  · rw [if_pos q, if_pos (by omega), q]
  · rw [if_neg q]
    show (if j < i then Value.ref (h + 1 + j) else Value.null) = _
    by_cases q2 : j < i
    · rw [if_pos q2, if_pos (by omega)]
    · rw [if_neg q2, if_neg (by omega)]
theorem LaidJ.start (cA comp : ClassId) (H0 : Heap) : LaidJ cA comp H0 0 (H0.push (mj_out cA H0.size 0)) := ⟨by simp, fun q hq => by rw [Array.getElem?_push, if_neg (Nat.ne_of_lt hq)], by simp, fun j hj => absurd hj (Nat.not_lt_zero j)⟩
theorem LaidJ.next {cA comp : ClassId} {H0 H : Heap} {i : Nat} (h : LaidJ cA comp H0 i H) : LaidJ cA comp H0 (i + 1) ((H.push (mj_row comp)).setIfInBounds H0.size (mj_out cA H0.size (i + 1))) := by
  obtain ⟨h1, h2, h3, h4⟩ := h
  refine ⟨by simp; omega, fun q hq => ?_, ?_, fun j hj => ?_⟩
  · rw [Array.getElem?_setIfInBounds_ne (by omega), Array.getElem?_push, if_neg (by omega)]; exact h2 q hq
  · rw [Array.getElem?_setIfInBounds_self_of_lt (by simp; omega)]
  · rw [Array.getElem?_setIfInBounds_ne (by omega), Array.getElem?_push]
    by_cases q : H0.size + 1 + j = H.size
    · rw [if_pos q]
    · rw [if_neg q]; exact h4 j (by omega)
