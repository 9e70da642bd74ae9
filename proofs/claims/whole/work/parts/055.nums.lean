/-! ===== ints as whole numbers ===== -/
def mI (z : Int) : Int32 := Int32.ofInt z
def mL (z : Int) : Int64 := Int64.ofInt z
abbrev mi_ok (z : Int) : Prop := -2147483648 ≤ z ∧ z < 2147483648
theorem mI_toInt {z : Int} (h : mi_ok z) : (mI z).toInt = z := by
  obtain ⟨h1, h2⟩ := h
  exact Int32.toInt_ofInt_of_le (by simpa using h1) (by simpa using h2)
theorem mI_bd (x : Int32) : mi_ok x.toInt := ⟨by simpa using x.le_toInt, by simpa using x.toInt_lt⟩
theorem mI_of (x : Int32) : mI x.toInt = x := Int32.ofInt_toInt x
theorem mI_ex (x : Int32) : ∃ z : Int, mi_ok z ∧ x = mI z := ⟨x.toInt, mI_bd x, (mI_of x).symm⟩
theorem mI_add (a b : Int) : mI a + mI b = mI (a + b) := (Int32.ofInt_add a b).symm
theorem mI_sub (a b : Int) : mI a - mI b = mI (a - b) := (Int32.ofInt_sub a b).symm
theorem mI_mul (a b : Int) : mI a * mI b = mI (a * b) := (Int32.ofInt_mul a b).symm
theorem mI_neg (a : Int) : -mI a = mI (-a) := (Int32.ofInt_neg a).symm
theorem mI_nat (n : Nat) : nI n = mI (n : Int) := by
  unfold nI mI
  exact (Int32.ofInt_eq_ofNat (n := n)).symm
theorem mI_lt {a b : Int} (ha : mi_ok a) (hb : mi_ok b) : mI a < mI b ↔ a < b := by rw [Int32.lt_iff_toInt_lt, mI_toInt ha, mI_toInt hb]
theorem mI_le {a b : Int} (ha : mi_ok a) (hb : mi_ok b) : mI a ≤ mI b ↔ a ≤ b := by rw [Int32.le_iff_toInt_le, mI_toInt ha, mI_toInt hb]
theorem mI_eq {a b : Int} (ha : mi_ok a) (hb : mi_ok b) : mI a = mI b ↔ a = b := by
  constructor
  · intro h
    have := congrArg Int32.toInt h
    rwa [mI_toInt ha, mI_toInt hb] at this
  · rintro rfl
    rfl
theorem mI_clamp {z : Int} (h : mi_ok z) : (mI z).toNatClampNeg = z.toNat := by
  show (mI z).toInt.toNat = z.toNat
  rw [mI_toInt h]
theorem mI_clampN {n : Nat} (h : n < 2147483648) : (mI (n : Int)).toNatClampNeg = n := by
  rw [mI_clamp ⟨by omega, by omega⟩]
  simp
theorem mI_in {z : Int} {N : Nat} (h0 : 0 ≤ z) (h1 : z < N) (hN : N < 2147483648) : vp_in (mI z) N := vp_in_iff.mpr (by rw [mI_toInt ⟨by omega, by omega⟩]; exact ⟨h0, h1⟩)
theorem mI_inN {n N : Nat} (h1 : n < N) (hN : N < 2147483648) : vp_in (mI (n : Int)) N := mI_in (by omega) (by omega) hN
theorem mI_inI {x : Int32} {N : Nat} (h0 : 0 ≤ x.toInt) (h1 : x.toInt < N) : vp_in x N := vp_in_iff.mpr ⟨h0, h1⟩
theorem mI_pos {z : Int} (h0 : 0 ≤ z) (h1 : z < 2147483648) : ∃ n : Nat, n < 2147483648 ∧ z = n ∧ mI z = nI n := ⟨z.toNat, by omega, by omega, by rw [mI_nat]; congr 1; omega⟩
theorem mI_div {a b : Int} (ha : 0 ≤ a) (ha2 : a < 2147483648) (hb : 0 < b) (hb2 : b < 2147483648) : mI a / mI b = mI (a / b) := by
  obtain ⟨n, h1, rfl, h3⟩ := mI_pos ha ha2
  obtain ⟨m, h4, rfl, h6⟩ := mI_pos (Int.le_of_lt hb) hb2
  rw [h3, h6, pk_div (by omega) (by omega) (by omega), mI_nat]
  simp
theorem mI_rem {a b : Int} (ha : 0 ≤ a) (ha2 : a < 2147483648) (hb : 0 < b) (hb2 : b < 2147483648) : mI a - mI a / mI b * mI b = mI (a % b) := by
  obtain ⟨n, h1, rfl, h3⟩ := mI_pos ha ha2
  obtain ⟨m, h4, rfl, h6⟩ := mI_pos (Int.le_of_lt hb) hb2
  rw [h3, h6, pk_rem (by omega) (by omega) (by omega), mI_nat]
  simp
theorem mI_sh : ∀ k, k < 32 → ((mI ((k : Nat) : Int) &&& 31).toBitVec.smod 32).toNat = k := by decide +kernel
theorem mI_shr (z : Int) (h : mi_ok z) (k : Nat) (hk : k < 32) : mI z >>> (mI k &&& 31) = mI (z / 2 ^ k) := by
  have hs := mI_sh k hk
  have h1 := pk_shr (mI z) (mI k &&& 31) k hs
  rw [mI_toInt h, Int.shiftRight_eq_div_pow] at h1
  rw [← mI_of (mI z >>> (mI k &&& 31)), h1]
  simp
theorem mI_shl (z : Int) (k : Nat) (hk : k < 32) : mI z <<< (mI k &&& 31) = mI (z * 2 ^ k) := by
  have hs := mI_sh k hk
  have h1 := pk_shl (mI z) (mI k &&& 31) k hs
  apply Int32.toBitVec_inj.mp
  apply BitVec.eq_of_toNat_eq
  rw [h1]
  have e : ∀ y : Int, (mI y).toBitVec.toNat = (y % 2 ^ 32).toNat := fun y => by
    show (BitVec.ofInt 32 y).toNat = _
    rw [BitVec.toNat_ofInt]
    rfl
  rw [e, e]
  have h0 := Int.emod_nonneg z (show (2 ^ 32 : Int) ≠ 0 by decide)
  have : ((z % 2 ^ 32).toNat * 2 ^ k % 2 ^ 32 : Nat) = ((z * 2 ^ k) % 2 ^ 32).toNat := by
    apply Int.ofNat.inj
    show (((z % 2 ^ 32).toNat * 2 ^ k % 2 ^ 32 : Nat) : Int) = (((z * 2 ^ k) % 2 ^ 32).toNat : Int)
    rw [Int.toNat_of_nonneg (Int.emod_nonneg _ (by decide))]
    simp only [Int.natCast_emod, Int.natCast_mul, Int.natCast_pow]
    rw [Int.toNat_of_nonneg h0]
    simp [Int.mul_emod]
  exact this
theorem mI_bv (z : Int) : (mI z).toBitVec.toNat = (z % 4294967296).toNat := by
  show (BitVec.ofInt 32 z).toNat = _
  rw [BitVec.toNat_ofInt]
  rfl
/-- masks of the lowest bits -/
theorem mI_and (z : Int) {m : Int32} (k : Nat) (hk : k ≤ 31) (hm : m.toBitVec.toNat = 2 ^ k - 1) : mI z &&& m = mI (z % 2 ^ k) := by
  rw [pk_and (mI z) k hm, mI_nat, mI_bv]
  congr 1
  have h0 := Int.emod_nonneg z (show (4294967296 : Int) ≠ 0 by decide)
  rw [Int.natCast_emod, Int.toNat_of_nonneg h0]
  have hd : ((2 ^ k : Nat) : Int) ∣ 4294967296 := by
    refine ⟨((2 ^ (32 - k) : Nat) : Int), ?_⟩
    rw [← Int.natCast_mul, ← Nat.pow_add, show k + (32 - k) = 32 by omega]
    rfl
  rw [Int.emod_emod_of_dvd z hd]
  simp
theorem mI_alen (N : Nat) : nI N = mI (N : Int) := mI_nat N
section MUN
variable {X : mu_X} {G : mu_G} {cc : ByteArray} {own : String} {nL : Nat} {R : Room} {Qf : State → Prop} {w : mu_W} {kc ks pc : Nat} {lv st rest : List Value} {a : Nat}
theorem mu_len (B : mu_B X G cc own nL R) (hdg : decode cc pc = .ok (.arraylength, 1)) {ka N : Nat} (hk : mu_kd w a = some (100 + ka, N)) (hka : ka < 8) (k : mu_WA X G nL Qf w kc ks (pc + 1) lv (.int (mI N) :: st)) : mu_WA X G nL Qf w kc ks pc lv (.ref a :: st) := mu_alen B hdg hk hka (by rw [mI_nat]; exact k)
theorem mu_newm (B : mu_B X G cc own nL R) {atype : ArrayType} (hdg : decode cc pc = .ok (.newarray atype, 2)) {ka : Nat} {ty : FieldType} (hty : newarray.typeOf atype = ty) (hka : (ka = 0 ∧ ty = .int) ∨ (ka = 1 ∧ ty = .long) ∨ (ka = 2 ∧ ty = .byte) ∨ (ka = 3 ∧ ty = .boolean)) (hw : Cond.arrayClass ty ∈ lw_gd) {z : Int} (N : Nat) (hz : z = N) (hN : N * componentBytes ty ≤ 536870912) (hN2 : N < 2 ^ 31) (hc1 : kc + 1 ≤ R.cells) (hc2 : ks + N ≤ R.slots)
    (k : mu_WA X G nL Qf (mu_al w (100 + ka) N) (kc + 1) (ks + N) (pc + 2) lv (.ref (mu_nx w) :: st)) : mu_WA X G nL Qf w kc ks pc lv (.int (mI z) :: st) := by
  subst hz
  rw [← mI_nat]
  exact mu_newa B hdg hty hka hw hN hN2 hc1 hc2 k
end MUN
/-! what a method leaves as it was: S says which places may change -/
def mu_Fr (S : Nat → Nat → Prop) (w w' : mu_W) : Prop := mu_nx w' = mu_nx w ∧ (∀ a, mu_kd w' a = mu_kd w a) ∧ ∀ a j, ¬ S a j → mu_iv w' a j = mu_iv w a j ∧ mu_lg w' a j = mu_lg w a j ∧ mu_rv w' a j = mu_rv w a j
theorem mu_Fr.refl {S : Nat → Nat → Prop} (w : mu_W) : mu_Fr S w w := ⟨rfl, fun _ => rfl, fun _ _ _ => ⟨rfl, rfl, rfl⟩⟩
theorem mu_Fr.trans {S : Nat → Nat → Prop} {w1 w2 w3 : mu_W} (h : mu_Fr S w1 w2) (h2 : mu_Fr S w2 w3) : mu_Fr S w1 w3 := ⟨h2.1.trans h.1, fun a => (h2.2.1 a).trans (h.2.1 a), fun a j hn => by
  obtain ⟨a1, a2, a3⟩ := h.2.2 a j hn
  obtain ⟨b1, b2, b3⟩ := h2.2.2 a j hn
  exact ⟨b1.trans a1, b2.trans a2, b3.trans a3⟩⟩
theorem mu_Fr.mono {S S' : Nat → Nat → Prop} {w w' : mu_W} (h : mu_Fr S w w') (hS : ∀ a j, S a j → S' a j) : mu_Fr S' w w' := ⟨h.1, h.2.1, fun a j hn => h.2.2 a j (fun q => hn (hS a j q))⟩
theorem mu_Fr.si {S : Nat → Nat → Prop} {w w' : mu_W} (h : mu_Fr S w w') {a k : Nat} (hS : S a k) (x : Int32) : mu_Fr S w (mu_si w' a k x) := ⟨h.1, h.2.1, fun b j hn => by
  obtain ⟨a1, a2, a3⟩ := h.2.2 b j hn
  refine ⟨?_, a2, a3⟩
  rw [mu_iv_si, if_neg (fun q => hn (by rw [q.1, q.2]; exact hS))]
  exact a1⟩
theorem mu_Fr.sl {S : Nat → Nat → Prop} {w w' : mu_W} (h : mu_Fr S w w') {a k : Nat} (hS : S a k) (x : Int64) : mu_Fr S w (mu_sl w' a k x) := ⟨h.1, h.2.1, fun b j hn => by
  obtain ⟨a1, a2, a3⟩ := h.2.2 b j hn
  refine ⟨a1, ?_, a3⟩
  rw [mu_lg_sl, if_neg (fun q => hn (by rw [q.1, q.2]; exact hS))]
  exact a2⟩
theorem mu_Fr.sr {S : Nat → Nat → Prop} {w w' : mu_W} (h : mu_Fr S w w') {a k : Nat} (hS : S a k) (x : Option Nat) : mu_Fr S w (mu_sr w' a k x) := ⟨h.1, h.2.1, fun b j hn => by
  obtain ⟨a1, a2, a3⟩ := h.2.2 b j hn
  refine ⟨a1, a2, ?_⟩
  rw [mu_rv_sr, if_neg (fun q => hn (by rw [q.1, q.2]; exact hS))]
  exact a3⟩
theorem mu_Fr.kd {S : Nat → Nat → Prop} {w w' : mu_W} (h : mu_Fr S w w') {a : Nat} {v : Option (Nat × Nat)} (hk : mu_kd w a = v) : mu_kd w' a = v := (h.2.1 a).trans hk
theorem mu_Fr.iv {S : Nat → Nat → Prop} {w w' : mu_W} (h : mu_Fr S w w') {a j : Nat} (hn : ¬ S a j) {v : Int32} (hk : mu_iv w a j = v) : mu_iv w' a j = v := (h.2.2 a j hn).1.trans hk
theorem mu_Fr.lg {S : Nat → Nat → Prop} {w w' : mu_W} (h : mu_Fr S w w') {a j : Nat} (hn : ¬ S a j) {v : Int64} (hk : mu_lg w a j = v) : mu_lg w' a j = v := (h.2.2 a j hn).2.1.trans hk
theorem mu_Fr.rv {S : Nat → Nat → Prop} {w w' : mu_W} (h : mu_Fr S w w') {a j : Nat} (hn : ¬ S a j) {v : Option Nat} (hk : mu_rv w a j = v) : mu_rv w' a j = v := (h.2.2 a j hn).2.2.trans hk
/-- the same, where no reference is written -/
def mu_Fi (S : Nat → Nat → Prop) (w w' : mu_W) : Prop := mu_nx w' = mu_nx w ∧ (∀ a, mu_kd w' a = mu_kd w a) ∧ (∀ a j, mu_rv w' a j = mu_rv w a j) ∧ ∀ a j, ¬ S a j → mu_iv w' a j = mu_iv w a j ∧ mu_lg w' a j = mu_lg w a j
theorem mu_Fi.refl {S : Nat → Nat → Prop} (w : mu_W) : mu_Fi S w w := ⟨rfl, fun _ => rfl, fun _ _ => rfl, fun _ _ _ => ⟨rfl, rfl⟩⟩
theorem mu_Fi.trans {S : Nat → Nat → Prop} {w1 w2 w3 : mu_W} (h : mu_Fi S w1 w2) (h2 : mu_Fi S w2 w3) : mu_Fi S w1 w3 := ⟨h2.1.trans h.1, fun a => (h2.2.1 a).trans (h.2.1 a), fun a j => (h2.2.2.1 a j).trans (h.2.2.1 a j), fun a j hn => by
  obtain ⟨a1, a2⟩ := h.2.2.2 a j hn
  obtain ⟨b1, b2⟩ := h2.2.2.2 a j hn
  exact ⟨b1.trans a1, b2.trans a2⟩⟩
theorem mu_Fi.mono {S S' : Nat → Nat → Prop} {w w' : mu_W} (h : mu_Fi S w w') (hS : ∀ a j, S a j → S' a j) : mu_Fi S' w w' := ⟨h.1, h.2.1, h.2.2.1, fun a j hn => h.2.2.2 a j (fun q => hn (hS a j q))⟩
theorem mu_Fi.si {S : Nat → Nat → Prop} {w w' : mu_W} (h : mu_Fi S w w') {a k : Nat} {x : Int32} (hS : S a k) : mu_Fi S w (mu_si w' a k x) := ⟨h.1, h.2.1, h.2.2.1, fun b j hn => by
  obtain ⟨a1, a2⟩ := h.2.2.2 b j hn
  refine ⟨?_, a2⟩
  rw [mu_iv_si, if_neg (fun q => hn (by rw [q.1, q.2]; exact hS))]
  exact a1⟩
theorem mu_Fi.sl {S : Nat → Nat → Prop} {w w' : mu_W} (h : mu_Fi S w w') {a k : Nat} {x : Int64} (hS : S a k) : mu_Fi S w (mu_sl w' a k x) := ⟨h.1, h.2.1, h.2.2.1, fun b j hn => by
  obtain ⟨a1, a2⟩ := h.2.2.2 b j hn
  refine ⟨a1, ?_⟩
  rw [mu_lg_sl, if_neg (fun q => hn (by rw [q.1, q.2]; exact hS))]
  exact a2⟩
theorem mu_Fi.kd {S : Nat → Nat → Prop} {w w' : mu_W} (h : mu_Fi S w w') {a : Nat} {v : Option (Nat × Nat)} (hk : mu_kd w a = v) : mu_kd w' a = v := (h.2.1 a).trans hk
theorem mu_Fi.rv {S : Nat → Nat → Prop} {w w' : mu_W} (h : mu_Fi S w w') {a j : Nat} {v : Option Nat} (hk : mu_rv w a j = v) : mu_rv w' a j = v := (h.2.2.1 a j).trans hk
theorem mu_Fi.iv {S : Nat → Nat → Prop} {w w' : mu_W} (h : mu_Fi S w w') {a j : Nat} (hn : ¬ S a j) {v : Int32} (hk : mu_iv w a j = v) : mu_iv w' a j = v := (h.2.2.2 a j hn).1.trans hk
theorem mu_Fi.lg {S : Nat → Nat → Prop} {w w' : mu_W} (h : mu_Fi S w w') {a j : Nat} (hn : ¬ S a j) {v : Int64} (hk : mu_lg w a j = v) : mu_lg w' a j = v := (h.2.2.2 a j hn).2.trans hk
theorem mu_Fi.fr {S : Nat → Nat → Prop} {w w' : mu_W} (h : mu_Fi S w w') : mu_Fr S w w' := ⟨h.1, h.2.1, fun a j hn => ⟨(h.2.2.2 a j hn).1, (h.2.2.2 a j hn).2, h.2.2.1 a j⟩⟩
