/-! ===== loops, and bytes of ints ===== -/
theorem mu_ind {σ : Type} (N : Nat) (Wk P : Nat → σ → Prop) (h : ∀ k s, k ≤ N → P k s → (∀ s', k < N → P (k + 1) s' → Wk (k + 1) s') → Wk k s) : ∀ k s, k ≤ N → P k s → Wk k s := by
  have : ∀ d k s, N - k = d → k ≤ N → P k s → Wk k s := by
    intro d
    induction d with
    | zero => intro k s hd hk hP; exact h k s hk hP (fun s' hlt _ => absurd hlt (by omega))
    | succ d ih => intro k s hd hk hP; exact h k s hk hP (fun s' hlt hP' => ih (k + 1) s' (by omega) (by omega) hP')
  intro k s hk hP
  exact this (N - k) k s rfl hk hP
theorem mu_wf {σ : Type} (μ : σ → Nat) (Wk P : σ → Prop) (h : ∀ s, P s → (∀ s', P s' → μ s' < μ s → Wk s') → Wk s) : ∀ s, P s → Wk s := by
  have : ∀ n s, μ s < n → P s → Wk s := by
    intro n
    induction n with
    | zero => intro s hs; exact absurd hs (Nat.not_lt_zero _)
    | succ n ih => intro s hs hP; exact h s hP (fun s' hP' hlt => ih s' (by omega) hP')
  intro s hP
  exact this (μ s + 1) s (Nat.lt_succ_self _) hP
/-- the k-th of the four bytes of an int, the highest first -/
def mu_by (x : Int32) (k : Nat) : Nat := x.toBitVec.toNat / 2 ^ (24 - 8 * k) % 256
theorem mu_by_lt (x : Int32) (k : Nat) : mu_by x k < 256 := Nat.mod_lt _ (by decide)
theorem mu_sh2 : ∀ k, k < 32 → (((mI ((k : Nat) : Int)).toUInt32 &&& Int32.toUInt32 31).toBitVec % 32).toNat = k := by decide +kernel
theorem mu_ush (x : Int32) {k : Nat} (hk : k < 32) : (x.toUInt32 >>> ((mI (k : Int)).toUInt32 &&& Int32.toUInt32 31)).toInt32.toBitVec.toNat = x.toBitVec.toNat / 2 ^ k := pk_ushr x (mI k) k (mu_sh2 k hk)
theorem mu_by_and (x : Int32) {z : Int} {k : Nat} (hk : k < 4) (hz : z = 24 - 8 * k) : (x.toUInt32 >>> ((mI z).toUInt32 &&& Int32.toUInt32 31)).toInt32 &&& mI 255 = mI (mu_by x k) := by
  have e : z = ((24 - 8 * k : Nat) : Int) := by omega
  rw [e, pk_and _ (m := mI 255) 8 (by decide), mu_ush x (by omega), mI_nat]
  rfl
theorem mu_b8 : ∀ n, n < 256 → (mI ((n : Nat) : Int)).toInt8.toInt32 &&& mI 255 = mI n := by decide +kernel
theorem mu_i8 (x : Int32) : x.toInt8 = (x &&& mI 255).toInt8 := by
  apply Int8.toBitVec_inj.mp
  show x.toBitVec.signExtend 8 = (x.toBitVec &&& (mI 255).toBitVec).signExtend 8
  apply BitVec.eq_of_getLsbD_eq
  intro i hi
  simp only [BitVec.getLsbD_signExtend, BitVec.getLsbD_and]
  have h255 : ∀ j, j < 8 → (mI 255).toBitVec.getLsbD j = true := by decide +kernel
  have : i < 32 := by omega
  simp [this, hi, h255 i hi]
theorem mu_by_i8 (x : Int32) {z : Int} {k : Nat} (hk : k < 4) (hz : z = 24 - 8 * k) : (x.toUInt32 >>> ((mI z).toUInt32 &&& Int32.toUInt32 31)).toInt32.toInt8.toInt32 = (mI (mu_by x k)).toInt8.toInt32 := by
  rw [mu_i8, mu_by_and x hk hz]
/-- a byte as an array of bytes holds it -/
def mb (n : Nat) : Int32 := (mI n).toInt8.toInt32
theorem mb_and {n : Nat} (h : n < 256) : mb n &&& mI 255 = mI n := mu_b8 n h
theorem mb_mb : ∀ n, n < 256 → (mb n).toInt8.toInt32 = mb n := by decide +kernel
theorem mb_lo : ∀ n, n < 128 → mb n = mI n := by decide +kernel
theorem mI_lt0 {z : Int} (h : mi_ok z) : mI z < 0 ↔ z < 0 := mI_lt (b := 0) h ⟨by decide, by decide⟩
theorem mI_le0 {z : Int} (h : mi_ok z) : mI z ≤ 0 ↔ z ≤ 0 := mI_le (b := 0) h ⟨by decide, by decide⟩
theorem mI_ge0 {z : Int} (h : mi_ok z) : 0 ≤ mI z ↔ 0 ≤ z := mI_le (a := 0) ⟨by decide, by decide⟩ h
theorem mI_gt0 {z : Int} (h : mi_ok z) : 0 < mI z ↔ 0 < z := mI_lt (a := 0) ⟨by decide, by decide⟩ h
theorem mI_eq0 {z : Int} (h : mi_ok z) : mI z = 0 ↔ z = 0 := mI_eq (b := 0) h ⟨by decide, by decide⟩
