/-! ===== sums, rows, common divisors ===== -/
def sm (f : Nat → Int) : Nat → Int
  | 0 => 0
  | n + 1 => sm f n + f n
theorem sm_ext {f g : Nat → Int} : ∀ {n : Nat}, (∀ v, v < n → f v = g v) → sm f n = sm g n
  | 0, _ => rfl
  | n + 1, h => by rw [sm, sm, sm_ext (fun v hv => h v (by omega)), h n (by omega)]
theorem sm_mul {f : Nat → Int} {a : Int} : ∀ n, sm (fun v => a * f v) n = a * sm f n
  | 0 => by rw [sm, sm, Int.mul_zero]
  | n + 1 => by rw [sm, sm, sm_mul n, Int.mul_add]
theorem sm_sub {f g : Nat → Int} : ∀ n, sm (fun v => f v - g v) n = sm f n - sm g n
  | 0 => rfl
  | n + 1 => by rw [sm, sm, sm, sm_sub n]; omega
theorem sm_zero {f : Nat → Int} {n : Nat} (h : ∀ v, v < n → f v = 0) : sm f n = 0 := by
  have : ∀ m, m ≤ n → sm f m = 0 := by
    intro m
    induction m with
    | zero => intro _; rfl
    | succ m ih => intro hm; rw [sm, ih (by omega), h m (by omega)]; rfl
  exact this n (Nat.le_refl _)
theorem sm_two {f : Nat → Int} {p l : Nat} (hpl : p ≠ l) : ∀ n, (∀ v, v < n → v ≠ p → v ≠ l → f v = 0) → sm f n = (if p < n then f p else 0) + (if l < n then f l else 0)
  | 0, _ => by rw [sm, if_neg (by omega), if_neg (by omega)]; rfl
  | n + 1, h => by
    rw [sm, sm_two hpl n (fun v hv => h v (by omega))]
    by_cases e1 : n = p
    · subst e1
      rw [if_neg (by omega), if_pos (show n < n + 1 by omega)]
      by_cases e2 : l < n
      · rw [if_pos e2, if_pos (show l < n + 1 by omega)]; omega
      · rw [if_neg e2, if_neg (show ¬ l < n + 1 by omega)]; omega
    · by_cases e2 : n = l
      · subst e2
        rw [if_neg (show ¬ n < n by omega), if_pos (show n < n + 1 by omega)]
        by_cases e3 : p < n
        · rw [if_pos e3, if_pos (show p < n + 1 by omega)]; omega
        · rw [if_neg e3, if_neg (show ¬ p < n + 1 by omega)]; omega
      · rw [h n (by omega) e1 e2]
        by_cases e3 : p < n
        · rw [if_pos e3, if_pos (show p < n + 1 by omega)]
          by_cases e4 : l < n
          · rw [if_pos e4, if_pos (show l < n + 1 by omega)]; omega
          · rw [if_neg e4, if_neg (show ¬ l < n + 1 by omega)]; omega
        · rw [if_neg e3, if_neg (show ¬ p < n + 1 by omega)]
          by_cases e4 : l < n
          · rw [if_pos e4, if_pos (show l < n + 1 by omega)]; omega
          · rw [if_neg e4, if_neg (show ¬ l < n + 1 by omega)]; omega
def dt (n : Nat) (e x : Nat → Int) : Int := sm (fun v => e v * x v) n
theorem dt_ext {n : Nat} {a b x : Nat → Int} (h : ∀ v, v < n → a v = b v) : dt n a x = dt n b x := sm_ext (fun v hv => by rw [h v hv])
theorem dt_comm (n : Nat) (a b : Nat → Int) : dt n a b = dt n b a := sm_ext (fun v _ => Int.mul_comm _ _)
theorem dt_lin (n : Nat) (a b x : Nat → Int) (g f : Int) : dt n (fun i => a i * g - b i * f) x = g * dt n a x - f * dt n b x := by
  unfold dt
  rw [← sm_mul, ← sm_mul, ← sm_sub]
  apply sm_ext
  intro v _
  rw [Int.sub_mul]
  congr 1 <;> ac_rfl
theorem dt_scale (n : Nat) (a x : Nat → Int) (g : Int) : dt n (fun i => g * a i) x = g * dt n a x := by
  unfold dt
  rw [← sm_mul]
  apply sm_ext
  intro v _
  rw [Int.mul_assoc]
/-- the common divisor of a row -/
def gr (a : Nat → Int) : Nat → Nat
  | 0 => 0
  | n + 1 => Nat.gcd (gr a n) (a n).natAbs
theorem gr_ext {a b : Nat → Int} : ∀ {n : Nat}, (∀ v, v < n → a v = b v) → gr a n = gr b n
  | 0, _ => rfl
  | n + 1, h => by rw [gr, gr, gr_ext (fun v hv => h v (by omega)), h n (by omega)]
theorem gr_dvd {a : Nat → Int} : ∀ {n c : Nat}, c < n → gr a n ∣ (a c).natAbs
  | 0, c, h => absurd h (Nat.not_lt_zero c)
  | n + 1, c, h => by
    rw [gr]
    by_cases e : c = n
    · rw [e]; exact Nat.gcd_dvd_right _ _
    · exact Nat.dvd_trans (Nat.gcd_dvd_left _ _) (gr_dvd (by omega))
theorem gr_scale {a : Nat → Int} {k : Int} : ∀ n, gr (fun v => k * a v) n = k.natAbs * gr a n
  | 0 => rfl
  | n + 1 => by rw [gr, gr, gr_scale n, Int.natAbs_mul, Nat.gcd_mul_left]
theorem gr_zero {a : Nat → Int} : ∀ {n : Nat}, gr a n = 0 → ∀ v, v < n → a v = 0
  | 0, _, v, hv => absurd hv (Nat.not_lt_zero v)
  | n + 1, h, v, hv => by
    rw [gr] at h
    have h1 := Nat.eq_zero_of_gcd_eq_zero_left h
    have h2 := Nat.eq_zero_of_gcd_eq_zero_right h
    by_cases e : v = n
    · rw [e]; exact Int.natAbs_eq_zero.mp h2
    · exact gr_zero h1 v (by omega)
/-- a row made lighter -/
def lt (n : Nat) (a : Nat → Int) : Nat → Int := fun c => if gr a n ≤ 1 then a c else a c / (gr a n : Int)
theorem lt_mul {n : Nat} {a : Nat → Int} {c : Nat} (hc : c < n) (h : gr a n ≠ 0) : (gr a n : Int) * lt n a c = a c := by
  unfold lt
  by_cases e : gr a n ≤ 1
  · rw [if_pos e, show gr a n = 1 by omega]; simp
  · rw [if_neg e]
    exact Int.mul_ediv_cancel' (Int.natAbs_dvd_natAbs.mp (by rw [Int.natAbs_natCast]; exact gr_dvd hc))
theorem lt_gr {n : Nat} {a : Nat → Int} (h : gr a n ≠ 0) : gr (lt n a) n = 1 := by
  have e : gr (fun v => (gr a n : Int) * lt n a v) n = gr a n := gr_ext (fun v hv => lt_mul hv h)
  rw [gr_scale, Int.natAbs_natCast] at e
  have : gr a n * gr (lt n a) n = gr a n * 1 := by rw [e, Nat.mul_one]
  exact Nat.eq_of_mul_eq_mul_left (by omega) this
theorem lt_dt {n : Nat} {a x : Nat → Int} : dt n (lt n a) x = 0 ↔ dt n a x = 0 := by
  by_cases h : gr a n = 0
  · rw [dt_ext (a := lt n a) (b := a) (fun v _ => by unfold lt; rw [if_pos (by omega)])]
  · have e : dt n a x = (gr a n : Int) * dt n (lt n a) x := by
      rw [← dt_scale]
      exact dt_ext (fun v hv => (lt_mul hv h).symm)
    constructor
    · intro q; rw [e, q, Int.mul_zero]
    · intro q
      rw [e] at q
      rcases Int.mul_eq_zero.mp q with q | q
      · omega
      · exact q
theorem lt_le {n : Nat} {a : Nat → Int} {c : Nat} (hc : c < n) : (lt n a c).natAbs ≤ (a c).natAbs := by
  by_cases h : gr a n = 0
  · unfold lt; rw [if_pos (by omega)]; exact Nat.le_refl _
  · have e := lt_mul hc h
    rw [← e, Int.natAbs_mul, Int.natAbs_natCast]
    exact Nat.le_mul_of_pos_left _ (by omega)
theorem lt_z {n : Nat} {a : Nat → Int} {c : Nat} (hc : c < n) : lt n a c = 0 ↔ a c = 0 := by
  by_cases h : gr a n = 0
  · unfold lt; rw [if_pos (by omega)]
  · have e := lt_mul hc h
    constructor
    · intro q; rw [← e, q, Int.mul_zero]
    · intro q
      rw [q] at e
      rcases Int.mul_eq_zero.mp e with e | e
      · omega
      · exact e
theorem lt_pos {n : Nat} {a : Nat → Int} {c : Nat} (hc : c < n) (h : 0 < a c) : 0 < lt n a c := by
  by_cases h0 : gr a n = 0
  · unfold lt; rw [if_pos (by omega)]; exact h
  · have e := lt_mul hc h0
    by_cases q : 0 < lt n a c
    · exact q
    · have : (gr a n : Int) * lt n a c ≤ 0 := by
        have := Int.mul_le_mul_of_nonneg_left (show lt n a c ≤ 0 by omega) (show (0 : Int) ≤ (gr a n : Int) by omega)
        rw [Int.mul_zero] at this
        exact this
      omega
/-! ===== reduced systems of equations ===== -/
def RED (n : Nat) (Pv : Nat → Prop) (row : Nat → Nat → Int) : Prop := ∀ p, Pv p → p < n ∧ row p p ≠ 0 ∧ (∀ q, q < n → p < q → row p q = 0) ∧ ∀ q, q < n → Pv q → q ≠ p → row p q = 0
def SOL (n : Nat) (Pv : Nat → Prop) (row : Nat → Nat → Int) (x : Nat → Int) : Prop := ∀ p, Pv p → dt n (row p) x = 0
def FREE (Wp : (Nat → Int) → Prop) (l : Nat) : Prop := ∃ x, Wp x ∧ (∀ v, v < l → x v = 0) ∧ x l ≠ 0
def BAS (n : Nat) (Wp : (Nat → Int) → Prop) (l : Nat) (x : Nat → Int) : Prop := Wp x ∧ (∀ v, v < l → x v = 0) ∧ (∀ v, v < n → v ≠ l → FREE Wp v → x v = 0) ∧ 0 < x l ∧ gr x n = 1
theorem RED.two {n : Nat} {Pv : Nat → Prop} {row : Nat → Nat → Int} (h : RED n Pv row) {x : Nat → Int} {l p : Nat} (hl : l < n) (hlf : ¬ Pv l) (hp : Pv p) (hx : ∀ v, v < n → v ≠ l → ¬ Pv v → x v = 0) : dt n (row p) x = row p p * x p + row p l * x l := by
  obtain ⟨h1, h2, h3, h4⟩ := h p hp
  have hpl : p ≠ l := fun e => hlf (e ▸ hp)
  unfold dt
  rw [sm_two (f := fun v => row p v * x v) hpl n (fun v hv e1 e2 => by
    by_cases q : Pv v
    · rw [h4 v hv q e1, Int.zero_mul]
    · rw [hx v hv e2 q, Int.mul_zero]), if_pos h1, if_pos hl]
theorem RED.vec {n : Nat} {Pv : Nat → Prop} {row : Nat → Nat → Int} (h : RED n Pv row) {l : Nat} (hl : l < n) (hlf : ¬ Pv l) {W : Int} {y : Nat → Int} (hyl : y l = W) (hyp : ∀ p, Pv p → row p p * y p = -(row p l * W)) (hy0 : ∀ v, v < n → v ≠ l → ¬ Pv v → y v = 0) : SOL n Pv row y ∧ ∀ v, v < l → y v = 0 := by
  refine ⟨fun p hp => ?_, fun v hv => ?_⟩
  · rw [h.two hl hlf hp hy0, hyp p hp, hyl]; omega
  · by_cases q : Pv v
    · have e := hyp v q
      rw [(h v q).2.2.1 l hl hv, Int.zero_mul, Int.neg_zero] at e
      rcases Int.mul_eq_zero.mp e with e | e
      · exact absurd e (h v q).2.1
      · exact e
    · exact hy0 v (by omega) (by omega) q
/-- whole numbers that solve the rows of a state without one -/
theorem RED.ex {n : Nat} {Pv : Nat → Prop} {row : Nat → Nat → Int} (h : RED n Pv row) {l : Nat} (hl : l < n) (hlf : ¬ Pv l) : ∃ y, SOL n Pv row y ∧ (∀ v, v < l → y v = 0) ∧ y l ≠ 0 := by
  have hw : ∀ m, m ≤ n → ∃ W : Int, W ≠ 0 ∧ ∀ p, p < m → Pv p → row p p ∣ W := by
    intro m
    induction m with
    | zero => exact fun _ => ⟨1, by decide, fun p hp => absurd hp (Nat.not_lt_zero p)⟩
    | succ m ih =>
      intro hm
      obtain ⟨W, h1, h2⟩ := ih (by omega)
      by_cases q : Pv m
      · refine ⟨W * row m m, Int.mul_ne_zero h1 (h m q).2.1, fun p hp hq => ?_⟩
        by_cases e : p = m
        · rw [e]; exact Int.dvd_mul_left _ _
        · exact Int.dvd_trans (h2 p (by omega) hq) (Int.dvd_mul_right _ _)
      · exact ⟨W, h1, fun p hp hq => h2 p (by by_cases e : p = m; (rw [e] at hq; exact absurd hq q); omega) hq⟩
  obtain ⟨W, h1, h2⟩ := hw n (Nat.le_refl _)
  have hdec := fun v => Classical.propDecidable (Pv v)
  refine ⟨fun v => if v = l then W else if Pv v then -(row v l * (W / row v v)) else 0, ?_⟩
  have hv := h.vec (y := fun v => if v = l then W else if Pv v then -(row v l * (W / row v v)) else 0) hl hlf (W := W) (if_pos rfl) (fun p hp => by
    have hpl : p ≠ l := fun e => hlf (e ▸ hp)
    show row p p * (if p = l then W else if Pv p then -(row p l * (W / row p p)) else 0) = _
    rw [if_neg hpl, if_pos hp, Int.mul_neg]
    congr 1
    rw [Int.mul_left_comm, Int.mul_ediv_cancel' (h2 p (h p hp).1 hp)]) (fun v hv e q => by
    show (if v = l then W else if Pv v then -(row v l * (W / row v v)) else 0) = 0
    rw [if_neg e, if_neg q])
  exact ⟨hv.1, hv.2, by show (if l = l then W else _) ≠ 0; rw [if_pos rfl]; exact h1⟩
theorem RED.free {n : Nat} {Pv : Nat → Prop} {row : Nat → Nat → Int} (h : RED n Pv row) {Wp : (Nat → Int) → Prop} (hW : ∀ x, Wp x ↔ SOL n Pv row x) {l : Nat} (hl : l < n) : FREE Wp l ↔ ¬ Pv l := by
  constructor
  · rintro ⟨x, h1, h2, h3⟩ hp
    obtain ⟨g1, g2, g3, g4⟩ := h l hp
    have e := (hW x).mp h1 l hp
    have e2 : dt n (row l) x = row l l * x l := by
      unfold dt
      rw [sm_two (f := fun v => row l v * x v) (p := l) (l := n) (by omega) n (fun v hv e1 _ => by
        by_cases q : v < l
        · rw [h2 v q, Int.mul_zero]
        · rw [g3 v hv (by omega), Int.zero_mul]), if_pos g1, if_neg (Nat.lt_irrefl _), Int.add_zero]
    rw [e2] at e
    rcases Int.mul_eq_zero.mp e with e | e
    · exact g2 e
    · exact h3 e
  · intro hp
    obtain ⟨y, h1, h2, h3⟩ := h.ex hl hp
    exact ⟨y, (hW y).mpr h1, h2, h3⟩
theorem BAS.uniq {n : Nat} {Pv : Nat → Prop} {row : Nat → Nat → Int} (h : RED n Pv row) {Wp : (Nat → Int) → Prop} (hW : ∀ x, Wp x ↔ SOL n Pv row x) {l : Nat} (hl : l < n) {x y : Nat → Int} (hx : BAS n Wp l x) (hy : BAS n Wp l y) : ∀ v, v < n → x v = y v := by
  obtain ⟨x1, x2, x3, x4, x5⟩ := hx
  obtain ⟨y1, y2, y3, y4, y5⟩ := hy
  have hlf : ¬ Pv l := (h.free hW hl).mp ⟨x, x1, x2, by omega⟩
  have z : ∀ {u : Nat → Int}, (∀ v, v < n → v ≠ l → FREE Wp v → u v = 0) → ∀ v, v < n → v ≠ l → ¬ Pv v → u v = 0 := fun hu v hv e q => hu v hv e ((h.free hW hv).mpr q)
  have key : ∀ v, v < n → y l * x v = x l * y v := fun v hv => by
    by_cases e : v = l
    · rw [e, Int.mul_comm]
    · by_cases q : Pv v
      · have a1 := h.two hl hlf q (z x3)
        have a2 := h.two hl hlf q (z y3)
        rw [(hW x).mp x1 v q] at a1
        rw [(hW y).mp y1 v q] at a2
        have b1 : row v v * x v = -(row v l * x l) := by omega
        have b2 : row v v * y v = -(row v l * y l) := by omega
        have c1 : row v v * (y l * x v) = row v v * (x l * y v) := by
          rw [Int.mul_left_comm, b1, Int.mul_left_comm (row v v), b2, Int.mul_neg, Int.mul_neg]
          congr 1
          ac_rfl
        exact Int.eq_of_mul_eq_mul_left (h v q).2.1 c1
      · rw [z x3 v hv e q, z y3 v hv e q, Int.mul_zero, Int.mul_zero]
  have g1 : gr (fun v => y l * x v) n = gr (fun v => x l * y v) n := gr_ext key
  rw [gr_scale, gr_scale, x5, y5, Nat.mul_one, Nat.mul_one] at g1
  have g2 : y l = x l := by omega
  intro v hv
  have := key v hv
  rw [g2] at this
  exact Int.eq_of_mul_eq_mul_left (by omega) this
theorem RED.bas {n : Nat} {Pv : Nat → Prop} {row : Nat → Nat → Int} (h : RED n Pv row) {Wp : (Nat → Int) → Prop} (hW : ∀ x, Wp x ↔ SOL n Pv row x) {l : Nat} (hl : l < n) (hlf : ¬ Pv l) {W : Int} (hW0 : 0 < W) {y : Nat → Int} (hyl : y l = W) (hyp : ∀ p, Pv p → row p p * y p = -(row p l * W)) (hy0 : ∀ v, v < n → v ≠ l → ¬ Pv v → y v = 0) : BAS n Wp l (lt n y) := by
  obtain ⟨h1, h2⟩ := h.vec hl hlf hyl hyp hy0
  have hg : gr y n ≠ 0 := fun e => by have := gr_zero e l hl; omega
  refine ⟨(hW _).mpr (fun p hp => by rw [dt_comm]; exact lt_dt.mpr (by rw [dt_comm]; exact h1 p hp)), fun v hv => (lt_z (by omega)).mpr (h2 v hv), fun v hv e hf => (lt_z hv).mpr (hy0 v hv e ((h.free hW hv).mp hf)), lt_pos hl (by omega), lt_gr hg⟩
/-! the conserved weights of a block rule -/
def bd (S n i : Nat) : Nat := n / S ^ i % S
def bn (S n v : Nat) : Nat := (if bd S n 0 = v then 1 else 0) + (if bd S n 1 = v then 1 else 0) + (if bd S n 2 = v then 1 else 0) + (if bd S n 3 = v then 1 else 0)
def be_e (r : mu_RS) (k v : Nat) : Int := (bn (rs_S r) k v : Int) - (bn (rs_S r) (rs_be r k) v : Int)
def WS (r : mu_RS) (K : Nat) (x : Nat → Int) : Prop := ∀ k, k < K → dt (rs_S r) (be_e r k) x = 0
def CW (r : mu_RS) : (Nat → Int) → Prop := WS r (rs_N r)
def WTn (r : mu_RS) (D : Nat) : Prop := D = en_c (FREE (CW r)) (rs_S r)
def WTv (r : mu_RS) (k v : Nat) (a : Int) : Prop := (∃ l x, l < rs_S r ∧ FREE (CW r) l ∧ en_c (FREE (CW r)) l = k ∧ BAS (rs_S r) (CW r) l x ∧ a = x v) ∨ (en_c (FREE (CW r)) (rs_S r) ≤ k ∧ a = 0)
