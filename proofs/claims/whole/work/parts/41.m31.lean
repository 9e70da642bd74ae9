/-! ===== the reference's elimination ===== -/
theorem sm_add {f g : Nat → Int} : ∀ n, sm (fun v => f v + g v) n = sm f n + sm g n
  | 0 => rfl
  | n + 1 => by rw [sm, sm, sm, sm_add n]; omega
theorem lt_sum {n : Nat} {a : Nat → Int} (h : sm a n = 0) : sm (lt n a) n = 0 := by
  by_cases q : gr a n = 0
  · rw [sm_ext (g := a) (fun v _ => by unfold lt; rw [if_pos (by omega)])]; exact h
  · have e : (gr a n : Int) * sm (lt n a) n = 0 := by
      rw [← sm_mul, ← h]
      exact sm_ext (fun v hv => lt_mul hv q)
    rcases Int.mul_eq_zero.mp e with e | e
    · omega
    · exact e
theorem wo_c {s : Nat} {e d : Nat → Int} {c : Nat} (hc : c < s) : wo s e d c c = 0 := by
  unfold wo
  by_cases h : e c = 0
  · rw [if_pos h]; exact h
  · rw [if_neg h]
    exact (lt_z hc).mpr (by rw [Int.mul_comm]; omega)
theorem wo_0 {s : Nat} {e d : Nat → Int} {c q : Nat} (hq : q < s) (h1 : e q = 0) (h2 : e c ≠ 0 → d q = 0) : wo s e d c q = 0 := by
  unfold wo
  by_cases h : e c = 0
  · rw [if_pos h]; exact h1
  · rw [if_neg h]
    exact (lt_z hq).mpr (by rw [h1, h2 h, Int.zero_mul, Int.zero_mul]; rfl)
theorem wo_ne {s : Nat} {e d : Nat → Int} {c q : Nat} (hq : q < s) (h1 : e q ≠ 0) (h2 : d q = 0) (h3 : d c ≠ 0) : wo s e d c q ≠ 0 := by
  unfold wo
  by_cases h : e c = 0
  · rw [if_pos h]; exact h1
  · rw [if_neg h]
    intro hh
    have := (lt_z hq).mp hh
    rw [h2, Int.zero_mul, Int.sub_zero] at this
    rcases Int.mul_eq_zero.mp this with e9 | e9
    · exact h1 e9
    · exact h3 e9
theorem wo_sum {s : Nat} {e d : Nat → Int} {c : Nat} (h1 : sm e s = 0) (h2 : sm d s = 0) : sm (wo s e d c) s = 0 := by
  unfold wo
  by_cases h : e c = 0
  · rw [if_pos h]; exact h1
  · rw [if_neg h]
    refine lt_sum ?_
    rw [sm_sub, sm_ext (f := fun v => e v * d c) (g := fun v => d c * e v) (fun v _ => Int.mul_comm _ _), sm_ext (f := fun v => d v * e c) (g := fun v => e c * d v) (fun v _ => Int.mul_comm _ _), sm_mul, sm_mul, h1, h2]
    simp
theorem wo_dt {s : Nat} {e d x : Nat → Int} {c : Nat} (h1 : d c ≠ 0) (h2 : dt s d x = 0) : dt s (wo s e d c) x = 0 ↔ dt s e x = 0 := by
  unfold wo
  by_cases h : e c = 0
  · rw [if_pos h]
  · rw [if_neg h, lt_dt, dt_lin, h2, Int.mul_zero, Int.sub_zero]
    constructor
    · intro q
      rcases Int.mul_eq_zero.mp q with q | q
      · exact absurd q h1
      · exact q
    · intro q; rw [q, Int.mul_zero]
theorem wo_bd {s : Nat} {e d : Nat → Int} {c : Nat} {A B : Nat} (hc : c < s) (hB : 1 ≤ B) (he : ∀ q, q < s → (e q).natAbs ≤ A) (hd : ∀ q, q < s → (d q).natAbs ≤ B) (q : Nat) (hq : q < s) : (wo s e d c q).natAbs ≤ 2 * (A * B) := by
  unfold wo
  by_cases h : e c = 0
  · rw [if_pos h]
    have h1 := he q hq
    have h2 : A ≤ A * B := Nat.le_mul_of_pos_right A (by omega)
    omega
  · rw [if_neg h]
    exact Nat.le_trans (lt_le hq) (nab (he q hq) (hd c hc) (hd q hq) (he c hc))
theorem wo_gr {s : Nat} {e d : Nat → Int} {c p : Nat} (h : gr e s = 1) (hp : p < s) (h1 : e p ≠ 0) (h2 : d p = 0) (h3 : d c ≠ 0) : gr (wo s e d c) s = 1 := by
  unfold wo
  by_cases h0 : e c = 0
  · rw [if_pos h0]; exact h
  · rw [if_neg h0]
    refine lt_gr (fun hh => ?_)
    have := gr_zero hh p hp
    rw [h2, Int.zero_mul, Int.sub_zero] at this
    rcases Int.mul_eq_zero.mp this with e9 | e9
    · exact h1 e9
    · exact h3 e9
/-- the numbers of states gained and lost, digit by digit -/
def pe (S a b : Nat) : Nat → Nat → Int
  | 0 => fun _ => 0
  | i + 1 => fun v => pe S a b i v + (if bd S a i = v then 1 else 0) - (if bd S b i = v then 1 else 0)
theorem pe_4 (r : mu_RS) (k v : Nat) : pe (rs_S r) k (rs_be r k) 4 v = be_e r k v := by
  unfold be_e bn
  simp only [pe]
  repeat' split
  all_goals omega
theorem sm_one {d : Nat} : ∀ {n : Nat}, sm (fun v => if d = v then (1 : Int) else 0) n = if d < n then 1 else 0
  | 0 => by rw [sm, if_neg (by omega)]
  | n + 1 => by
    rw [sm, sm_one]
    by_cases h1 : d < n
    · rw [if_pos h1, if_neg (by omega), if_pos (by omega)]; rfl
    · rw [if_neg h1]
      by_cases h2 : d = n
      · rw [if_pos h2, if_pos (by omega)]; rfl
      · rw [if_neg h2, if_neg (by omega)]; rfl
theorem pe_sum {S a b : Nat} (hS : 0 < S) : ∀ i, sm (pe S a b i) S = 0
  | 0 => sm_zero (fun _ _ => rfl)
  | i + 1 => by
    have e : sm (pe S a b (i + 1)) S = sm (fun v => (fun v => pe S a b i v + (fun v => if bd S a i = v then (1 : Int) else 0) v) v - (fun v => if bd S b i = v then (1 : Int) else 0) v) S := rfl
    rw [e, sm_sub, sm_add, pe_sum hS i, sm_one, sm_one, if_pos (show bd S a i < S from Nat.mod_lt _ hS), if_pos (show bd S b i < S from Nat.mod_lt _ hS)]
    rfl
theorem pe_bd {S a b : Nat} : ∀ i v, (pe S a b i v).natAbs ≤ i
  | 0, _ => Nat.le_refl _
  | i + 1, v => by
    have h := pe_bd (S := S) (a := a) (b := b) i v
    show (pe S a b i v + (if bd S a i = v then 1 else 0) - (if bd S b i = v then 1 else 0)).natAbs ≤ i + 1
    by_cases h1 : bd S a i = v
    · rw [if_pos h1]
      by_cases h2 : bd S b i = v
      · rw [if_pos h2]; omega
      · rw [if_neg h2]; omega
    · rw [if_neg h1]
      by_cases h2 : bd S b i = v
      · rw [if_pos h2]; omega
      · rw [if_neg h2]; omega
def bdk (rr : Nat) : Nat := if rr = 1 then 4 else if rr = 2 then 256 else 1
/-- the rows kept by the reference after K blocks -/
def RSY (r : mu_RS) (K rr : Nat) (pv : Nat → Nat) (Rw : Nat → Nat → Int) : Prop := rr + 1 ≤ rs_S r ∧
  (∀ i, i < rr → (1 ≤ pv i ∧ pv i < rs_S r) ∧ Rw i (pv i) ≠ 0 ∧ (∀ q, q < rs_S r → pv i < q → Rw i q = 0) ∧ (∀ j, j < rr → j ≠ i → Rw i (pv j) = 0) ∧ sm (Rw i) (rs_S r) = 0 ∧ gr (Rw i) (rs_S r) = 1 ∧ ∀ q, q < rs_S r → (Rw i q).natAbs ≤ bdk rr) ∧
  ∀ x, WS r K x ↔ ∀ i, i < rr → dt (rs_S r) (Rw i) x = 0
theorem RSY.start (r : mu_RS) (hS : 2 ≤ rs_S r) (pv : Nat → Nat) (Rw : Nat → Nat → Int) : RSY r 0 0 pv Rw := ⟨by omega, fun i hi => absurd hi (Nat.not_lt_zero i), fun x => ⟨fun _ i hi => absurd hi (Nat.not_lt_zero i), fun _ k hk => absurd hk (Nat.not_lt_zero k)⟩⟩
theorem RSY.inj {r : mu_RS} {K rr : Nat} {pv : Nat → Nat} {Rw : Nat → Nat → Int} (h : RSY r K rr pv Rw) {i j : Nat} (hi : i < rr) (hj : j < rr) (e : pv i = pv j) : i = j := by
  by_cases q : i = j
  · exact q
  · have h1 := (h.2.1 i hi).2.1
    have h2 := (h.2.1 i hi).2.2.2.1 j hj (fun e9 => q e9.symm)
    rw [← e] at h2
    exact absurd h2 h1
theorem WS_succ (r : mu_RS) (K : Nat) (x : Nat → Int) : WS r (K + 1) x ↔ WS r K x ∧ dt (rs_S r) (be_e r K) x = 0 := by
  constructor
  · intro h; exact ⟨fun k hk => h k (by omega), h K (by omega)⟩
  · rintro ⟨h1, h2⟩ k hk
    by_cases e : k = K
    · rw [e]; exact h2
    · exact h1 k (by omega)
/-- block K's demand, less what the rows hold already -/
def wk_a (S : Nat) (pv : Nat → Nat) (Rw : Nat → Nat → Int) (e : Nat → Int) : Nat → Nat → Int
  | 0 => e
  | i + 1 => wo S (wk_a S pv Rw e i) (Rw i) (pv i)
def ab (B : Nat) : Nat → Nat
  | 0 => 4
  | i + 1 => 2 * (ab B i * B)
theorem bdk_pos (rr : Nat) : 1 ≤ bdk rr := by
  unfold bdk
  by_cases h : rr = 1
  · rw [if_pos h]; decide
  · rw [if_neg h]
    by_cases h2 : rr = 2
    · rw [if_pos h2]; decide
    · rw [if_neg h2]; decide
theorem ab_le : ∀ rr i, rr ≤ 3 → i ≤ rr → ab (bdk rr) i ≤ 1048576 ∧ 2 * (ab (bdk rr) i * bdk rr) ≤ 4611686018427387904 := by
  intro rr i h1 h2
  rcases (show rr = 0 ∨ rr = 1 ∨ rr = 2 ∨ rr = 3 by omega) with rfl | rfl | rfl | rfl <;> rcases (show i = 0 ∨ i = 1 ∨ i = 2 ∨ i = 3 by omega) with rfl | rfl | rfl | rfl <;> first | decide | omega
theorem wk_a_ok {r : mu_RS} {K rr : Nat} {pv : Nat → Nat} {Rw : Nat → Nat → Int} (h : RSY r K rr pv Rw) {e : Nat → Int} (hs : sm e (rs_S r) = 0) (hb : ∀ q, q < rs_S r → (e q).natAbs ≤ 4) : ∀ i, i ≤ rr → sm (wk_a (rs_S r) pv Rw e i) (rs_S r) = 0 ∧ (∀ q, q < rs_S r → (wk_a (rs_S r) pv Rw e i q).natAbs ≤ ab (bdk rr) i) ∧ (∀ j, j < i → wk_a (rs_S r) pv Rw e i (pv j) = 0) ∧ ∀ x, (∀ j, j < rr → dt (rs_S r) (Rw j) x = 0) → (dt (rs_S r) (wk_a (rs_S r) pv Rw e i) x = 0 ↔ dt (rs_S r) e x = 0)
  | 0, _ => ⟨hs, hb, fun j hj => absurd hj (Nat.not_lt_zero j), fun x _ => Iff.rfl⟩
  | i + 1, hi => by
    obtain ⟨h1, h2, h3, h4⟩ := wk_a_ok h hs hb i (by omega)
    obtain ⟨⟨g0, g1⟩, g2, g3, g4, g5, g6, g7⟩ := h.2.1 i (by omega)
    refine ⟨wo_sum h1 g5, fun q hq => wo_bd g1 (bdk_pos rr) h2 g7 q hq, fun j hj => ?_, fun x hx => (wo_dt g2 (hx i (by omega))).trans (h4 x hx)⟩
    by_cases e9 : j = i
    · rw [e9]; exact wo_c g1
    · exact wo_0 (h.2.1 j (by omega)).1.2 (h3 j (by omega)) (fun _ => g4 j (by omega) e9)
theorem RSY.skip {r : mu_RS} {K rr : Nat} {pv : Nat → Nat} {Rw : Nat → Nat → Int} (h : RSY r K rr pv Rw) {e : Nat → Int} (he : ∀ v, v < rs_S r → e v = be_e r K v) (hs : sm e (rs_S r) = 0) (hb : ∀ q, q < rs_S r → (e q).natAbs ≤ 4) (hz : ∀ q, q < rs_S r → wk_a (rs_S r) pv Rw e rr q = 0) : RSY r (K + 1) rr pv Rw := by
  refine ⟨h.1, h.2.1, fun x => ?_⟩
  rw [WS_succ, h.2.2 x]
  constructor
  · exact fun q => q.1
  · intro q
    refine ⟨q, ?_⟩
    have h4 := (wk_a_ok h hs hb rr (Nat.le_refl _)).2.2.2 x q
    rw [← dt_ext (a := e) he]
    refine h4.mp ?_
    unfold dt
    exact sm_zero (fun v hv => by rw [hz v hv, Int.zero_mul])
theorem row_pm {S p : Nat} {e : Nat → Int} (hp : 1 ≤ p ∧ p < S) (hz : ∀ q, q < S → q ≠ p → q ≠ 0 → e q = 0) (hs : sm e S = 0) (hg : gr e S = 1) (q : Nat) (hq : q < S) : (e q).natAbs ≤ 1 := by
  have h0 : e p + e 0 = 0 := by
    rw [sm_two (f := e) (p := p) (l := 0) (by omega) S (fun v hv e1 e2 => hz v hv e1 e2), if_pos hp.2, if_pos (by omega)] at hs
    exact hs
  have hd : (e p).natAbs ∣ gr e S := by
    have : ∀ n, n ≤ S → (e p).natAbs ∣ gr e n := by
      intro n
      induction n with
      | zero => intro _; exact Nat.dvd_zero _
      | succ n ih =>
        intro hn
        rw [gr]
        refine Nat.dvd_gcd (ih (by omega)) ?_
        by_cases e1 : n = p
        · rw [e1]; exact Nat.dvd_refl _
        · by_cases e2 : n = 0
          · rw [e2, show (e 0).natAbs = (e p).natAbs by omega]; exact Nat.dvd_refl _
          · rw [hz n (by omega) e1 e2]; exact Nat.dvd_zero _
    exact this S (Nat.le_refl _)
  rw [hg] at hd
  have h1 : (e p).natAbs ≤ 1 := Nat.le_of_dvd (by decide) hd
  by_cases e1 : q = p
  · rw [e1]; exact h1
  · by_cases e2 : q = 0
    · rw [e2]; omega
    · rw [hz q hq e1 e2]; decide
theorem RSY.add {r : mu_RS} {K rr : Nat} {pv : Nat → Nat} {Rw : Nat → Nat → Int} (h : RSY r K rr pv Rw) (hS4 : rs_S r ≤ 4) {e : Nat → Int} (he : ∀ v, v < rs_S r → e v = be_e r K v) (hs : sm e (rs_S r) = 0) (hb : ∀ q, q < rs_S r → (e q).natAbs ≤ 4) {c : Nat} (hc : c < rs_S r) (hcn : wk_a (rs_S r) pv Rw e rr c ≠ 0) (hcl : ∀ q, q < rs_S r → c < q → wk_a (rs_S r) pv Rw e rr q = 0) {pv' : Nat → Nat} {Rw' : Nat → Nat → Int} (hp' : ∀ i, i < rr → pv' i = pv i) (hpr : pv' rr = c) (hR' : ∀ i, i < rr → ∀ q, q < rs_S r → Rw' i q = wo (rs_S r) (Rw i) (lt (rs_S r) (wk_a (rs_S r) pv Rw e rr)) c q) (hRr : ∀ q, q < rs_S r → Rw' rr q = lt (rs_S r) (wk_a (rs_S r) pv Rw e rr) q) : RSY r (K + 1) (rr + 1) pv' Rw' ∧ rr ≤ 2 := by
  obtain ⟨a1, a2, a3, a4⟩ := wk_a_ok h hs hb rr (Nat.le_refl _)
  generalize wk_a (rs_S r) pv Rw e rr = A at *
  have hgA : gr A (rs_S r) ≠ 0 := fun q => hcn (gr_zero q c hc)
  -- the new row
  have n0 : lt (rs_S r) A c ≠ 0 := fun q => hcn ((lt_z hc).mp q)
  have n1 : ∀ q, q < rs_S r → c < q → lt (rs_S r) A q = 0 := fun q hq hcq => (lt_z hq).mpr (hcl q hq hcq)
  have n2 : ∀ j, j < rr → lt (rs_S r) A (pv j) = 0 := fun j hj => (lt_z (h.2.1 j hj).1.2).mpr (a3 j hj)
  have n3 := lt_sum a1
  have n4 := lt_gr hgA
  have hc0 : 1 ≤ c := by
    by_cases q : c = 0
    · exfalso
      have : sm A (rs_S r) = A 0 := by
        rw [sm_two (f := A) (p := 0) (l := rs_S r) (by omega) (rs_S r) (fun v hv e1 _ => hcl v hv (by omega)), if_pos (by omega), if_neg (Nat.lt_irrefl _), Int.add_zero]
      rw [q] at hcn
      omega
    · omega
  have hcp : ∀ j, j < rr → pv j ≠ c := fun j hj q => hcn (by rw [← q]; exact a3 j hj)
  have hinj : ∀ x y, x < rr + 1 → y < rr + 1 → pv' x - 1 = pv' y - 1 → x = y := fun x y hx hy q => by
    by_cases ex : x = rr
    · by_cases ey : y = rr
      · omega
      · rw [ex, hpr, hp' y (by omega)] at q
        have := (h.2.1 y (by omega)).1.1
        exact absurd (show pv y = c by omega) (hcp y (by omega))
    · by_cases ey : y = rr
      · rw [ey, hpr, hp' x (by omega)] at q
        have := (h.2.1 x (by omega)).1.1
        exact absurd (show pv x = c by omega) (hcp x (by omega))
      · rw [hp' x (by omega), hp' y (by omega)] at q
        have u1 := (h.2.1 x (by omega)).1.1
        have u2 := (h.2.1 y (by omega)).1.1
        exact h.inj (by omega) (by omega) (by omega)
  have hlt : ∀ j, j < rr + 1 → pv' j - 1 < rs_S r - 1 := fun j hj => by
    by_cases ej : j = rr
    · rw [ej, hpr]; omega
    · rw [hp' j (by omega)]; have := (h.2.1 j (by omega)).1; omega
  have hrr : rr + 1 ≤ rs_S r - 1 := pg_le (f := fun j => pv' j - 1) hlt hinj
  -- the rows that stood
  have old : ∀ i, i < rr → Rw' i (pv i) ≠ 0 ∧ (∀ q, q < rs_S r → pv i < q → Rw' i q = 0) ∧ (∀ j, j < rr → j ≠ i → Rw' i (pv j) = 0) ∧ Rw' i c = 0 ∧ sm (Rw' i) (rs_S r) = 0 ∧ gr (Rw' i) (rs_S r) = 1 := fun i hi => by
    obtain ⟨⟨g0, g1⟩, g2, g3, g4, g5, g6, g7⟩ := h.2.1 i hi
    have hlow : Rw i c ≠ 0 → c < pv i := fun q => by
      by_cases w1 : c < pv i
      · exact w1
      · by_cases w2 : c = pv i
        · exact absurd w2.symm (hcp i hi)
        · exact absurd (g3 c hc (by omega)) q
    refine ⟨?_, fun q hq hpq => ?_, fun j hj hji => ?_, ?_, ?_, ?_⟩
    · rw [hR' i hi _ g1]; exact wo_ne g1 g2 (n2 i hi) n0
    · rw [hR' i hi _ hq]; exact wo_0 hq (g3 q hq hpq) (fun w => n1 q hq (by have := hlow w; omega))
    · rw [hR' i hi _ (h.2.1 j hj).1.2]; exact wo_0 (h.2.1 j hj).1.2 (g4 j hj hji) (fun _ => n2 j hj)
    · rw [hR' i hi _ hc]; exact wo_c hc
    · rw [sm_ext (hR' i hi)]; exact wo_sum g5 n3
    · rw [gr_ext (hR' i hi)]; exact wo_gr g6 g1 g2 (n2 i hi) n0
  have new : Rw' rr c ≠ 0 ∧ (∀ q, q < rs_S r → c < q → Rw' rr q = 0) ∧ (∀ j, j < rr → Rw' rr (pv j) = 0) ∧ sm (Rw' rr) (rs_S r) = 0 ∧ gr (Rw' rr) (rs_S r) = 1 := by
    refine ⟨?_, fun q hq hcq => ?_, fun j hj => ?_, ?_, ?_⟩
    · rw [hRr c hc]; exact n0
    · rw [hRr q hq]; exact n1 q hq hcq
    · rw [hRr _ (h.2.1 j hj).1.2]; exact n2 j hj
    · rw [sm_ext hRr]; exact n3
    · rw [gr_ext hRr]; exact n4
  have hbd : ∀ i, i < rr + 1 → ∀ q, q < rs_S r → (Rw' i q).natAbs ≤ bdk (rr + 1) := fun i hi q hq => by
    rcases (show rr = 0 ∨ rr = 1 ∨ rr = 2 by omega) with e0 | e0 | e0
    · subst e0
      rw [show i = 0 by omega, hRr q hq]
      exact Nat.le_trans (lt_le hq) (a2 q hq)
    · subst e0
      by_cases ei : i = 1
      · rw [ei, hRr q hq]
        exact Nat.le_trans (lt_le hq) (Nat.le_trans (a2 q hq) (by decide))
      · rw [hR' i (by omega) q hq]
        exact Nat.le_trans (wo_bd hc (B := 32) (by decide) (h.2.1 i (by omega)).2.2.2.2.2.2 (fun q9 h9 => Nat.le_trans (lt_le h9) (a2 q9 h9)) q hq) (by decide)
    · -- three rows: all states but 0 are held
      subst e0
      have hS : rs_S r = 4 := by omega
      have hall : ∀ q, q < rs_S r → q ≠ 0 → ∃ j, j < 3 ∧ pv' j = q := fun q hq hq0 => by
        obtain ⟨j, hj, ej⟩ := pg_surj 3 (fun j => pv' j - 1) (fun j hj => by have := hlt j hj; show pv' j - 1 < 3; omega) (fun x y hx hy => hinj x y hx hy) (q - 1) (by omega)
        refine ⟨j, hj, ?_⟩
        have : 1 ≤ pv' j := by
          by_cases ej2 : j = 2
          · rw [ej2, hpr]; exact hc0
          · rw [hp' j (by omega)]; exact (h.2.1 j (by omega)).1.1
        replace ej : pv' j - 1 = q - 1 := ej
        omega
      show (Rw' i q).natAbs ≤ 1
      by_cases ei : i = 2
      · subst ei
        refine row_pm (p := c) ⟨hc0, hc⟩ (fun q9 h9 e1 e2 => ?_) new.2.2.2.1 new.2.2.2.2 q hq
        obtain ⟨j, hj, ej⟩ := hall q9 h9 e2
        have hj2 : j ≠ 2 := fun w => e1 (by rw [← ej, w, hpr])
        rw [hp' j (by omega)] at ej
        rw [← ej]; exact new.2.2.1 j (by omega)
      · refine row_pm (p := pv i) (h.2.1 i (by omega)).1 (fun q9 h9 e1 e2 => ?_) (old i (by omega)).2.2.2.2.1 (old i (by omega)).2.2.2.2.2 q hq
        obtain ⟨j, hj, ej⟩ := hall q9 h9 e2
        by_cases hj2 : j = 2
        · rw [← ej, hj2, hpr]; exact (old i (by omega)).2.2.2.1
        · rw [hp' j (by omega)] at ej
          rw [← ej]; exact (old i (by omega)).2.2.1 j (by omega) (fun w => e1 (by rw [← ej, w]))
  refine ⟨⟨by omega, fun i hi => ?_, fun x => ?_⟩, by omega⟩
  · by_cases ei : i = rr
    · subst ei
      rw [hpr]
      refine ⟨⟨hc0, hc⟩, new.1, new.2.1, fun j hj hji => ?_, new.2.2.2.1, new.2.2.2.2, hbd i hi⟩
      rw [hp' j (by omega)]; exact new.2.2.1 j (by omega)
    · have o := old i (by omega)
      rw [hp' i (by omega)]
      refine ⟨(h.2.1 i (by omega)).1, o.1, o.2.1, fun j hj hji => ?_, o.2.2.2.2.1, o.2.2.2.2.2, hbd i hi⟩
      by_cases ej : j = rr
      · rw [ej, hpr]; exact o.2.2.2.1
      · rw [hp' j (by omega)]; exact o.2.2.1 j (by omega) hji
  · rw [WS_succ, h.2.2 x]
    constructor
    · rintro ⟨q1, q2⟩ i hi
      have q3 : dt (rs_S r) A x = 0 := (a4 x q1).mpr (by rw [dt_ext he]; exact q2)
      have q4 : dt (rs_S r) (lt (rs_S r) A) x = 0 := lt_dt.mpr q3
      by_cases ei : i = rr
      · rw [ei, dt_ext hRr]; exact q4
      · rw [dt_ext (hR' i (by omega))]; exact (wo_dt n0 q4).mpr (q1 i (by omega))
    · intro q
      have q4 : dt (rs_S r) (lt (rs_S r) A) x = 0 := by rw [← dt_ext hRr]; exact q rr (by omega)
      have q1 : ∀ i, i < rr → dt (rs_S r) (Rw i) x = 0 := fun i hi => (wo_dt n0 q4).mp (by rw [← dt_ext (hR' i hi)]; exact q i (by omega))
      exact ⟨q1, by rw [← dt_ext he]; exact (a4 x q1).mp (lt_dt.mp q4)⟩
