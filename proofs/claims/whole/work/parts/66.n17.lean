/-! ===== the text of a field: what is seen of it ===== -/
theorem ftw_append (i : Int) : ∀ (l l' : List Int32) (p : Nat) (x : Int32), ftw i p x (l ++ l') = ftw i (p + l.length) (ftw i p x l) l'
  | [], _, _, _ => rfl
  | z :: l, l', p, x => by
    rw [List.cons_append, ftw, ftw, ftw_append i l l' (p + 1), List.length_cons, show p + 1 + l.length = p + (l.length + 1) by omega]
theorem ftw_out (i : Int) : ∀ (l : List Int32) (p : Nat) (x : Int32), (i < p ∨ (p : Int) + l.length ≤ i) → ftw i p x l = x
  | [], _, _, _ => rfl
  | z :: l, p, x, h => by
    rw [List.length_cons] at h
    rw [ftw, if_neg (by omega)]
    exact ftw_out i l (p + 1) x (by omega)
theorem ftw_in : ∀ (l : List Int32) (p k : Nat) (x : Int32), k < l.length → ftw ((p + k : Nat) : Int) p x l = l.getD k 0
  | [], _, _, _, h => absurd h (Nat.not_lt_zero _)
  | z :: l, p, 0, x, _ => by
    rw [ftw, if_pos (by omega), ftw_out _ l (p + 1) z (by omega)]; rfl
  | z :: l, p, k + 1, x, h => by
    rw [List.length_cons] at h
    rw [ftw, show p + (k + 1) = p + 1 + k by omega, ftw_in l (p + 1) k _ (by omega)]; rfl
theorem rnI_map {t c : Nat} (ht : t < 1000) : rnI t (mI (c : Int)) = (runB t c).map (fun n : Nat => mI (n : Int)) := by
  have e1 : 48 + (t : Int) / 100 % 10 = ((48 + t / 100 : Nat) : Int) := by omega
  have e2 : 48 + (t : Int) / 10 % 10 = ((48 + t / 10 % 10 : Nat) : Int) := by omega
  have e3 : 48 + (t : Int) % 10 = ((48 + t % 10 : Nat) : Int) := by omega
  unfold rnI runB
  rw [e1, e2, e3]
  by_cases h1 : 99 < t
  · rw [if_pos (show 100 ≤ t by omega), if_pos h1, if_pos (show 10 ≤ t by omega), if_pos (show 9 < t by omega), if_pos (show 2 ≤ t by omega), if_pos (show 1 < t by omega)]; rfl
  · rw [if_neg (show ¬ 100 ≤ t by omega), if_neg h1]
    by_cases h2 : 9 < t
    · rw [if_pos (show 10 ≤ t by omega), if_pos h2, if_pos (show 2 ≤ t by omega), if_pos (show 1 < t by omega)]; rfl
    · rw [if_neg (show ¬ 10 ≤ t by omega), if_neg h2]
      by_cases h3 : 1 < t
      · rw [if_pos (show 2 ≤ t by omega), if_pos h3]; rfl
      · rw [if_neg (show ¬ 2 ≤ t by omega), if_neg h3]; rfl
