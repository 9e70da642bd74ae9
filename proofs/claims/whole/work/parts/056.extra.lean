/-! ===== Math of ints and longs, the library's array copy ===== -/
def mu_ml (own : String) (idx : Nat) (y : MethodName) (cd : ByteArray) (n : Nat) (rt : Option FieldType) : Prop := Cond.methodLink own idx y ∈ lw_gd ∧ Cond.static y ∈ lw_gd ∧ Cond.initialized "java/lang/Math" ∈ lw_gd ∧ Cond.code y cd n rt ∈ lw_gd
theorem mu_ne {z : Int} (h1 : 0 < z) (h2 : z < 2147483648) : ¬ mI z = 0 := fun h => by
  have h3 : mI z = mI 0 := h
  rw [mI_eq ⟨by omega, by omega⟩ ⟨by omega, by omega⟩] at h3
  omega
section MUE
variable {X : mu_X} {G : mu_G} {cc : ByteArray} {own : String} {nL : Nat} {R : Room} {Qf : State → Prop} {w : mu_W} {kc ks pc idx : Nat} {lv st rest : List Value}
theorem mu_mmax (B : mu_B X G cc own nL R) (hdg : decode cc pc = .ok (.invokestatic idx, 3)) (h : mu_ml own idx Lib.Math.max.name Lib.Math.max.code 2 (some .int)) (hR : 1 ≤ R.frames ∧ 24 ≤ R.locals) (hst : (rest.map fun v => v.category).sum ≤ 8) (hz : kc ≤ R.cells ∧ ks ≤ R.slots) {x y : Int32} (k : mu_WA X G nL Qf w kc ks (pc + 3) lv (.int (if x < y then y else x) :: rest)) : mu_WA X G nL Qf w kc ks pc lv (.int y :: .int x :: rest) := fun H locs ls hH hS hl => by
  have hts := B.2.2.2.2.1
  have hRR := B.2.2.2.2.2.2
  exact va_mmax B.1 B.2.1 (B.2.2.1.trans hl.1.symm) B.2.2.2.1 (hts _ h.1) (hts _ h.2.1) (hts _ h.2.2.1) (hts _ h.2.2.2) (by rw [hRR]; exact hR.1) (by rw [hRR]; have := hR.2; omega) (by rw [hRR]; exact hz.1) (by rw [hRR]; exact hz.2) hdg (k H locs ls hH hS hl)
theorem mu_mmin (B : mu_B X G cc own nL R) (hdg : decode cc pc = .ok (.invokestatic idx, 3)) (h : mu_ml own idx Lib.Math.min.name Lib.Math.min.code 2 (some .int)) (hR : 1 ≤ R.frames ∧ 24 ≤ R.locals) (hst : (rest.map fun v => v.category).sum ≤ 8) (hz : kc ≤ R.cells ∧ ks ≤ R.slots) {x y : Int32} (k : mu_WA X G nL Qf w kc ks (pc + 3) lv (.int (if y < x then y else x) :: rest)) : mu_WA X G nL Qf w kc ks pc lv (.int y :: .int x :: rest) := fun H locs ls hH hS hl => by
  have hts := B.2.2.2.2.1
  have hRR := B.2.2.2.2.2.2
  exact va_mmin B.1 B.2.1 (B.2.2.1.trans hl.1.symm) B.2.2.2.1 (hts _ h.1) (hts _ h.2.1) (hts _ h.2.2.1) (hts _ h.2.2.2) (by rw [hRR]; exact hR.1) (by rw [hRR]; have := hR.2; omega) (by rw [hRR]; exact hz.1) (by rw [hRR]; exact hz.2) hdg (k H locs ls hH hS hl)
theorem mu_mabsl (B : mu_B X G cc own nL R) (hdg : decode cc pc = .ok (.invokestatic idx, 3)) (h : mu_ml own idx Lib.MathLoose.abs_long.x Lib.MathLoose.abs_long.code 2 (some .long)) (hR : 1 ≤ R.frames ∧ 24 ≤ R.locals) (hst : (rest.map fun v => v.category).sum ≤ 8) (hz : kc ≤ R.cells ∧ ks ≤ R.slots) {x : Int64} (k : mu_WA X G nL Qf w kc ks (pc + 3) lv (.long (if 0 < x then x else -x) :: rest)) : mu_WA X G nL Qf w kc ks pc lv (.long x :: rest) := fun H locs ls hH hS hl => by
  have hts := B.2.2.2.2.1
  have hRR := B.2.2.2.2.2.2
  exact va_mabs_long B.1 B.2.1 (B.2.2.1.trans hl.1.symm) B.2.2.2.1 (hts _ h.1) (hts _ h.2.1) (hts _ h.2.2.1) (hts _ h.2.2.2) (by rw [hRR]; exact hR.1) (by rw [hRR]; have := hR.2; omega) (by rw [hRR]; exact hz.1) (by rw [hRR]; exact hz.2) hdg (k H locs ls hH hS hl)
end MUE
