/-! ===== shares: no division here gives a NaN ===== -/
theorem fp_dd : ∀ s : Fin 49, ∀ n : Fin 8, vf_n64 (FP.ddiv (FP.i2d (iI ((s : Nat) : Int))) (FP.i2d (iI (((n : Nat) : Int) + 1)))) := by
  have h : ∀ s : Fin 49, ∀ n : Fin 8, FP.ddiv (FP.i2d (iI ((s : Nat) : Int))) (FP.i2d (iI (((n : Nat) : Int) + 1))) &&& 0x7fffffffffffffff ≤ 0x7ff0000000000000 := by decide +kernel
  exact h
theorem fp_ff : ∀ n : Fin 48, ∀ s : Fin 49, vf_n32 (FP.fdiv (FP.i2f (iI ((s : Nat) : Int))) (FP.i2f (iI (((n : Nat) : Int) + 1)))) := by
  have h : ∀ n : Fin 48, ∀ s : Fin 49, FP.fdiv (FP.i2f (iI ((s : Nat) : Int))) (FP.i2f (iI (((n : Nat) : Int) + 1))) &&& 0x7fffffff ≤ 0x7f800000 := by decide +kernel
  exact h
theorem fp_d {s n : Int} (h1 : 0 ≤ s ∧ s ≤ 48) (h2 : 1 ≤ n ∧ n ≤ 8) : vf_n64 (FP.ddiv (FP.i2d (iI s)) (FP.i2d (iI n))) := by
  obtain ⟨a, rfl⟩ := Int.eq_ofNat_of_zero_le h1.1
  obtain ⟨b, hb⟩ := Int.eq_ofNat_of_zero_le (show 0 ≤ n - 1 by omega)
  have e : n = (b : Int) + 1 := by omega
  subst e
  exact fp_dd ⟨a, by omega⟩ ⟨b, by omega⟩
theorem fp_f {s n : Int} (h1 : 0 ≤ s ∧ s ≤ 48) (h2 : 1 ≤ n ∧ n ≤ 48) : vf_n32 (FP.fdiv (FP.i2f (iI s)) (FP.i2f (iI n))) := by
  obtain ⟨a, rfl⟩ := Int.eq_ofNat_of_zero_le h1.1
  obtain ⟨b, hb⟩ := Int.eq_ofNat_of_zero_le (show 0 ≤ n - 1 by omega)
  have e : n = (b : Int) + 1 := by omega
  subst e
  exact fp_ff ⟨b, by omega⟩ ⟨a, by omega⟩
