/-! ===== the law: shares compared ===== -/
theorem fp_f2q : ∀ n : Fin 48, ∀ s : Fin 49, (FP.f2d (FP.fdiv (FP.i2f (iI ((s : Nat) : Int))) (FP.i2f (iI (((n : Nat) : Int) + 1)))) &&& 0x7fffffffffffffff ≤ 0x7ff0000000000000) ∧ FP.dcmp (FP.f2d (FP.fdiv (FP.i2f (iI ((s : Nat) : Int))) (FP.i2f (iI (((n : Nat) : Int) + 1))))) (FP.f2d (FP.fdiv (FP.i2f (iI ((s : Nat) : Int))) (FP.i2f (iI (((n : Nat) : Int) + 1))))) = some .eq := by decide +kernel
theorem fp_dq : ∀ s : Fin 49, ∀ n : Fin 8, FP.dcmp (FP.ddiv (FP.i2d (iI ((s : Nat) : Int))) (FP.i2d (iI (((n : Nat) : Int) + 1)))) (FP.ddiv (FP.i2d (iI ((s : Nat) : Int))) (FP.i2d (iI (((n : Nat) : Int) + 1)))) = some .eq := by decide +kernel
theorem fp_d2 {s n : Int} (h1 : 0 ≤ s ∧ s ≤ 48) (h2 : 1 ≤ n ∧ n ≤ 8) : FP.dcmp (FP.ddiv (FP.i2d (iI s)) (FP.i2d (iI n))) (FP.ddiv (FP.i2d (iI s)) (FP.i2d (iI n))) = some .eq := by
  obtain ⟨a, rfl⟩ := Int.eq_ofNat_of_zero_le h1.1
  obtain ⟨b, hb⟩ := Int.eq_ofNat_of_zero_le (show 0 ≤ n - 1 by omega)
  have e : n = (b : Int) + 1 := by omega
  subst e
  exact fp_dq ⟨a, by omega⟩ ⟨b, by omega⟩
theorem fp_f2 {s n : Int} (h1 : 0 ≤ s ∧ s ≤ 48) (h2 : 1 ≤ n ∧ n ≤ 48) : vf_n64 (FP.f2d (FP.fdiv (FP.i2f (iI s)) (FP.i2f (iI n)))) ∧ FP.dcmp (FP.f2d (FP.fdiv (FP.i2f (iI s)) (FP.i2f (iI n)))) (FP.f2d (FP.fdiv (FP.i2f (iI s)) (FP.i2f (iI n)))) = some .eq := by
  obtain ⟨a, rfl⟩ := Int.eq_ofNat_of_zero_le h1.1
  obtain ⟨b, hb⟩ := Int.eq_ofNat_of_zero_le (show 0 ≤ n - 1 by omega)
  have e : n = (b : Int) + 1 := by omega
  subst e
  exact fp_f2q ⟨b, by omega⟩ ⟨a, by omega⟩
