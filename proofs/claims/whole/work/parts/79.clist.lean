/-! ===== the class: a day's list changed ===== -/
section KLI
variable {G : kG} {h h' : kAH} {pl : Nat} {γ : kGh} {A : kAb}
-- tags after a list has a new row
noncomputable def kOw (ow : Nat → Nat × Nat) (h' : kAH) (ar' : Nat) (t' : Nat × Nat) : Nat → Nat × Nat := fun b => kI (h' b = none) (0, 0) (kI (b = ar') t' (ow b))
theorem kOw_of {ow : Nat → Nat × Nat} {ar' b : Nat} {t' : Nat × Nat} {e : va_E} (hb : h' b = some e) (hne : b ≠ ar') : kOw ow h' ar' t' b = ow b := by
  unfold kOw
  rw [kI_f (by rw [hb]; exact fun z => by cases z), kI_f hne]
theorem kOw_at {ow : Nat → Nat × Nat} {ar' : Nat} {t' : Nat × Nat} {e : va_E} (hb : h' ar' = some e) : kOw ow h' ar' t' ar' = t' := by
  unfold kOw
  rw [kI_f (by rw [hb]; exact fun z => by cases z), kI_t rfl]
theorem kOw_no {ow : Nat → Nat × Nat} {ar' b : Nat} {t' : Nat × Nat} (hb : h' b = none) : kOw ow h' ar' t' b = (0, 0) := kI_t hb
-- a fact beside the list: its address keeps its cell and its tag
theorem lx_at {ow : Nat → Nat × Nat} {a ar ar' b : Nat} {ta t' t : Nat × Nat} {e : va_E} (hfr : ∀ b : Nat, b ≠ a → b ≠ ar → h b ≠ none → h' b = h b) (hta : ow a = ta) (har : ow ar = t' ∨ h ar = none) (hne : ar' = ar ∨ h ar' = none) (h1 : t ≠ ta) (h2 : t ≠ t') (hb : h b = some e) (ht : ow b = t) : h' b = some e ∧ kOw ow h' ar' t' b = t := by
  have hba : b ≠ a := fun c => h1 (by rw [← ht, c, hta])
  have hbr : b ≠ ar := fun c => by
    rcases har with z | z
    · exact h2 (by rw [← ht, c, z])
    · rw [c, z] at hb; cases hb
  have hbr' : b ≠ ar' := fun c => by
    rcases hne with z | z
    · exact hbr (c.trans z)
    · rw [c, z] at hb; cases hb
  have hc : h' b = some e := (hfr b hba hbr (by rw [hb]; exact fun z => by cases z)).trans hb
  exact ⟨hc, (kOw_of hc hbr').trans ht⟩
end KLI
