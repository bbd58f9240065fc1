/-! ===== lists of the JDK: what lies in the heap ===== -/
theorem kne_ci {h : kAH} {a b c1 c2 : Nat} {f1 f2 : List Value} (hb : h b = some (.inr (c1, f1))) (ha : h a = some (.inr (c2, f2))) (hc : c1 ≠ c2) : b ≠ a := by
  intro e
  subst e
  rw [ha] at hb
  cases hb
  exact hc rfl
theorem kne_new {h : kAH} {b q : Nat} {e : va_E} (hb : h b = some e) (hq : h q = none) : b ≠ q := by
  intro c
  subst c
  rw [hq] at hb
  cases hb
def kLs (G : kG) (h : kAH) (a ar c : Nat) (xs : List Nat) : Prop := (∃ mc : Int, h a = some (.inr (3, [.int (iI mc), .ref ar, .int (iI (xs.length : Int))]))) ∧
  ((ar = G.2.2.2 ∧ xs = [] ∧ c = 0) ∨ (1 ≤ c ∧ c ≤ 200 ∧ ∃ F : Nat → Option Nat, h ar = some (kro G 3 c F) ∧ xs.length ≤ c ∧ ∀ i : Nat, i < xs.length → F i = xs[i]?))
section KL
variable {l : Launch} {G : kG} {y : kMR} {d : Nat} {Φ : Option Value → kAH → Prop} {Ψ : String → kAH → Prop} {k n pc pc1 : Nat} {L : List (Option Value)} {st rest : List Value} {h : kAH}
theorem k_ned {a : Nat} {e : va_E} (ha : h a = some e) (kk : a ≠ G.2.2.2 → kW l G y d Φ Ψ k n pc L st h) : kW l G y d Φ Ψ k n pc L st h := by
  intro p e R s m args below meth c H locs cells slots ls F h1 h2 h3 h4 h5
  obtain ⟨hx, hb, hml, hr9, hlocks, hnm, hown, htab, hts, hE, -⟩ := id F
  refine kk (fun z => ?_) p e R s m args below meth c H locs cells slots ls F h1 h2 h3 h4 h5
  obtain ⟨cell, g1, g2, g3, g4, g5, g6, g7⟩ := hE.2.2.2.2.1
  subst z
  exact g7 (h3 _ _ ha).1
theorem k_ged (kk : h G.2.2.2 = none → kW l G y d Φ Ψ k n pc L st h) : kW l G y d Φ Ψ k n pc L st h := by
  intro p e R s m args below meth c H locs cells slots ls F h1 h2 h3 h4 h5
  obtain ⟨hx, hb, hml, hr9, hlocks, hnm, hown, htab, hts, hE, -⟩ := id F
  refine kk ?_ p e R s m args below meth c H locs cells slots ls F h1 h2 h3 h4 h5
  obtain ⟨cell, g1, g2, g3, g4, g5, g6, g7⟩ := hE.2.2.2.2.1
  cases z : h G.2.2.2 with
  | none => rfl
  | some e9 => exact absurd (h3 _ _ z).1 g7
end KL
theorem kne_or {h : kAH} {a b : Nat} {x : Nat × List Value} {z : ClassId × vp_A} (hb : h b = some (.inr x)) (ha : h a = some (.inl z)) : b ≠ a := by
  intro e
  subst e
  rw [ha] at hb
  cases hb
theorem kne_ro {h : kAH} {a b : Nat} {x : Nat × List Value} {z : ClassId × vp_A} (hb : h b = some (.inl z)) (ha : h a = some (.inr x)) : b ≠ a := Ne.symm (kne_or ha hb)
theorem knar_rf {C : String} (r : Option Nat) : narrow (.object C) (va_rf r) = va_rf r := by
  cases r <;> rfl
theorem kfit_rf {C : String} (r : Option Nat) : fits (.object C) (va_rf r) = true := by
  cases r <;> rfl
