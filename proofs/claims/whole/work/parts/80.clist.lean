/-! ===== the class: a day's list changed, the rest kept ===== -/
section KLJ
variable {G : kG} {h h' : kAH} {pl : Nat} {γ : kGh} {A : kAb}
theorem kLt_lx {ow : Nat → Nat × Nat} {a ar ar' a2 : Nat} {ta t' t t2 : Nat × Nat} {xs : List Nat} (hfr : ∀ b : Nat, b ≠ a → b ≠ ar → h b ≠ none → h' b = h b) (hta : ow a = ta) (har : ow ar = t' ∨ h ar = none) (hne : ar' = ar ∨ h ar' = none) (h1 : t ≠ ta) (h2 : t ≠ t') (h3 : t2 ≠ ta) (h4 : t2 ≠ t') (z : kLt G h ow a2 xs t t2) : kLt G h' (kOw ow h' ar' t') a2 xs t t2 := by
  obtain ⟨z1, r, c, ⟨⟨mc, y1⟩, y2⟩, z3⟩ := z
  obtain ⟨u1, u2⟩ := lx_at hfr hta har hne h1 h2 y1 z1
  refine ⟨u2, r, c, ⟨⟨mc, u1⟩, ?_⟩, ?_⟩
  · rcases y2 with y2 | ⟨g1, g2, F, g3, g4⟩
    · exact Or.inl y2
    · rcases z3 with ⟨-, -, z3⟩ | z3
      · omega
      · exact Or.inr ⟨g1, g2, F, (lx_at hfr hta har hne h3 h4 g3 z3).1, g4⟩
  · rcases y2 with y2 | ⟨g1, g2, F, g3, g4⟩
    · exact Or.inl y2
    · rcases z3 with ⟨-, -, z3⟩ | z3
      · omega
      · exact Or.inr (lx_at hfr hta har hne h3 h4 g3 z3).2
theorem kLt_own {ow : Nat → Nat × Nat} {a ar' c' : Nat} {t t' : Nat × Nat} {xs : List Nat} (hta : ow a = t) (haa : a ≠ ar') (hed : h' G.2.2.2 = none) (hS : kLs G h' a ar' c' xs) : kLt G h' (kOw ow h' ar' t') a xs t t' := by
  obtain ⟨⟨mc, y1⟩, y2⟩ := id hS
  refine ⟨(kOw_of y1 haa).trans hta, ar', c', hS, ?_⟩
  rcases y2 with y2 | ⟨g1, g2, F, g3, g4⟩
  · exact Or.inl y2
  · exact Or.inr (kOw_at g3)
theorem ra_X {k : Int} (k0 : 0 ≤ k) (k1 : k < 28) {xs' : List (Int × Int)} {ar c : Nat} (z : kRA G h pl γ A) (hS : kLs G h (gDl γ k) ar c ((aDx A k).map fun q => gDt γ q.1 q.2)) (har : gOw γ ar = (3, k.toNat) ∨ h ar = none) (hed : h' G.2.2.2 = none) (hx : kLx G h (gDl γ k) ar (xs'.map fun q => gDt γ q.1 q.2) h') :
    ∃ ow' : Nat → Nat × Nat, kRA G h' pl (ow', γ.2) (A.1, A.2.1, A.2.2.1, A.2.2.2.1, A.2.2.2.2.1, A.2.2.2.2.2.1, A.2.2.2.2.2.2.1, A.2.2.2.2.2.2.2.1, A.2.2.2.2.2.2.2.2.1, A.2.2.2.2.2.2.2.2.2.1, (fun i => if i = k then xs' else aDx A i), A.2.2.2.2.2.2.2.2.2.2.2) ∧ ∀ (b : Nat) (e : va_E), h b = some e → gOw γ b = (0, 0) → h' b = some e ∧ ow' b = (0, 0) := by
  obtain ⟨ar', c', hS', hne, hfr⟩ := hx
  obtain ⟨⟨a1, a2⟩, ⟨⟨F, b1, b2⟩, b3⟩, c1, ⟨⟨F2, e1, e2⟩, e3⟩, f1, g1, i1, j1, l1⟩ := z
  have hta : gOw γ (gDl γ k) = (2, k.toNat) := (f1 k k0 k1).2.1
  have haa : gDl γ k ≠ ar' := fun e => by
    obtain ⟨⟨mc, y1⟩, -⟩ := hS
    rcases hne with y | y
    · rcases har with w | w
      · rw [← y, ← e, hta] at w; cases w
      · rw [← y, ← e, y1] at w; cases w
    · rw [← e, y1] at y; cases y
  have L : ∀ {b : Nat} {t : Nat × Nat} {e : va_E}, t ≠ (2, k.toNat) → t ≠ (3, k.toNat) → h b = some e → gOw γ b = t → h' b = some e ∧ kOw (gOw γ) h' ar' (3, k.toNat) b = t := fun h1 h2 h3 h4 => lx_at hfr hta har hne h1 h2 h3 h4
  refine ⟨kOw (gOw γ) h' ar' (3, k.toNat), ⟨L (by simp) (by simp) a1 a2, ?_, fun r r0 r1 => L (by simp) (by simp) (c1 r r0 r1).1 (c1 r r0 r1).2, ?_, fun i i0 i9 => ?_, kLt_lx hfr hta har hne (by simp) (by simp) (by simp) (by simp) g1, fun n hn => ?_, fun n d hn n0 n1 n2 => ?_, fun b hb => kOw_no hb⟩, fun b e w1 w2 => L (by simp) (by simp) w1 w2⟩
  · obtain ⟨u1, u2⟩ := L (by simp) (by simp) b1 b3
    exact ⟨⟨F, u1, b2⟩, u2⟩
  · obtain ⟨u1, u2⟩ := L (by simp) (by simp) e1 e3
    exact ⟨⟨F2, u1, e2⟩, u2⟩
  · obtain ⟨⟨u1, u2⟩, u3⟩ := f1 i i0 i9
    refine ⟨L (by simp) (by simp) u1 u2, ?_⟩
    by_cases ci : i = k
    · subst ci
      have y := kLt_own (t' := (3, i.toNat)) hta haa hed hS'
      show kLt G h' _ (gDl γ i) (((if i = i then xs' else aDx A i)).map fun q => gDt γ q.1 q.2) _ _
      rw [if_pos rfl]
      exact y
    · have hni : i.toNat ≠ k.toNat := by omega
      show kLt G h' _ (gDl γ i) (((if i = k then xs' else aDx A i)).map fun q => gDt γ q.1 q.2) _ _
      rw [if_neg ci]
      exact kLt_lx hfr hta har hne (by simp [hni]) (by simp) (by simp) (by simp [hni]) u3
  · obtain ⟨u0, ⟨u1, u2⟩, u3⟩ := i1 n hn
    exact ⟨u0, L (by simp) (by simp) u1 u2, kLt_lx hfr hta har hne (by simp) (by simp) (by simp) (by simp) u3⟩
  · obtain ⟨⟨u1, u2⟩, u3, u4⟩ := j1 n d hn n0 n1 n2
    exact ⟨L (by simp) (by simp) u1 u2, L (by simp) (by simp) u3 u4⟩
end KLJ
