/-! ===== the class's objects under changes ===== -/
def kFt (ow : Nat → Nat × Nat) (T : Nat × Nat → Prop) (h h' : kAH) : Prop := ∀ b : Nat, ¬ T (ow b) → h' b = h b
theorem ft_at {ow : Nat → Nat × Nat} {T : Nat × Nat → Prop} {h h' : kAH} (hf : kFt ow T h h') {b : Nat} {t : Nat × Nat} {e : va_E} (ht : ow b = t) (hT : ¬ T t) (z : h b = some e) : h' b = some e := by
  rw [hf b (by rw [ht]; exact hT)]; exact z
theorem kLt_ft {G : kG} {ow : Nat → Nat × Nat} {T : Nat × Nat → Prop} {h h' : kAH} (hf : kFt ow T h h') {a : Nat} {xs : List Nat} {t t' : Nat × Nat} (h1 : ¬ T t) (h2 : ¬ T t') (z : kLt G h ow a xs t t') : kLt G h' ow a xs t t' := by
  obtain ⟨z1, ar, c, ⟨⟨mc, y1⟩, y2⟩, z3⟩ := z
  refine ⟨z1, ar, c, ⟨⟨mc, ft_at hf z1 h1 y1⟩, ?_⟩, z3⟩
  rcases y2 with y2 | ⟨g1, g2, F, g3, g4⟩
  · exact Or.inl y2
  · rcases z3 with ⟨-, -, z3⟩ | z3
    · omega
    · exact Or.inr ⟨g1, g2, F, ft_at hf z3 h2 g3, g4⟩
section KCH
variable {G : kG} {h h' : kAH} {pl : Nat} {γ : kGh} {A : kAb}
-- the planner's own fields
theorem ra_P {sc : Nat → Int} (z : kRA G h pl γ A) (hf : ∀ b, b ≠ pl → h' b = h b) (hp : h' pl = some (kPc γ (sc, A.2))) : kRA G h' pl γ (sc, A.2) := by
  obtain ⟨⟨a1, a2⟩, ⟨⟨F, b1, b2⟩, b3⟩, c1, ⟨⟨F2, d1, d2⟩, d3⟩, e1, f1, g1, i1, j1⟩ := z
  have hft : kFt (gOw γ) (fun t => t = (10, 0)) h h' := fun b hb => hf b (fun e => hb (by rw [e]; exact a2))
  refine ⟨⟨hp, a2⟩, ⟨⟨F, ft_at hft b3 (by simp) b1, b2⟩, b3⟩, fun r h0 h1 => ⟨ft_at hft (c1 r h0 h1).2 (by simp) (c1 r h0 h1).1, (c1 r h0 h1).2⟩, ⟨⟨F2, ft_at hft d3 (by simp) d1, d2⟩, d3⟩, fun k h0 h1 => ?_, kLt_ft hft (by simp) (by simp) f1, fun n hn => ?_, fun n d hn h0 h1 h2 => ?_, fun b hb => j1 b ?_⟩
  · obtain ⟨⟨u1, u2⟩, u3⟩ := e1 k h0 h1
    exact ⟨⟨ft_at hft u2 (by simp) u1, u2⟩, kLt_ft hft (by simp) (by simp) u3⟩
  · obtain ⟨u0, ⟨u1, u2⟩, u3⟩ := g1 n hn
    exact ⟨u0, ⟨ft_at hft u2 (by simp) u1, u2⟩, kLt_ft hft (by simp) (by simp) u3⟩
  · obtain ⟨⟨u1, u2⟩, u3, u4⟩ := i1 n d hn h0 h1 h2
    exact ⟨⟨ft_at hft u2 (by simp) u1, u2⟩, ft_at hft u4 (by simp) u3, u4⟩
  · rw [← hf b (fun e => by rw [e, hp] at hb; cases hb)]; exact hb
-- a room's fields
theorem ra_R {r : Int} {s x : Int} (h0 : 0 ≤ r) (h1 : r < 4) (z : kRA G h pl γ A) (hf : ∀ b, b ≠ gRm γ r → h' b = h b) (hp : h' (gRm γ r) = some (.inr (7, [.int (iI r), .int (iI s), .int (iI x)]))) :
    kRA G h' pl γ (A.1, (fun i => if i = r then s else aSe A i), (fun i => if i = r then x else aHo A i), A.2.2.2) := by
  obtain ⟨⟨a1, a2⟩, ⟨⟨F, b1, b2⟩, b3⟩, c1, ⟨⟨F2, d1, d2⟩, d3⟩, e1, f1, g1, i1, j1⟩ := z
  have hr := (c1 r h0 h1).2
  have hft : kFt (gOw γ) (fun t => t = (9, r.toNat)) h h' := fun b hb => hf b (fun e => hb (by rw [e]; exact hr))
  refine ⟨⟨ft_at hft a2 (by simp) a1, a2⟩, ⟨⟨F, ft_at hft b3 (by simp) b1, b2⟩, b3⟩, fun i i0 i1 => ⟨?_, (c1 i i0 i1).2⟩, ⟨⟨F2, ft_at hft d3 (by simp) d1, d2⟩, d3⟩, fun k k0 k1 => ?_, kLt_ft hft (by simp) (by simp) f1, fun n hn => ?_, fun n d hn n0 n1 n2 => ?_, fun b hb => j1 b ?_⟩
  · by_cases c : i = r
    · subst c
      rw [hp]
      show _ = some (Sum.inr (7, [Value.int (iI i), Value.int (iI (if i = i then s else aSe A i)), Value.int (iI (if i = i then x else aHo A i))]))
      rw [if_pos rfl, if_pos rfl]
    · have y := ft_at hft (c1 i i0 i1).2 (fun e => by have e2 : i.toNat = r.toNat := congrArg Prod.snd e; omega) (c1 i i0 i1).1
      rw [y]
      show _ = some (Sum.inr (7, [Value.int (iI i), Value.int (iI (if i = r then s else aSe A i)), Value.int (iI (if i = r then x else aHo A i))]))
      rw [if_neg c, if_neg c]
  · obtain ⟨⟨u1, u2⟩, u3⟩ := e1 k k0 k1
    exact ⟨⟨ft_at hft u2 (by simp) u1, u2⟩, kLt_ft hft (by simp) (by simp) u3⟩
  · obtain ⟨u0, ⟨u1, u2⟩, u3⟩ := g1 n hn
    exact ⟨u0, ⟨ft_at hft u2 (by simp) u1, u2⟩, kLt_ft hft (by simp) (by simp) u3⟩
  · obtain ⟨⟨u1, u2⟩, u3, u4⟩ := i1 n d hn n0 n1 n2
    exact ⟨⟨ft_at hft u2 (by simp) u1, u2⟩, ft_at hft u4 (by simp) u3, u4⟩
  · rw [← hf b (fun e => by rw [e, hp] at hb; cases hb)]; exact hb
end KCH
