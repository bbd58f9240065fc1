/-! ===== the class: a date's own fields ===== -/
section KDT
variable {G : kG} {h h' : kAH} {pl : Nat} {γ : kGh} {A : kAb}
-- a date is cancelled, or stands again; its room
theorem ra_D {n d r x : Int} (hn : aLv A n) (d0 : 0 ≤ d) (d1 : d < (aMn A n : Int)) (d2 : d < 6) (z : kRA G h pl γ A) (hf : ∀ b, b ≠ gDt γ n d → h' b = h b) (hp : h' (gDt γ n d) = some (.inr (4, [.ref (gMt γ n), .ref (gSt γ n d), .ref (gRm γ r), .int (iI x)]))) :
    kRA G h' pl γ (A.1, A.2.1, A.2.2.1, A.2.2.2.1, A.2.2.2.2.1, A.2.2.2.2.2.1, A.2.2.2.2.2.2.1, A.2.2.2.2.2.2.2.1, A.2.2.2.2.2.2.2.2.1, (fun i j w => if i = n ∧ j = d ∧ w = 3 then r else if i = n ∧ j = d ∧ w = 2 then x else aDt A i j w), A.2.2.2.2.2.2.2.2.2.2) := by
  obtain ⟨⟨a1, a2⟩, ⟨⟨F, b1, b2⟩, b3⟩, c1, ⟨⟨F2, e1, e2⟩, e3⟩, f1, g1, i1, j1, k1⟩ := z
  have ht := (j1 n d hn d0 d1 d2).1.2
  have hn0 := (i1 n hn).1
  have hft : kFt (gOw γ) (fun t => t = (7, (6 * n + d).toNat)) h h' := fun b hb => hf b (fun e => hb (by rw [e]; exact ht))
  refine ⟨⟨ft_at hft a2 (by simp) a1, a2⟩, ⟨⟨F, ft_at hft b3 (by simp) b1, b2⟩, b3⟩, fun i h0 h1 => ⟨ft_at hft (c1 i h0 h1).2 (by simp) (c1 i h0 h1).1, (c1 i h0 h1).2⟩, ⟨⟨F2, ft_at hft e3 (by simp) e1, e2⟩, e3⟩, fun k k0 k9 => ?_, kLt_ft hft (by simp) (by simp) g1, fun i hi => ?_, fun i j hi n0 n1 n2 => ?_, fun b hb => k1 b ?_⟩
  · obtain ⟨⟨u1, u2⟩, u3⟩ := f1 k k0 k9
    exact ⟨⟨ft_at hft u2 (by simp) u1, u2⟩, kLt_ft hft (by simp) (by simp) u3⟩
  · obtain ⟨u0, ⟨u1, u2⟩, u3⟩ := i1 i hi
    exact ⟨u0, ⟨ft_at hft u2 (by simp) u1, u2⟩, kLt_ft hft (by simp) (by simp) u3⟩
  · obtain ⟨⟨u1, u2⟩, u3, u4⟩ := j1 i j hi n0 n1 n2
    have hi0 := (i1 i hi).1
    have v3 := ft_at hft u4 (by simp) u3
    refine ⟨⟨?_, u2⟩, ?_, u4⟩
    · by_cases c : i = n ∧ j = d
      · obtain ⟨rfl, rfl⟩ := c
        rw [hp]
        show _ = some (Sum.inr (4, [Value.ref (gMt γ i), Value.ref (gSt γ i j), Value.ref (gRm γ (if i = i ∧ j = j ∧ (3 : Nat) = 3 then r else if i = i ∧ j = j ∧ (3 : Nat) = 2 then x else aDt A i j 3)), Value.int (iI (if i = i ∧ j = j ∧ (2 : Nat) = 3 then r else if i = i ∧ j = j ∧ (2 : Nat) = 2 then x else aDt A i j 2))]))
        rw [if_pos ⟨rfl, rfl, rfl⟩, if_neg (by omega), if_pos ⟨rfl, rfl, rfl⟩]
      · have y := ft_at hft u2 (fun e => by have e2 : (6 * i + j).toNat = (6 * n + d).toNat := congrArg Prod.snd e; omega) u1
        rw [y]
        show _ = some (Sum.inr (4, [Value.ref (gMt γ i), Value.ref (gSt γ i j), Value.ref (gRm γ (if i = n ∧ j = d ∧ (3 : Nat) = 3 then r else if i = n ∧ j = d ∧ (3 : Nat) = 2 then x else aDt A i j 3)), Value.int (iI (if i = n ∧ j = d ∧ (2 : Nat) = 3 then r else if i = n ∧ j = d ∧ (2 : Nat) = 2 then x else aDt A i j 2))]))
        rw [if_neg (by omega), if_neg (by omega), if_neg (by omega), if_neg (by omega)]
    · rw [v3]
      show _ = some (Sum.inr (8, [Value.int (iI (if i = n ∧ j = d ∧ (0 : Nat) = 3 then r else if i = n ∧ j = d ∧ (0 : Nat) = 2 then x else aDt A i j 0)), Value.int (iI (if i = n ∧ j = d ∧ (1 : Nat) = 3 then r else if i = n ∧ j = d ∧ (1 : Nat) = 2 then x else aDt A i j 1)), Value.int (iI (if i = n ∧ j = d ∧ (4 : Nat) = 3 then r else if i = n ∧ j = d ∧ (4 : Nat) = 2 then x else aDt A i j 4))]))
      rw [if_neg (by omega), if_neg (by omega), if_neg (by omega), if_neg (by omega), if_neg (by omega), if_neg (by omega)]
  · rw [← hf b (fun e => by rw [e, hp] at hb; cases hb)]; exact hb
end KDT
