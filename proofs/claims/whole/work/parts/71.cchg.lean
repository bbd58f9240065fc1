/-! ===== the class: fields of the planner and of a room ===== -/
section KCH2
variable {G : kG} {h h' : kAH} {pl : Nat} {γ : kGh} {A : kAb} {f f' : Nat → Int}
theorem rl_cg {sc : Nat → Int} {se ho : Int → Int} (z : kRl A f) (h1 : f' 1 = f 1) (hm : ∀ m w : Int, 0 ≤ m → 0 ≤ w → oF f' m w = oF f m w)
    (hsc : sc 0 = f' 0 ∧ sc 1 = f' 2 ∧ sc 2 = f' 3 ∧ sc 3 = f' 4) (hro : ∀ r : Int, 0 ≤ r → r < 4 → se r = f' (5 + r).toNat ∧ ho r = f' (9 + r).toNat) : kRl (sc, se, ho, A.2.2.2) f' := by
  obtain ⟨-, -, z3, z4, z5, z6⟩ := z
  have hd : ∀ m d w : Int, 0 ≤ m → 0 ≤ d → 0 ≤ w → dF f' m d w = dF f m d w := fun m d w a1 a2 a3 => hm m _ a1 (by omega)
  have hin : ∀ m d : Int, inP f' m d ↔ inP f m d := fun m d => by
    unfold inP
    rw [h1]
    constructor
    · rintro ⟨a, b, c, e⟩; rw [hm m 3 a (by decide)] at e; exact ⟨a, b, c, e⟩
    · rintro ⟨a, b, c, e⟩; exact ⟨a, b, c, by rw [hm m 3 a (by decide)]; exact e⟩
  refine ⟨hsc, hro, ?_, fun m m0 m1 => ?_, fun m d hi => ?_, fun k k0 k1 => ?_⟩
  · show aMl A = _
    rw [z3, h1]
    exact List.map_congr_left fun m hm9 => (hm (m : Int) 0 (by omega) (by decide)).symm
  · rw [h1] at m1
    have e1 : (fun p : Nat => oF f' m (4 + (p : Int)) ≠ 45) = fun (p : Nat) => oF f m (4 + (p : Int)) ≠ 45 := funext fun p => by rw [hm m _ m0 (by omega)]
    have e2 : (fun p : Nat => oF f' m (4 + (p : Int)) = 121) = fun (p : Nat) => oF f m (4 + (p : Int)) = 121 := funext fun p => by rw [hm m _ m0 (by omega)]
    have e3 : (fun p : Nat => oF f' m (4 + (p : Int)) = 110) = fun (p : Nat) => oF f m (4 + (p : Int)) = 110 := funext fun p => by rw [hm m _ m0 (by omega)]
    rw [hm m 0 m0 (by decide), hm m 1 m0 (by decide), hm m 3 m0 (by decide), e1, e2, e3]
    exact z4 m m0 m1
  · have hi2 := (hin m d).mp hi
    have m0 := hi2.1
    have d0 := hi2.2.2.1
    rw [hm m 0 m0 (by decide), hm m 2 m0 (by decide), hd m d 0 m0 d0 (by decide), hd m d 1 m0 d0 (by decide), hd m d 2 m0 d0 (by decide), hd m d 3 m0 d0 (by decide)]
    exact z5 m d hi2
  · obtain ⟨u1, u2, u3⟩ := z6 k k0 k1
    refine ⟨u1, u2, fun q => (u3 q).trans ⟨?_, ?_⟩⟩
    · rintro ⟨m, w1, w2, w3, w4⟩
      refine ⟨m, (hin m q.2).mpr w1, by rw [hm m 0 w1.1 (by decide)]; exact w2, ?_, by rw [hd m q.2 0 w1.1 w1.2.2.1 (by decide)]; exact w4⟩
      unfold onF at w3 ⊢
      rw [hd m q.2 2 w1.1 w1.2.2.1 (by decide)]; exact w3
    · rintro ⟨m, w1, w2, w3, w4⟩
      have w1' := (hin m q.2).mp w1
      refine ⟨m, w1', by rw [← hm m 0 w1'.1 (by decide)]; exact w2, ?_, by rw [← hd m q.2 0 w1'.1 w1'.2.2.1 (by decide)]; exact w4⟩
      unfold onF at w3 ⊢
      rw [← hd m q.2 2 w1'.1 w1'.2.2.1 (by decide)]; exact w3
theorem rp_Pc (q : kRp G h pl γ A f) (hW : kWf f') (hf : ∀ b, b ≠ pl → h' b = h b) (hp : h' pl = some (.inr (9, [.ref (gRa γ), .ref (gDa γ), .ref (gMl γ), .int (iI (f' 0)), .int (iI (f' 2)), .int (iI (f' 3)), .int (iI (f' 4))])))
    (h1 : f' 1 = f 1) (hr : ∀ r : Int, 0 ≤ r → r < 4 → f' (5 + r).toNat = f (5 + r).toNat ∧ f' (9 + r).toNat = f (9 + r).toNat) (hm : ∀ m w : Int, 0 ≤ m → 0 ≤ w → oF f' m w = oF f m w) :
    ∃ A' : kAb, kRp G h' pl γ A' f' ∧ ∀ (b : Nat) (e : va_E), h b = some e → gOw γ b = (0, 0) → h' b = some e ∧ gOw γ b = (0, 0) := by
  refine ⟨((fun i => if i = 0 then f' 0 else if i = 1 then f' 2 else if i = 2 then f' 3 else f' 4), A.2), ⟨ra_P q.1 hf ?_, rl_cg (A := A) q.2.1 h1 hm ⟨rfl, rfl, rfl, rfl⟩ (fun r r0 r1 => ?_), hW⟩, fun b e g1 g2 => ⟨?_, g2⟩⟩
  · exact hp
  · obtain ⟨u1, u2⟩ := q.2.1.2.1 r r0 r1
    obtain ⟨v1, v2⟩ := hr r r0 r1
    exact ⟨u1.trans v1.symm, u2.trans v2.symm⟩
  · rw [hf b (fun c => by rw [c, q.1.1.2] at g2; cases g2)]; exact g1
theorem rp_Rc {r s x : Int} (q : kRp G h pl γ A f) (hW : kWf f') (h0 : 0 ≤ r) (h1r : r < 4) (hf : ∀ b, b ≠ gRm γ r → h' b = h b) (hp : h' (gRm γ r) = some (.inr (7, [.int (iI r), .int (iI s), .int (iI x)])))
    (hsc : f' 0 = f 0 ∧ f' 2 = f 2 ∧ f' 3 = f 3 ∧ f' 4 = f 4) (h1 : f' 1 = f 1) (hr : ∀ i : Int, 0 ≤ i → i < 4 → f' (5 + i).toNat = (if i = r then s else f (5 + i).toNat) ∧ f' (9 + i).toNat = (if i = r then x else f (9 + i).toNat)) (hm : ∀ m w : Int, 0 ≤ m → 0 ≤ w → oF f' m w = oF f m w) :
    ∃ A' : kAb, kRp G h' pl γ A' f' ∧ ∀ (b : Nat) (e : va_E), h b = some e → gOw γ b = (0, 0) → h' b = some e ∧ gOw γ b = (0, 0) := by
  refine ⟨_, ⟨ra_R h0 h1r q.1 hf hp, rl_cg (A := A) q.2.1 h1 hm ?_ (fun i i0 i1 => ?_), hW⟩, fun b e g1 g2 => ⟨?_, g2⟩⟩
  · obtain ⟨u0, u1, u2, u3⟩ := q.2.1.1
    obtain ⟨v0, v1, v2, v3⟩ := hsc
    exact ⟨u0.trans v0.symm, u1.trans v1.symm, u2.trans v2.symm, u3.trans v3.symm⟩
  · obtain ⟨u1, u2⟩ := q.2.1.2.1 i i0 i1
    obtain ⟨v1, v2⟩ := hr i i0 i1
    by_cases c : i = r
    · rw [if_pos c] at v1 v2 ⊢
      rw [if_pos c]
      exact ⟨v1.symm, v2.symm⟩
    · rw [if_neg c] at v1 v2 ⊢
      rw [if_neg c]
      exact ⟨u1.trans v1.symm, u2.trans v2.symm⟩
  · rw [hf b (fun c => by rw [c, (q.1.2.2.1 r h0 h1r).2] at g2; cases g2)]; exact g1
end KCH2
