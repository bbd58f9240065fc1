/-! ===== the class: an answer noted ===== -/
section KNT
variable {G : kG} {h h' : kAH} {pl : Nat} {γ : kGh} {A : kAb} {f f' : Nat → Int}
theorem ra_M {n : Int} {y x : Nat} (hn : aLv A n) (z : kRA G h pl γ A) (hf : ∀ b, b ≠ gMt γ n → h' b = h b) (hp : h' (gMt γ n) = some (.inr (6, [.int (iI n), .int (iI (aHs A n)), .int (iI ((aAk A n : Nat) : Int)), .ref (gMd γ n), .int (iI ((y : Nat) : Int)), .int (iI ((x : Nat) : Int))]))) :
    kRA G h' pl γ (A.1, A.2.1, A.2.2.1, A.2.2.2.1, A.2.2.2.2.1, A.2.2.2.2.2.1, (fun i => if i = n then y else aYs A i), (fun i => if i = n then x else aNo A i), A.2.2.2.2.2.2.2.2) := by
  obtain ⟨⟨a1, a2⟩, ⟨⟨F, b1, b2⟩, b3⟩, c1, ⟨⟨F2, d1, d2⟩, d3⟩, e1, f1, g1, i1, j1⟩ := z
  have ht := (g1 n hn).2.1.2
  have hn0 := (g1 n hn).1
  have hft : kFt (gOw γ) (fun t => t = (4, n.toNat)) h h' := fun b hb => hf b (fun e => hb (by rw [e]; exact ht))
  refine ⟨⟨ft_at hft a2 (by simp) a1, a2⟩, ⟨⟨F, ft_at hft b3 (by simp) b1, b2⟩, b3⟩, fun r h0 h1 => ⟨ft_at hft (c1 r h0 h1).2 (by simp) (c1 r h0 h1).1, (c1 r h0 h1).2⟩, ⟨⟨F2, ft_at hft d3 (by simp) d1, d2⟩, d3⟩, fun k k0 k1 => ?_, kLt_ft hft (by simp) (by simp) f1, fun i hi => ?_, fun i d hi n0 n1 n2 => ?_, fun b hb => j1 b ?_⟩
  · obtain ⟨⟨u1, u2⟩, u3⟩ := e1 k k0 k1
    exact ⟨⟨ft_at hft u2 (by simp) u1, u2⟩, kLt_ft hft (by simp) (by simp) u3⟩
  · obtain ⟨u0, ⟨u1, u2⟩, u3⟩ := g1 i hi
    refine ⟨u0, ⟨?_, u2⟩, kLt_ft hft (by simp) (by simp) u3⟩
    by_cases c : i = n
    · subst c
      rw [hp]
      show _ = some (Sum.inr (6, [Value.int (iI i), Value.int (iI (aHs A i)), Value.int (iI ((aAk A i : Nat) : Int)), Value.ref (gMd γ i), Value.int (iI (((if i = i then y else aYs A i) : Nat) : Int)), Value.int (iI (((if i = i then x else aNo A i) : Nat) : Int))]))
      rw [if_pos rfl, if_pos rfl]
    · have y2 := ft_at hft u2 (fun e => by have e2 : i.toNat = n.toNat := congrArg Prod.snd e; omega) u1
      rw [y2]
      show _ = some (Sum.inr (6, [Value.int (iI i), Value.int (iI (aHs A i)), Value.int (iI ((aAk A i : Nat) : Int)), Value.ref (gMd γ i), Value.int (iI (((if i = n then y else aYs A i) : Nat) : Int)), Value.int (iI (((if i = n then x else aNo A i) : Nat) : Int))]))
      rw [if_neg c, if_neg c]
  · obtain ⟨⟨u1, u2⟩, u3, u4⟩ := i1 i d hi n0 n1 n2
    exact ⟨⟨ft_at hft u2 (by simp) u1, u2⟩, ft_at hft u4 (by simp) u3, u4⟩
  · rw [← hf b (fun e => by rw [e, hp] at hb; cases hb)]; exact hb
-- the sets after an answer
noncomputable def ntS (c : Prop) (s p : Nat) : Nat := kI c (s ||| 2 ^ p) (kdf s (2 ^ p))
theorem ntS_bit {c : Prop} {s p q : Nat} (hs : s < 64) (hp : p < 6) (hq : q < 6) : (ntS c s p).testBit q = true ↔ (if q = p then c else s.testBit q = true) := by
  unfold ntS
  have e2 : (2 ^ p).testBit q = true ↔ p = q := by rw [Nat.testBit_two_pow, decide_eq_true_eq]
  by_cases hc : c
  · rw [kI_t hc, Nat.testBit_or, Bool.or_eq_true, e2]
    by_cases e : q = p
    · rw [if_pos e]; exact ⟨fun _ => hc, fun _ => Or.inr e.symm⟩
    · rw [if_neg e]; exact ⟨fun z => z.resolve_right (fun y => e y.symm), Or.inl⟩
  · rw [kI_f hc, kdf_bit hs, e2]
    by_cases e : q = p
    · rw [if_pos e]; exact ⟨fun z => absurd e.symm z.2, fun z => absurd z hc⟩
    · rw [if_neg e]; exact ⟨fun z => z.1, fun z => ⟨z, fun y => e y.symm⟩⟩
theorem ntS_lt {c : Prop} {s p : Nat} (hs : s < 64) (hp : p < 6) : ntS c s p < 64 := by
  unfold ntS
  by_cases hc : c
  · rw [kI_t hc]; exact kor_lt hs (k2p_lt hp)
  · rw [kI_f hc]; exact kdf_lt hs
theorem rp_note (q : kRp G h pl γ A f) {m a : Int} {p : Nat} (h0 : 0 ≤ m) (h1 : m < f 1) (hp : p < 6) (hold : oF f m (4 + (p : Int)) ≠ 45) (ha : a ≠ 45) (hW : kWf (lyF f m (4 + (p : Int)) a))
    (hf : ∀ b, b ≠ gMt γ (oF f m 0) → h' b = h b) (hpc : h' (gMt γ (oF f m 0)) = some (.inr (6, [.int (iI (oF f m 0)), .int (iI (oF f m 1)), .int (iI ((aAk A (oF f m 0) : Nat) : Int)), .ref (gMd γ (oF f m 0)), .int (iI ((ntS (a = 121) (aYs A (oF f m 0)) p : Nat) : Int)), .int (iI ((ntS (a = 110) (aNo A (oF f m 0)) p : Nat) : Int))]))) :
    ∃ A' : kAb, kRp G h' pl γ A' (lyF f m (4 + (p : Int)) a) := by
  obtain ⟨l0, l1, l2, l3, l4, l5⟩ := q.2.1.2.2.2.1 m h0 h1
  have lo : ∀ j : Nat, j < 20 → (lyF f m (4 + (p : Int)) a) j = f j := fun j hj => ly_lo h0 (by omega) hj
  have ro : ∀ m' w : Int, 0 ≤ m' → 0 ≤ w → w < 40 → oF (lyF f m (4 + (p : Int)) a) m' w = if m' = m ∧ w = 4 + (p : Int) then a else oF f m' w := fun m' w a1 a2 a3 => oF_ly h0 (by omega) a1 ⟨a2, a3⟩
  have ro2 : ∀ m' w : Int, 0 ≤ m' → 0 ≤ w → w < 40 → (w < 4 ∨ 10 ≤ w) → oF (lyF f m (4 + (p : Int)) a) m' w = oF f m' w := fun m' w a1 a2 a3 a4 => by rw [ro m' w a1 a2 a3, if_neg (by omega)]
  obtain ⟨z1, z2, z3, z4, z5, z6⟩ := q.2.1
  have many6 : ∀ m' : Int, 0 ≤ m' → m' < f 1 → oF f m' 3 ≤ 6 := fun m' a0 a1 => by have := kWf_m q.2.2 a0 a1; omega
  have hin : ∀ m' d : Int, inP (lyF f m (4 + (p : Int)) a) m' d ↔ inP f m' d := fun m' d => by
    unfold inP
    rw [lo 1 (by decide)]
    constructor
    · rintro ⟨u, v, w, x⟩; rw [ro2 m' 3 u (by decide) (by decide) (by decide)] at x; exact ⟨u, v, w, x⟩
    · rintro ⟨u, v, w, x⟩; exact ⟨u, v, w, by rw [ro2 m' 3 u (by decide) (by decide) (by decide)]; exact x⟩
  have hd : ∀ m' d w : Int, inP f m' d → 0 ≤ w → w < 4 → dF (lyF f m (4 + (p : Int)) a) m' d w = dF f m' d w := fun m' d w hi w0 w1 => by
    have := many6 m' hi.1 hi.2.1
    have := hi.2.2.1
    have := hi.2.2.2
    exact ro2 m' _ hi.1 (by omega) (by omega) (by omega)
  obtain ⟨x1, x2, x3, x4⟩ := rp_Mx q h0 h1
  refine ⟨_, ra_M l0 q.1 hf (by rw [l1]; exact hpc), ⟨?_, ?_, ?_, fun m' m0 m1 => ?_, fun m' d hi => ?_, fun k k0 k1 => ?_⟩, hW⟩
  · rw [lo 0 (by decide), lo 2 (by decide), lo 3 (by decide), lo 4 (by decide)]; exact z1
  · intro r r0 r1
    rw [lo _ (by omega), lo _ (by omega)]; exact z2 r r0 r1
  · show aMl A = _
    rw [z3, lo 1 (by decide)]
    exact List.map_congr_left fun j hj => (ro2 (j : Int) 0 (by omega) (by decide) (by decide) (by decide)).symm
  · rw [lo 1 (by decide)] at m1
    obtain ⟨w0, w1, w2, w3, w4, w5⟩ := z4 m' m0 m1
    rw [ro2 m' 0 m0 (by decide) (by decide) (by decide), ro2 m' 1 m0 (by decide) (by decide) (by decide), ro2 m' 3 m0 (by decide) (by decide) (by decide)]
    by_cases c : m' = m
    · subst c
      refine ⟨w0, w1, ?_, ?_, ?_, w5⟩
      · show aAk A _ = _
        rw [w2]
        refine kmk_cg fun i hi => ?_
        rw [ro m' (4 + (i : Int)) m0 (by omega) (by omega)]
        by_cases e : i = p
        · subst e; rw [if_pos ⟨rfl, rfl⟩]; exact ⟨fun _ => ha, fun _ => hold⟩
        · rw [if_neg (by omega)]
      · show (if oF f m' 0 = oF f m' 0 then ntS (a = 121) (aYs A (oF f m' 0)) p else aYs A (oF f m' 0)) = _
        rw [if_pos rfl]
        refine kset_eq (ntS_lt x2 hp) (kmk_lt _ 6) fun i hi => ?_
        rw [ntS_bit x2 hp hi, kmk_bit, ro m' (4 + (i : Int)) m0 (by omega) (by omega)]
        by_cases e : i = p
        · subst e; rw [if_pos rfl, if_pos ⟨rfl, rfl⟩]; exact ⟨fun z => ⟨hi, z⟩, fun z => z.2⟩
        · rw [if_neg e, if_neg (by omega), (x4 i hi).2.1]; exact ⟨fun z => ⟨hi, z⟩, fun z => z.2⟩
      · show (if oF f m' 0 = oF f m' 0 then ntS (a = 110) (aNo A (oF f m' 0)) p else aNo A (oF f m' 0)) = _
        rw [if_pos rfl]
        refine kset_eq (ntS_lt x3 hp) (kmk_lt _ 6) fun i hi => ?_
        rw [ntS_bit x3 hp hi, kmk_bit, ro m' (4 + (i : Int)) m0 (by omega) (by omega)]
        by_cases e : i = p
        · subst e; rw [if_pos rfl, if_pos ⟨rfl, rfl⟩]; exact ⟨fun z => ⟨hi, z⟩, fun z => z.2⟩
        · rw [if_neg e, if_neg (by omega), (x4 i hi).2.2]; exact ⟨fun z => ⟨hi, z⟩, fun z => z.2⟩
    · have hne : oF f m' 0 ≠ oF f m 0 := fun e => c (rp_num q m0 m1 h0 h1 e)
      refine ⟨w0, w1, ?_, ?_, ?_, w5⟩
      · exact w2.trans (kmk_cg fun i hi => by rw [ro m' _ m0 (by omega) (by omega), if_neg (fun z => c z.1)])
      · show (if oF f m' 0 = oF f m 0 then ntS (a = 121) (aYs A (oF f m 0)) p else aYs A (oF f m' 0)) = _
        rw [if_neg hne]
        exact w3.trans (kmk_cg fun i hi => by rw [ro m' _ m0 (by omega) (by omega), if_neg (fun z => c z.1)])
      · show (if oF f m' 0 = oF f m 0 then ntS (a = 110) (aNo A (oF f m 0)) p else aNo A (oF f m' 0)) = _
        rw [if_neg hne]
        exact w4.trans (kmk_cg fun i hi => by rw [ro m' _ m0 (by omega) (by omega), if_neg (fun z => c z.1)])
  · have hi2 := (hin m' d).mp hi
    rw [ro2 m' 0 hi2.1 (by decide) (by decide) (by decide), ro2 m' 2 hi2.1 (by decide) (by decide) (by decide), hd m' d 0 hi2 (by decide) (by decide), hd m' d 1 hi2 (by decide) (by decide), hd m' d 2 hi2 (by decide) (by decide), hd m' d 3 hi2 (by decide) (by decide)]
    exact z5 m' d hi2
  · obtain ⟨u1, u2, u3⟩ := z6 k k0 k1
    refine ⟨u1, u2, fun x => (u3 x).trans ⟨?_, ?_⟩⟩
    · rintro ⟨m', w1, w2, w3, w4⟩
      refine ⟨m', (hin m' x.2).mpr w1, by rw [ro2 m' 0 w1.1 (by decide) (by decide) (by decide)]; exact w2, ?_, by rw [hd m' x.2 0 w1 (by decide) (by decide)]; exact w4⟩
      unfold onF at w3 ⊢
      rw [hd m' x.2 2 w1 (by decide) (by decide)]; exact w3
    · rintro ⟨m', w1, w2, w3, w4⟩
      have w1' := (hin m' x.2).mp w1
      refine ⟨m', w1', by rw [← ro2 m' 0 w1'.1 (by decide) (by decide) (by decide)]; exact w2, ?_, by rw [← hd m' x.2 0 w1' (by decide) (by decide)]; exact w4⟩
      unfold onF at w3 ⊢
      rw [← hd m' x.2 2 w1' (by decide) (by decide)]; exact w3
end KNT
