/-! ===== the class: what its objects stand for, as dates move; the list of meetings changed; a date with a new slot ===== -/
abbrev xDD (A : kAb) (dt : Int → Int → Nat → Int) (dx : Int → List (Int × Int)) : kAb := (A.1, A.2.1, A.2.2.1, A.2.2.2.1, A.2.2.2.2.1, A.2.2.2.2.2.1, A.2.2.2.2.2.2.1, A.2.2.2.2.2.2.2.1, A.2.2.2.2.2.2.2.2.1, dt, dx, A.2.2.2.2.2.2.2.2.2.2.2)
abbrev xMl (A : kAb) (ms : List Int) : kAb := (A.1, A.2.1, A.2.2.1, ms, A.2.2.2.2)
theorem do_sub {A : kAb} {xs ys : List (Int × Int)} {N : Nat} (z : kDo A xs N) (hs : ys.Sublist xs) : kDo A ys N := ⟨hs.nodup z.1, Nat.le_trans hs.length_le z.2.1, z.2.2.1.sublist hs, fun q hq => z.2.2.2 q (hs.subset hq)⟩
section KRL
variable {G : kG} {h h' : kAH} {pl : Nat} {γ : kGh} {A : kAb} {f f' : Nat → Int}
theorem rl_ch {dt : Int → Int → Nat → Int} {dx : Int → List (Int × Int)} (z : kRl A f) (h0 : ∀ j : Nat, j < 20 → f' j = f j) (hm : ∀ m w : Int, 0 ≤ m → 0 ≤ w → w < 10 → oF f' m w = oF f m w)
    (hd : ∀ m d : Int, inP f m d → dt (oF f m 0) d 0 = dF f' m d 0 ∧ dt (oF f m 0) d 1 = dF f' m d 1 ∧ dt (oF f m 0) d 2 = dF f' m d 2 ∧ dt (oF f m 0) d 3 = dF f' m d 3 ∧ dt (oF f m 0) d 4 = oF f m 2)
    (hx : ∀ k : Int, 0 ≤ k → k < 28 → (dx k).Nodup ∧ (dx k).Pairwise (fun q q' => dt q.1 q.2 1 ≤ dt q'.1 q'.2 1) ∧ ∀ q : Int × Int, q ∈ dx k ↔ ∃ m : Int, inP f m q.2 ∧ q.1 = oF f m 0 ∧ onF f' m q.2 ∧ dF f' m q.2 0 = k) : kRl (xDD A dt dx) f' := by
  obtain ⟨⟨z10, z11, z12, z13⟩, z2, z3, z4, -, -⟩ := z
  have hin : ∀ m d : Int, inP f' m d ↔ inP f m d := fun m d => by
    unfold inP
    rw [h0 1 (by decide)]
    constructor
    · rintro ⟨a, b, c, e⟩; rw [hm m 3 a (by decide) (by decide)] at e; exact ⟨a, b, c, e⟩
    · rintro ⟨a, b, c, e⟩; exact ⟨a, b, c, by rw [hm m 3 a (by decide) (by decide)]; exact e⟩
  refine ⟨⟨z10.trans (h0 0 (by decide)).symm, z11.trans (h0 2 (by decide)).symm, z12.trans (h0 3 (by decide)).symm, z13.trans (h0 4 (by decide)).symm⟩, fun r r0 r1 => ?_, ?_, fun m m0 m1 => ?_, fun m d hi => ?_, fun k k0 k1 => ?_⟩
  · obtain ⟨u1, u2⟩ := z2 r r0 r1
    exact ⟨u1.trans (h0 _ (by omega)).symm, u2.trans (h0 _ (by omega)).symm⟩
  · show aMl A = _
    rw [z3, h0 1 (by decide)]
    exact List.map_congr_left fun m hm9 => (hm (m : Int) 0 (by omega) (by decide) (by decide)).symm
  · rw [h0 1 (by decide)] at m1
    have e1 : kmk (fun p : Nat => oF f' m (4 + (p : Int)) ≠ 45) 6 = kmk (fun (p : Nat) => oF f m (4 + (p : Int)) ≠ 45) 6 := kmk_cg fun p hp => by rw [hm m _ m0 (by omega) (by omega)]
    have e2 : kmk (fun p : Nat => oF f' m (4 + (p : Int)) = 121) 6 = kmk (fun (p : Nat) => oF f m (4 + (p : Int)) = 121) 6 := kmk_cg fun p hp => by rw [hm m _ m0 (by omega) (by omega)]
    have e3 : kmk (fun p : Nat => oF f' m (4 + (p : Int)) = 110) 6 = kmk (fun (p : Nat) => oF f m (4 + (p : Int)) = 110) 6 := kmk_cg fun p hp => by rw [hm m _ m0 (by omega) (by omega)]
    rw [hm m 0 m0 (by decide) (by decide), hm m 1 m0 (by decide) (by decide), hm m 3 m0 (by decide) (by decide), e1, e2, e3]
    exact z4 m m0 m1
  · have hi2 := (hin m d).mp hi
    rw [hm m 0 hi2.1 (by decide) (by decide), hm m 2 hi2.1 (by decide) (by decide)]
    exact hd m d hi2
  · obtain ⟨u1, u2, u3⟩ := hx k k0 k1
    refine ⟨u1, u2, fun q => (u3 q).trans ⟨?_, ?_⟩⟩
    · rintro ⟨m, w1, w2, w3⟩
      exact ⟨m, (hin _ _).mpr w1, by rw [hm m 0 w1.1 (by decide) (by decide)]; exact w2, w3⟩
    · rintro ⟨m, w1, w2, w3⟩
      have w1' := (hin _ _).mp w1
      rw [hm m 0 w1.1 (by decide) (by decide)] at w2
      exact ⟨m, w1', w2, w3⟩
theorem rp_do (q : kRp G h pl γ A f) {k : Int} (k0 : 0 ≤ k) (k1 : k < 28) : kDo A (aDx A k) 48 := by
  obtain ⟨u1, u2, u3⟩ := q.2.1.2.2.2.2.2 k k0 k1
  refine ⟨u1, rp_len q k0 k1, u2, fun x hx => ?_⟩
  obtain ⟨m, w1, w2, -, -⟩ := (u3 x).mp hx
  obtain ⟨e0, e1, e2⟩ := rp_lv q w1
  obtain ⟨-, v1, -⟩ := q.2.1.2.2.2.2.1 m x.2 w1
  have g := kWf_d q.2.2 w1.1 w1.2.1 w1.2.2.1 w1.2.2.2
  have g2 := kWf_m q.2.2 w1.1 w1.2.1
  rw [w2]
  exact ⟨e0, w1.2.2.1, e1, e2, by omega, by omega⟩
theorem rl_mv (q : kRp G h pl γ A f) {m d k' t' c' r' : Int} (hi : inP f m d) (h0 : ∀ j : Nat, j < 20 → f' j = f j) (hm : ∀ m w : Int, 0 ≤ m → 0 ≤ w → w < 10 → oF f' m w = oF f m w)
    (hD : ∀ m' d' : Int, inP f m' d' → ¬ (m' = m ∧ d' = d) → ∀ w : Int, 0 ≤ w → w < 4 → dF f' m' d' w = dF f m' d' w) (hN : dF f' m d 0 = k' ∧ dF f' m d 1 = t' ∧ dF f' m d 2 = c' ∧ dF f' m d 3 = r')
    {dt : Int → Int → Nat → Int} {dx : Int → List (Int × Int)} (hdt : ∀ i j : Int, ¬ (i = oF f m 0 ∧ j = d) → ∀ w : Nat, dt i j w = aDt A i j w) (hdn : dt (oF f m 0) d 0 = k' ∧ dt (oF f m 0) d 1 = t' ∧ dt (oF f m 0) d 2 = c' ∧ dt (oF f m 0) d 3 = r' ∧ dt (oF f m 0) d 4 = oF f m 2)
    (hx : ∀ k : Int, 0 ≤ k → k < 28 → (dx k).Nodup ∧ (dx k).Pairwise (fun q q' => dt q.1 q.2 1 ≤ dt q'.1 q'.2 1) ∧ ∀ q : Int × Int, q ∈ dx k ↔ (q ∈ aDx A k ∧ q ≠ (oF f m 0, d)) ∨ (q = (oF f m 0, d) ∧ c' = 0 ∧ k' = k)) : kRl (xDD A dt dx) f' := by
  obtain ⟨n0, n1, n2, n3⟩ := hN
  refine rl_ch q.2.1 h0 hm (fun m' d' hi' => ?_) (fun k k0 k1 => ?_)
  · by_cases c : m' = m ∧ d' = d
    · obtain ⟨rfl, rfl⟩ := c
      rw [n0, n1, n2, n3]
      exact hdn
    · have c2 : ¬ (oF f m' 0 = oF f m 0 ∧ d' = d) := fun z => c ⟨rp_num q hi'.1 hi'.2.1 hi.1 hi.2.1 z.1, z.2⟩
      rw [hdt _ _ c2, hdt _ _ c2, hdt _ _ c2, hdt _ _ c2, hdt _ _ c2, hD _ _ hi' c 0 (by decide) (by decide), hD _ _ hi' c 1 (by decide) (by decide), hD _ _ hi' c 2 (by decide) (by decide), hD _ _ hi' c 3 (by decide) (by decide)]
      exact q.2.1.2.2.2.2.1 m' d' hi'
  · obtain ⟨u1, u2, u3⟩ := hx k k0 k1
    obtain ⟨-, -, v3⟩ := q.2.1.2.2.2.2.2 k k0 k1
    refine ⟨u1, u2, fun x => (u3 x).trans ⟨?_, ?_⟩⟩
    · rintro (⟨y1, y2⟩ | ⟨y1, y2, y3⟩)
      · obtain ⟨m', w1, w2, w3, w4⟩ := (v3 x).mp y1
        have c : ¬ (m' = m ∧ x.2 = d) := fun z => y2 (Prod.ext (by rw [w2, z.1]) z.2)
        exact ⟨m', w1, w2, (hD _ _ w1 c 2 (by decide) (by decide)).trans w3, (hD _ _ w1 c 0 (by decide) (by decide)).trans w4⟩
      · subst y1
        exact ⟨m, hi, rfl, n2.trans y2, n0.trans y3⟩
    · rintro ⟨m', w1, w2, w3, w4⟩
      by_cases c : m' = m ∧ x.2 = d
      · obtain ⟨c1, c2⟩ := c
        subst c1
        right
        refine ⟨Prod.ext w2 c2, ?_, ?_⟩
        · rw [c2] at w3; exact n2.symm.trans w3
        · rw [c2] at w4; exact n0.symm.trans w4
      · left
        refine ⟨(v3 x).mpr ⟨m', w1, w2, (hD _ _ w1 c 2 (by decide) (by decide)).symm.trans w3, (hD _ _ w1 c 0 (by decide) (by decide)).symm.trans w4⟩, fun z => c ?_⟩
        rw [z] at w2
        have w1' := w1
        rw [z] at w1'
        exact ⟨rp_num q w1'.1 w1'.2.1 hi.1 hi.2.1 w2.symm, by rw [z]⟩
-- the list of meetings changed
theorem ra_ML {ms' : List Int} {ar c : Nat} (z : kRA G h pl γ A) (hS : kLs G h (gMl γ) ar c ((aMl A).map (gMt γ))) (har : gOw γ ar = (13, 0) ∨ h ar = none) (hed : h' G.2.2.2 = none) (hx : kLx G h (gMl γ) ar (ms'.map (gMt γ)) h') :
    ∃ ow' : Nat → Nat × Nat, kRA G h' pl (ow', γ.2) (xMl A ms') ∧ kUt γ ow' h h' := by
  obtain ⟨ar', c', hS', hne, hfr⟩ := hx
  obtain ⟨⟨a1, a2⟩, ⟨⟨F, b1, b2⟩, b3⟩, c1, ⟨⟨F2, e1, e2⟩, e3⟩, f1, g1, i1, j1, l1⟩ := z
  have hta : gOw γ (gMl γ) = (12, 0) := g1.1
  have haa : gMl γ ≠ ar' := fun e => by
    obtain ⟨⟨mc, y1⟩, -⟩ := hS
    rcases hne with y | y
    · rcases har with w | w
      · rw [← y, ← e, hta] at w; cases w
      · rw [← y, ← e, y1] at w; cases w
    · rw [← e, y1] at y; cases y
  have L : ∀ {b : Nat} {t : Nat × Nat} {e : va_E}, t ≠ (12, 0) → t ≠ (13, 0) → h b = some e → gOw γ b = t → h' b = some e ∧ kOw (gOw γ) h' ar' (13, 0) b = t := fun h1 h2 h3 h4 => lx_at hfr hta har hne h1 h2 h3 h4
  refine ⟨kOw (gOw γ) h' ar' (13, 0), ⟨L (by simp) (by simp) a1 a2, ?_, fun r r0 r1 => L (by simp) (by simp) (c1 r r0 r1).1 (c1 r r0 r1).2, ?_, fun i i0 i9 => ?_, kLt_own (t' := (13, 0)) hta haa hed hS', fun n hn => ?_, fun n d hn n0 n1 n2 => ?_, fun b hb => kOw_no hb⟩, fun b e w1 w2 => L (by simp) (by simp) w1 w2⟩
  · obtain ⟨u1, u2⟩ := L (by simp) (by simp) b1 b3
    exact ⟨⟨F, u1, b2⟩, u2⟩
  · obtain ⟨u1, u2⟩ := L (by simp) (by simp) e1 e3
    exact ⟨⟨F2, u1, e2⟩, u2⟩
  · obtain ⟨⟨u1, u2⟩, u3⟩ := f1 i i0 i9
    exact ⟨L (by simp) (by simp) u1 u2, kLt_lx hfr hta har hne (by simp) (by simp) (by simp) (by simp) u3⟩
  · obtain ⟨u0, ⟨u1, u2⟩, u3⟩ := i1 n hn
    exact ⟨u0, L (by simp) (by simp) u1 u2, kLt_lx hfr hta har hne (by simp) (by simp) (by simp) (by simp) u3⟩
  · obtain ⟨⟨u1, u2⟩, u3, u4⟩ := j1 n d hn n0 n1 n2
    exact ⟨L (by simp) (by simp) u1 u2, L (by simp) (by simp) u3 u4⟩
-- tags and cells kept but for some
def kMv (T : Nat × Nat → Prop) (ow ow' : Nat → Nat × Nat) (h h' : kAH) : Prop := ∀ (b : Nat) (e : va_E), h b = some e → ow b ≠ (0, 0) → ¬ T (ow b) → h' b = some e ∧ ow' b = ow b
theorem mv_at {T : Nat × Nat → Prop} {ow ow' : Nat → Nat × Nat} (hv : kMv T ow ow' h h') {b : Nat} {e : va_E} {t : Nat × Nat} (h0 : t ≠ (0, 0)) (h1 : ¬ T t) (hb : h b = some e) (ht : ow b = t) : h' b = some e ∧ ow' b = t := by
  obtain ⟨u1, u2⟩ := hv b e hb (by rw [ht]; exact h0) (by rw [ht]; exact h1)
  exact ⟨u1, u2.trans ht⟩
theorem kLt_mv {T : Nat × Nat → Prop} {ow ow' : Nat → Nat × Nat} (hv : kMv T ow ow' h h') {a : Nat} {xs : List Nat} {t t' : Nat × Nat} (h0 : t ≠ (0, 0)) (h1 : ¬ T t) (h2 : t' ≠ (0, 0)) (h3 : ¬ T t') (z : kLt G h ow a xs t t') : kLt G h' ow' a xs t t' := by
  obtain ⟨z1, r, c, ⟨⟨mc, y1⟩, y2⟩, z3⟩ := z
  obtain ⟨u1, u2⟩ := mv_at hv h0 h1 y1 z1
  refine ⟨u2, r, c, ⟨⟨mc, u1⟩, ?_⟩, ?_⟩
  · rcases y2 with y2 | ⟨g1, g2, F, g3, g4⟩
    · exact Or.inl y2
    · rcases z3 with ⟨-, -, z3⟩ | z3
      · omega
      · exact Or.inr ⟨g1, g2, F, (mv_at hv h2 h3 g3 z3).1, g4⟩
  · rcases y2 with y2 | ⟨g1, g2, F, g3, g4⟩
    · exact Or.inl y2
    · rcases z3 with ⟨-, -, z3⟩ | z3
      · omega
      · exact Or.inr (mv_at hv h2 h3 g3 z3).2
-- a date gets a new slot, another room, stands again
abbrev xSt (γ : kGh) (ow' : Nat → Nat × Nat) (st : Int → Int → Nat) : kGh := (ow', γ.2.1, γ.2.2.1, γ.2.2.2.1, γ.2.2.2.2.1, γ.2.2.2.2.2.1, γ.2.2.2.2.2.2.1, st, γ.2.2.2.2.2.2.2.2)
def dDt (A : kAb) (n d a b x r c : Int) : Int → Int → Nat → Int := fun i j w => if i = n ∧ j = d then (match w with
  | 0 => a
  | 1 => b
  | 2 => x
  | 3 => r
  | 4 => c
  | w => aDt A i j w) else aDt A i j w
theorem dDt_ne {A : kAb} {n d a b x r c i j : Int} {w : Nat} (hc : ¬ (i = n ∧ j = d)) : dDt A n d a b x r c i j w = aDt A i j w := if_neg hc
theorem dDt_at {A : kAb} {n d a b x r c : Int} : dDt A n d a b x r c n d 0 = a ∧ dDt A n d a b x r c n d 1 = b ∧ dDt A n d a b x r c n d 2 = x ∧ dDt A n d a b x r c n d 3 = r ∧ dDt A n d a b x r c n d 4 = c := ⟨if_pos ⟨rfl, rfl⟩, if_pos ⟨rfl, rfl⟩, if_pos ⟨rfl, rfl⟩, if_pos ⟨rfl, rfl⟩, if_pos ⟨rfl, rfl⟩⟩
theorem ra_DM {n d r x a b c : Int} {q : Nat} (hn : aLv A n) (d0 : 0 ≤ d) (d1 : d < (aMn A n : Int)) (d2 : d < 6) (z : kRA G h pl γ A) (hf : ∀ b, b ≠ gDt γ n d → h' b = h b) (hp : h' (gDt γ n d) = some (.inr (4, [.ref (gMt γ n), .ref q, .ref (gRm γ r), .int (iI x)]))) (hq : h q = some (.inr (8, [.int (iI a), .int (iI b), .int (iI c)]))) (hqo : gOw γ q = (0, 0)) :
    ∃ ow' : Nat → Nat × Nat, kRA G h' pl (xSt γ ow' (fun i j => if i = n ∧ j = d then q else gSt γ i j)) (xDD A (dDt A n d a b x r c) (aDx A)) ∧ ∀ (b : Nat) (e : va_E), h b = some e → gOw γ b = (0, 0) → b ≠ q → h' b = some e ∧ ow' b = (0, 0) := by
  obtain ⟨⟨a1, a2⟩, ⟨⟨F, b1, b2⟩, b3⟩, c1, ⟨⟨F2, e1, e2⟩, e3⟩, f1, g1, i1, j1, k1⟩ := z
  have ht := (j1 n d hn d0 d1 d2).1.2
  have hn0 := (i1 n hn).1
  have hqD : q ≠ gDt γ n d := fun e => by rw [e, ht] at hqo; cases hqo
  obtain ⟨ow', how⟩ : ∃ ow' : Nat → Nat × Nat, ow' = fun b => if b = q then (8, (6 * n + d).toNat) else gOw γ b := ⟨_, rfl⟩
  have how1 : ow' q = (8, (6 * n + d).toNat) := by rw [how]; exact if_pos rfl
  have how2 : ∀ b, b ≠ q → ow' b = gOw γ b := fun b hb => by rw [how]; exact if_neg hb
  clear how
  have hv : kMv (fun t => t = (7, (6 * n + d).toNat)) (gOw γ) ow' h h' := fun b e hb h0 hT => by
    have hbq : b ≠ q := fun c => h0 (by rw [c]; exact hqo)
    exact ⟨(hf b (fun c => hT (by rw [c]; exact ht))).trans hb, how2 b hbq⟩
  refine ⟨ow', ⟨mv_at hv (by simp) (by simp) a1 a2, ?_, fun i h0 h1 => mv_at hv (by simp) (by simp) (c1 i h0 h1).1 (c1 i h0 h1).2, ?_, fun k k0 k9 => ?_, kLt_mv hv (by simp) (by simp) (by simp) (by simp) g1, fun i hi => ?_, fun i j hi n0 n1 n2 => ?_, fun b hb => ?_⟩, fun b e w1 w2 w3 => ⟨(hf b (fun c => by rw [c, ht] at w2; cases w2)).trans w1, (how2 b w3).trans w2⟩⟩
  · obtain ⟨u1, u2⟩ := mv_at hv (by simp) (by simp) b1 b3
    exact ⟨⟨F, u1, b2⟩, u2⟩
  · obtain ⟨u1, u2⟩ := mv_at hv (by simp) (by simp) e1 e3
    exact ⟨⟨F2, u1, e2⟩, u2⟩
  · obtain ⟨⟨u1, u2⟩, u3⟩ := f1 k k0 k9
    exact ⟨mv_at hv (by simp) (by simp) u1 u2, kLt_mv hv (by simp) (by simp) (by simp) (by simp) u3⟩
  · obtain ⟨u0, ⟨u1, u2⟩, u3⟩ := i1 i hi
    exact ⟨u0, mv_at hv (by simp) (by simp) u1 u2, kLt_mv hv (by simp) (by simp) (by simp) (by simp) u3⟩
  · obtain ⟨⟨u1, u2⟩, u3, u4⟩ := j1 i j hi n0 n1 n2
    have hi0 := (i1 i hi).1
    by_cases cc : i = n ∧ j = d
    · obtain ⟨rfl, rfl⟩ := cc
      obtain ⟨v0, v1, v2, v3, v4⟩ := dDt_at (A := A) (n := i) (d := j) (a := a) (b := b) (x := x) (r := r) (c := c)
      refine ⟨⟨?_, (how2 _ (Ne.symm hqD)).trans u2⟩, ?_, ?_⟩
      · show h' (gDt γ i j) = some (Sum.inr (4, [Value.ref (gMt γ i), Value.ref (if i = i ∧ j = j then q else gSt γ i j), Value.ref (gRm γ (dDt A i j a b x r c i j 3)), Value.int (iI (dDt A i j a b x r c i j 2))]))
        rw [v2, v3, if_pos ⟨rfl, rfl⟩]
        exact hp
      · show h' (if i = i ∧ j = j then q else gSt γ i j) = some (Sum.inr (8, [Value.int (iI (dDt A i j a b x r c i j 0)), Value.int (iI (dDt A i j a b x r c i j 1)), Value.int (iI (dDt A i j a b x r c i j 4))]))
        rw [v0, v1, v4, if_pos ⟨rfl, rfl⟩]
        exact (hf q hqD).trans hq
      · show ow' (if i = i ∧ j = j then q else gSt γ i j) = _
        rw [if_pos ⟨rfl, rfl⟩]
        exact how1
    · have y := mv_at hv (by simp) (fun e => by have e2 : (6 * i + j).toNat = (6 * n + d).toNat := congrArg Prod.snd e; omega) u1 u2
      have y2 := mv_at hv (by simp) (by simp) u3 u4
      have v : ∀ w : Nat, dDt A n d a b x r c i j w = aDt A i j w := fun w => dDt_ne cc
      refine ⟨⟨?_, y.2⟩, ?_, ?_⟩
      · show h' (gDt γ i j) = some (Sum.inr (4, [Value.ref (gMt γ i), Value.ref (if i = n ∧ j = d then q else gSt γ i j), Value.ref (gRm γ (dDt A n d a b x r c i j 3)), Value.int (iI (dDt A n d a b x r c i j 2))]))
        rw [v, v, if_neg cc]
        exact y.1
      · show h' (if i = n ∧ j = d then q else gSt γ i j) = some (Sum.inr (8, [Value.int (iI (dDt A n d a b x r c i j 0)), Value.int (iI (dDt A n d a b x r c i j 1)), Value.int (iI (dDt A n d a b x r c i j 4))]))
        rw [v, v, v, if_neg cc]
        exact y2.1
      · show ow' (if i = n ∧ j = d then q else gSt γ i j) = _
        rw [if_neg cc]
        exact y2.2
  · have hbq : b ≠ q := fun c => by rw [c, hf q hqD, hq] at hb; cases hb
    have hbD : b ≠ gDt γ n d := fun c => by rw [c, hp] at hb; cases hb
    rw [hf b hbD] at hb
    exact (how2 b hbq).trans (k1 b hb)
end KRL
