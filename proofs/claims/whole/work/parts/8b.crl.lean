/-! ===== the class: what its objects stand for after ask, extend ===== -/
section KAE
variable {G : kG} {h h' : kAH} {pl : Nat} {γ : kGh} {A : kAb} {f : Nat → Int}
theorem ex_ask {a : Nat} {hs : Int} (ha : a < 64) (hh : 0 ≤ hs ∧ hs < 6) : exM hs (kdf a (2 ^ hs.toNat)) 0 = a ||| 2 ^ hs.toNat := by
  have h2 : 2 ^ hs.toNat < 64 := k2p_lt (by omega)
  refine kset_eq (exM_lt hh (kdf_lt ha)) (kor_lt ha h2) fun p hp => ?_
  rw [exM_bit hh (kdf_lt ha), Nat.testBit_or, Bool.or_eq_true, kdf_bit ha, Nat.testBit_two_pow, decide_eq_true_eq, Nat.zero_testBit]
  constructor
  · rintro (c | ⟨⟨c, -⟩, -⟩)
    · exact Or.inr (by omega)
    · exact Or.inl c
  · rintro (c | c)
    · by_cases d : hs.toNat = p
      · exact Or.inl (by omega)
      · exact Or.inr ⟨⟨c, d⟩, by decide⟩
    · exact Or.inl (by omega)
theorem rl_nm {n hst : Int} {ak : Nat} (z : kRl A f) (hn : ∀ m : Int, 0 ≤ m → m < f 1 → oF f m 0 ≠ n) : kRl (xNA A n hst ak) f := by
  obtain ⟨z1, z2, z3, z4, z5, z6⟩ := z
  refine ⟨z1, z2, z3, fun m m0 m1 => ?_, z5, z6⟩
  obtain ⟨u1, u2, u3, u4, u5, u6⟩ := z4 m m0 m1
  have c := hn m m0 m1
  exact ⟨Or.inr u1, (if_neg c).trans u2, (if_neg c).trans u3, (if_neg c).trans u4, (if_neg c).trans u5, (congrArg (fun x : Nat => (x : Int)) (if_neg c)).trans u6⟩
theorem rl_ask (q : kRp G h pl γ A f) {hs k t n rm : Int} {a : Nat} (ha : a < 64) (hh : 0 ≤ hs ∧ hs < 6) {sc : Nat → Int} {hsf : Int → Int} {akf ysf nof mnf : Int → Nat} {dt : Int → Int → Nat → Int} {dx : Int → List (Int × Int)} {lv : Int → Prop}
    (hsc : sc 0 = f 0 ∧ sc 1 = f 2 + 1 ∧ sc 2 = f 3 ∧ sc 3 = f 4)
    (hold : ∀ i : Int, i ≠ f 2 → hsf i = aHs A i ∧ akf i = aAk A i ∧ ysf i = aYs A i ∧ nof i = aNo A i ∧ mnf i = aMn A i ∧ (aLv A i → lv i) ∧ ∀ (d : Int) (w : Nat), dt i d w = aDt A i d w)
    (hnew : hsf (f 2) = hs ∧ akf (f 2) = kdf a (2 ^ hs.toNat) ∧ ysf (f 2) = 0 ∧ nof (f 2) = 0 ∧ mnf (f 2) = 1 ∧ lv (f 2))
    (hdt : dt (f 2) 0 0 = k ∧ dt (f 2) 0 1 = t ∧ dt (f 2) 0 2 = 0 ∧ dt (f 2) 0 3 = rm ∧ dt (f 2) 0 4 = n)
    (hx : ∀ k' : Int, 0 ≤ k' → k' < 28 → (dx k').Nodup ∧ (dx k').Pairwise (fun q q' => dt q.1 q.2 1 ≤ dt q'.1 q'.2 1) ∧ ∀ x : Int × Int, x ∈ dx k' ↔ x ∈ aDx A k' ∨ (x = (f 2, 0) ∧ k = k')) :
    kRl (sc, A.2.1, A.2.2.1, aMl A ++ [f 2], hsf, akf, ysf, nof, mnf, dt, dx, lv) (askF f hs a k t n rm) := by
  have h8 := kWf_cnt q.2.2
  have lo : ∀ j : Nat, j < 20 → askF f hs a k t n rm j = if j = 2 then f 2 + 1 else if j = 1 then f 1 + 1 else f j := fun j hj => as_lo h8.1 hj
  have l1 : askF f hs a k t n rm 1 = f 1 + 1 := lo 1 (by decide)
  have ne : ∀ m w : Int, 0 ≤ m → m < f 1 → 0 ≤ w → w < 40 → oF (askF f hs a k t n rm) m w = oF f m w := fun m w m0 m1 w0 w1 => as_ne h8.1 m0 ⟨w0, w1⟩ (by omega)
  have nn : ∀ m : Int, 0 ≤ m → m < f 1 → oF f m 0 ≠ f 2 := fun m m0 m1 => by
    have := (kWf_m q.2.2 m0 m1).2.1
    omega
  obtain ⟨a0, a1, a2, a3⟩ := as_4 (f := f) (host := hs) (q := a) (k := k) (t := t) (n := n) (rm := rm) h8.1
  obtain ⟨d0, d1, d2, d3⟩ := as_dt (f := f) (host := hs) (q := a) (k := k) (t := t) (n := n) (rm := rm) h8.1
  obtain ⟨-, z2, z3, z4, z5, z6⟩ := q.2.1
  obtain ⟨s0, s1, s2, s3⟩ := hsc
  have hin : ∀ m d : Int, inP (askF f hs a k t n rm) m d ↔ inP f m d ∨ (m = f 1 ∧ d = 0) := fun m d => by
    unfold inP
    rw [l1]
    constructor
    · rintro ⟨b0, b1, b2, b3⟩
      by_cases c : m = f 1
      · rw [c, a3] at b3
        exact Or.inr ⟨c, by omega⟩
      · rw [ne m 3 b0 (by omega) (by decide) (by decide)] at b3
        exact Or.inl ⟨b0, by omega, b2, b3⟩
    · rintro (⟨b0, b1, b2, b3⟩ | ⟨c, e⟩)
      · exact ⟨b0, by omega, b2, by rw [ne m 3 b0 b1 (by decide) (by decide)]; exact b3⟩
      · rw [c, e, a3]
        exact ⟨h8.1, by omega, by decide, by decide⟩
  refine ⟨⟨?_, ?_, ?_, ?_⟩, fun r r0 r1 => ?_, ?_, fun m m0 m1 => ?_, fun m d hi => ?_, fun k' k0 k1 => ?_⟩
  · rw [lo 0 (by decide)]; exact s0
  · rw [lo 2 (by decide)]; exact s1
  · rw [lo 3 (by decide)]; exact s2
  · rw [lo 4 (by decide)]; exact s3
  · rw [lo _ (by omega), lo _ (by omega), if_neg (by omega), if_neg (by omega), if_neg (by omega), if_neg (by omega)]
    exact z2 r r0 r1
  · show aMl A ++ [f 2] = _
    rw [z3, l1, show (f 1 + 1).toNat = (f 1).toNat + 1 by omega, List.range_succ, List.map_append]
    congr 1
    · exact List.map_congr_left fun m hm => (ne (m : Int) 0 (by omega) (by have := List.mem_range.mp hm; omega) (by decide) (by decide)).symm
    · show [f 2] = [oF (askF f hs a k t n rm) (((f 1).toNat : Nat) : Int) 0]
      rw [Int.toNat_of_nonneg h8.1, a0]
  · rw [l1] at m1
    by_cases c : m = f 1
    · subst c
      obtain ⟨n1, n2, n3, n4, n5, n6⟩ := hnew
      have h2 : 2 ^ hs.toNat < 64 := k2p_lt (by omega)
      have e1 : kmk (fun p : Nat => oF (askF f hs a k t n rm) (f 1) (4 + (p : Int)) ≠ 45) 6 = kdf a (2 ^ hs.toNat) := kset_eq (kmk_lt _ 6) (kdf_lt ha) fun p hp => by
        rw [kmk_bit, kdf_bit ha, as_an h8.1 hp, Nat.testBit_two_pow, decide_eq_true_eq]
        by_cases c : (p : Int) ≠ hs ∧ a.testBit p = true
        · rw [kI_t c]
          exact ⟨fun _ => ⟨c.2, by omega⟩, fun _ => ⟨hp, by decide⟩⟩
        · rw [kI_f c]
          exact ⟨fun z => absurd rfl z.2, fun z => absurd ⟨by omega, z.1⟩ c⟩
      have e2 : ∀ x : Int, x = 121 ∨ x = 110 → kmk (fun p : Nat => oF (askF f hs a k t n rm) (f 1) (4 + (p : Int)) = x) 6 = 0 := fun x hx => kset_eq (kmk_lt _ 6) (by decide) fun p hp => by
        rw [kmk_bit, as_an h8.1 hp, Nat.zero_testBit]
        refine ⟨fun z => ?_, fun z => by cases z⟩
        have z2 := z.2
        by_cases c : (p : Int) ≠ hs ∧ a.testBit p = true
        · rw [kI_t c] at z2; omega
        · rw [kI_f c] at z2; omega
      rw [a0, a1, a3, e1, e2 121 (Or.inl rfl), e2 110 (Or.inr rfl)]
      exact ⟨n6, n1, n2, n3, n4, congrArg (fun x : Nat => (x : Int)) n5⟩
    · have m1' : m < f 1 := by omega
      have e1 : ∀ P : Int → Prop, kmk (fun p : Nat => P (oF (askF f hs a k t n rm) m (4 + (p : Int)))) 6 = kmk (fun (p : Nat) => P (oF f m (4 + (p : Int)))) 6 := fun P => kmk_cg fun p hp => by rw [ne m _ m0 m1' (by omega) (by omega)]
      obtain ⟨o1, o2, o3, o4, o5, o6, -⟩ := hold (oF f m 0) (nn m m0 m1')
      obtain ⟨u1, u2, u3, u4, u5, u6⟩ := z4 m m0 m1'
      rw [ne m 0 m0 m1' (by decide) (by decide), ne m 1 m0 m1' (by decide) (by decide), ne m 3 m0 m1' (by decide) (by decide), e1 (fun x => x ≠ 45), e1 (fun x => x = 121), e1 (fun x => x = 110)]
      exact ⟨o6 u1, o1.trans u2, o2.trans u3, o3.trans u4, o4.trans u5, (congrArg (fun x : Nat => (x : Int)) o5).trans u6⟩
  · rcases (hin m d).mp hi with hi | ⟨c, e⟩
    · have h6 := (rp_lv q hi).2.2
      have h7 := hi.2.2.1
      obtain ⟨-, -, -, -, -, -, o7⟩ := hold (oF f m 0) (nn m hi.1 hi.2.1)
      unfold dF
      rw [ne m 0 hi.1 hi.2.1 (by decide) (by decide), ne m 2 hi.1 hi.2.1 (by decide) (by decide), ne m _ hi.1 hi.2.1 (by omega) (by omega), ne m _ hi.1 hi.2.1 (by omega) (by omega), ne m _ hi.1 hi.2.1 (by omega) (by omega), ne m _ hi.1 hi.2.1 (by omega) (by omega)]
      show dt _ _ _ = _ ∧ dt _ _ _ = _ ∧ dt _ _ _ = _ ∧ dt _ _ _ = _ ∧ dt _ _ _ = _
      rw [o7, o7, o7, o7, o7]
      exact z5 m d hi
    · rw [c, e, a0, a2, d0, d1, d2, d3]
      exact hdt
  · obtain ⟨u1, u2, u3⟩ := hx k' k0 k1
    obtain ⟨-, -, v3⟩ := z6 k' k0 k1
    refine ⟨u1, u2, fun x => (u3 x).trans ⟨?_, ?_⟩⟩
    · rintro (y | ⟨y1, y2⟩)
      · obtain ⟨m, w1, w2, w3, w4⟩ := (v3 x).mp y
        have h6 := (rp_lv q w1).2.2
        have h7 := w1.2.2.1
        refine ⟨m, (hin _ _).mpr (Or.inl w1), by rw [ne m 0 w1.1 w1.2.1 (by decide) (by decide)]; exact w2, ?_, ?_⟩
        · unfold onF dF at w3 ⊢
          rw [ne m _ w1.1 w1.2.1 (by omega) (by omega)]; exact w3
        · unfold dF at w4 ⊢
          rw [ne m _ w1.1 w1.2.1 (by omega) (by omega)]; exact w4
      · subst y1
        exact ⟨f 1, (hin _ _).mpr (Or.inr ⟨rfl, rfl⟩), a0.symm, d2, d0.trans y2⟩
    · rintro ⟨m, w1, w2, w3, w4⟩
      rcases (hin _ _).mp w1 with w1 | ⟨c, e⟩
      · left
        have h6 := (rp_lv q w1).2.2
        have h7 := w1.2.2.1
        rw [ne m 0 w1.1 w1.2.1 (by decide) (by decide)] at w2
        unfold onF dF at w3
        unfold dF at w4
        rw [ne m _ w1.1 w1.2.1 (by omega) (by omega)] at w3 w4
        exact (v3 x).mpr ⟨m, w1, w2, w3, w4⟩
      · right
        rw [c, a0] at w2
        rw [c, e, d0] at w4
        exact ⟨Prod.ext w2 e, w4⟩
theorem rl_ext (q : kRp G h pl γ A f) {m k9 : Int} {e : Nat} (hm : 0 ≤ m ∧ m < f 1) (he : oF f m 3 + (e : Int) ≤ 6) {mnf : Int → Nat} {dt : Int → Int → Nat → Int} {dx : Int → List (Int × Int)}
    (hmn : mnf (oF f m 0) = aMn A (oF f m 0) + e ∧ ∀ i : Int, i ≠ oF f m 0 → mnf i = aMn A i)
    (hdo : ∀ i d : Int, (i ≠ oF f m 0 ∨ d < oF f m 3) → ∀ w : Nat, dt i d w = aDt A i d w)
    (hdn : ∀ x : Nat, x < e → dt (oF f m 0) (oF f m 3 + (x : Int)) 0 = dF f m (oF f m 3 - 1) 0 + k9 * ((x : Int) + 1) ∧ dt (oF f m 0) (oF f m 3 + (x : Int)) 1 = dF f m (oF f m 3 - 1) 1 ∧ dt (oF f m 0) (oF f m 3 + (x : Int)) 2 = 0 ∧ dt (oF f m 0) (oF f m 3 + (x : Int)) 3 = exS f m k9 0 ((x : Int) + 1) ∧ dt (oF f m 0) (oF f m 3 + (x : Int)) 4 = oF f m 2)
    (hx : ∀ k' : Int, 0 ≤ k' → k' < 28 → (dx k').Nodup ∧ (dx k').Pairwise (fun q q' => dt q.1 q.2 1 ≤ dt q'.1 q'.2 1) ∧ ∀ x : Int × Int, x ∈ dx k' ↔ x ∈ aDx A k' ∨ ∃ j : Nat, j < e ∧ x = (oF f m 0, oF f m 3 + (j : Int)) ∧ dF f m (oF f m 3 - 1) 0 + k9 * ((j : Int) + 1) = k') :
    kRl (A.1, A.2.1, A.2.2.1, A.2.2.2.1, A.2.2.2.2.1, A.2.2.2.2.2.1, A.2.2.2.2.2.2.1, A.2.2.2.2.2.2.2.1, mnf, dt, dx, A.2.2.2.2.2.2.2.2.2.2.2) (lyF (exF2 f m k9 e) m 3 (oF f m 3 - 1 + 1 + (e : Int))) := by
  have h8 := kWf_cnt q.2.2
  have g := kWf_m q.2.2 hm.1 hm.2
  have hc : 1 ≤ oF f m 3 ∧ oF f m 3 + (e : Int) ≤ 6 := ⟨by omega, he⟩
  have lo : ∀ j : Nat, j < 20 → lyF (exF2 f m k9 e) m 3 (oF f m 3 - 1 + 1 + (e : Int)) j = f j := fun j hj => by rw [ly_lo hm.1 (by decide) hj, ex_lo hm.1 hc.1 hj]
  have l1 := lo 1 (by decide)
  have ro : ∀ m' w : Int, 0 ≤ m' → 0 ≤ w → w < 40 → ¬ (m' = m ∧ (w = 3 ∨ (10 + 4 * oF f m 3 ≤ w ∧ w < 10 + 4 * (oF f m 3 + (e : Int))))) → oF (lyF (exF2 f m k9 e) m 3 (oF f m 3 - 1 + 1 + (e : Int))) m' w = oF f m' w := fun m' w a b c d => by
    rw [oF_ly hm.1 (by decide) a ⟨b, c⟩, if_neg (fun y => d ⟨y.1, Or.inl y.2⟩), ex_oF hm.1 hc a ⟨b, c⟩ (fun y => d ⟨y.1, Or.inr y.2⟩)]
  have r3 : oF (lyF (exF2 f m k9 e) m 3 (oF f m 3 - 1 + 1 + (e : Int))) m 3 = oF f m 3 + (e : Int) := by
    rw [oF_ly hm.1 (by decide) hm.1 (by decide), if_pos ⟨rfl, rfl⟩]
    omega
  have rd : ∀ j : Nat, j < e → dF (lyF (exF2 f m k9 e) m 3 (oF f m 3 - 1 + 1 + (e : Int))) m (oF f m 3 + (j : Int)) 0 = dF f m (oF f m 3 - 1) 0 + k9 * ((j : Int) + 1) ∧ dF (lyF (exF2 f m k9 e) m 3 (oF f m 3 - 1 + 1 + (e : Int))) m (oF f m 3 + (j : Int)) 1 = dF f m (oF f m 3 - 1) 1 ∧ dF (lyF (exF2 f m k9 e) m 3 (oF f m 3 - 1 + 1 + (e : Int))) m (oF f m 3 + (j : Int)) 2 = 0 ∧ dF (lyF (exF2 f m k9 e) m 3 (oF f m 3 - 1 + 1 + (e : Int))) m (oF f m 3 + (j : Int)) 3 = exS f m k9 0 ((j : Int) + 1) := fun j hj => by
    have z := ex_dt (f := f) (k := k9) hm.1 hc hj
    unfold dF at z ⊢
    rw [oF_ly hm.1 (by decide) hm.1 (by omega), if_neg (by omega), oF_ly hm.1 (by decide) hm.1 (by omega), if_neg (by omega), oF_ly hm.1 (by decide) hm.1 (by omega), if_neg (by omega), oF_ly hm.1 (by decide) hm.1 (by omega), if_neg (by omega)]
    exact z
  obtain ⟨⟨z10, z11, z12, z13⟩, z2, z3, z4, z5, z6⟩ := q.2.1
  have hin : ∀ m' d : Int, inP (lyF (exF2 f m k9 e) m 3 (oF f m 3 - 1 + 1 + (e : Int))) m' d ↔ inP f m' d ∨ (m' = m ∧ ∃ j : Nat, j < e ∧ d = oF f m 3 + (j : Int)) := fun m' d => by
    unfold inP
    rw [l1]
    constructor
    · rintro ⟨b0, b1, b2, b3⟩
      by_cases c : m' = m
      · subst c
        rw [r3] at b3
        by_cases c2 : d < oF f m' 3
        · exact Or.inl ⟨b0, b1, b2, c2⟩
        · exact Or.inr ⟨rfl, (d - oF f m' 3).toNat, by omega, by omega⟩
      · rw [ro m' 3 b0 (by decide) (by decide) (fun y => c y.1)] at b3
        exact Or.inl ⟨b0, b1, b2, b3⟩
    · rintro (⟨b0, b1, b2, b3⟩ | ⟨c, j, hj, ej⟩)
      · by_cases c : m' = m
        · subst c
          exact ⟨b0, b1, b2, by rw [r3]; omega⟩
        · exact ⟨b0, b1, b2, by rw [ro m' 3 b0 (by decide) (by decide) (fun y => c y.1)]; exact b3⟩
      · subst c
        exact ⟨hm.1, hm.2, by omega, by rw [r3]; omega⟩
  have rold : ∀ m' d w : Int, inP f m' d → 0 ≤ w → w < 4 → dF (lyF (exF2 f m k9 e) m 3 (oF f m 3 - 1 + 1 + (e : Int))) m' d w = dF f m' d w := fun m' d w hi w0 w1 => by
    have h6 := (rp_lv q hi).2.2
    have h7 := hi.2.2.1
    have h9 := hi.2.2.2
    unfold dF
    exact ro m' _ hi.1 (by omega) (by omega) (fun y => by
      obtain ⟨y1, y2⟩ := y
      rw [y1] at h9
      omega)
  refine ⟨⟨z10.trans (lo 0 (by decide)).symm, z11.trans (lo 2 (by decide)).symm, z12.trans (lo 3 (by decide)).symm, z13.trans (lo 4 (by decide)).symm⟩, fun r r0 r1 => ?_, ?_, fun m' m0 m1 => ?_, fun m' d hi => ?_, fun k' k0 k1 => ?_⟩
  · rw [lo _ (by omega), lo _ (by omega)]
    exact z2 r r0 r1
  · show aMl A = _
    rw [z3, l1]
    exact List.map_congr_left fun i hi => (ro (i : Int) 0 (by omega) (by decide) (by decide) (by omega)).symm
  · rw [l1] at m1
    have e1 : ∀ P : Int → Prop, kmk (fun p : Nat => P (oF (lyF (exF2 f m k9 e) m 3 (oF f m 3 - 1 + 1 + (e : Int))) m' (4 + (p : Int)))) 6 = kmk (fun (p : Nat) => P (oF f m' (4 + (p : Int)))) 6 := fun P => kmk_cg fun p hp => by rw [ro m' _ m0 (by omega) (by omega) (by omega)]
    obtain ⟨u1, u2, u3, u4, u5, u6⟩ := z4 m' m0 m1
    rw [ro m' 0 m0 (by decide) (by decide) (by omega), ro m' 1 m0 (by decide) (by decide) (by omega), e1 (fun x => x ≠ 45), e1 (fun x => x = 121), e1 (fun x => x = 110)]
    refine ⟨u1, u2, u3, u4, u5, ?_⟩
    show ((mnf (oF f m' 0) : Nat) : Int) = _
    by_cases c : m' = m
    · subst c
      rw [r3, hmn.1]
      have u6' : ((aMn A (oF f m' 0) : Nat) : Int) = oF f m' 3 := u6
      omega
    · rw [ro m' 3 m0 (by decide) (by decide) (fun y => c y.1), hmn.2 _ (fun y => c (rp_num q m0 m1 hm.1 hm.2 y))]
      exact u6
  · rcases (hin m' d).mp hi with hi | ⟨c, j, hj, ej⟩
    · rw [rold _ _ 0 hi (by decide) (by decide), rold _ _ 1 hi (by decide) (by decide), rold _ _ 2 hi (by decide) (by decide), rold _ _ 3 hi (by decide) (by decide), ro m' 0 hi.1 (by decide) (by decide) (by omega), ro m' 2 hi.1 (by decide) (by decide) (by omega)]
      have hh : oF f m' 0 ≠ oF f m 0 ∨ d < oF f m 3 := by
        by_cases c : m' = m
        · right; rw [← c]; exact hi.2.2.2
        · left; exact fun y => c (rp_num q hi.1 hi.2.1 hm.1 hm.2 y)
      show dt _ _ _ = _ ∧ dt _ _ _ = _ ∧ dt _ _ _ = _ ∧ dt _ _ _ = _ ∧ dt _ _ _ = _
      rw [hdo _ _ hh, hdo _ _ hh, hdo _ _ hh, hdo _ _ hh, hdo _ _ hh]
      exact z5 m' d hi
    · subst c
      subst ej
      obtain ⟨v0, v1, v2, v3⟩ := rd j hj
      rw [v0, v1, v2, v3, ro m' 0 hm.1 (by decide) (by decide) (by omega), ro m' 2 hm.1 (by decide) (by decide) (by omega)]
      exact hdn j hj
  · obtain ⟨u1, u2, u3⟩ := hx k' k0 k1
    obtain ⟨-, -, v3⟩ := z6 k' k0 k1
    refine ⟨u1, u2, fun x => (u3 x).trans ⟨?_, ?_⟩⟩
    · rintro (y | ⟨j, hj, y1, y2⟩)
      · obtain ⟨m', w1, w2, w3, w4⟩ := (v3 x).mp y
        exact ⟨m', (hin _ _).mpr (Or.inl w1), by rw [ro m' 0 w1.1 (by decide) (by decide) (by omega)]; exact w2, (rold _ _ 2 w1 (by decide) (by decide)).trans w3, (rold _ _ 0 w1 (by decide) (by decide)).trans w4⟩
      · subst y1
        obtain ⟨v0, v1, v2, -⟩ := rd j hj
        exact ⟨m, (hin _ _).mpr (Or.inr ⟨rfl, j, hj, rfl⟩), (ro m 0 hm.1 (by decide) (by decide) (by omega)).symm, v2, v0.trans y2⟩
    · rintro ⟨m', w1, w2, w3, w4⟩
      rcases (hin _ _).mp w1 with w1 | ⟨c, j, hj, ej⟩
      · left
        rw [ro m' 0 w1.1 (by decide) (by decide) (by omega)] at w2
        exact (v3 x).mpr ⟨m', w1, w2, (rold _ _ 2 w1 (by decide) (by decide)).symm.trans w3, (rold _ _ 0 w1 (by decide) (by decide)).symm.trans w4⟩
      · right
        rw [c, ro m 0 hm.1 (by decide) (by decide) (by omega)] at w2
        rw [c, ej] at w4
        exact ⟨j, hj, Prod.ext w2 ej, (rd j hj).1.symm.trans w4⟩
end KAE
