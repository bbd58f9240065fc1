/-! ===== the class: reading its objects; what its searches find ===== -/
theorem kset1_q {L : List (Option Value)} {i : Nat} {v : Value} {r : Option Nat} (h : L[i]? = some (some (va_rf r))) : kset1 L (i + 1) v = L.set (i + 1) (some v) := by
  have e : kclr L (i + 1) = L := by
    rw [kclr, h]
    cases r <;> rfl
  rw [kset1, e]
def kTh (E0 : String) (h : kAH) : String → kAH → Prop := fun E h' => E = E0 ∧ h' = h
def kNv : Option Value → kAH → Prop := fun _ _ => False
-- a date is left out, or none is
def kLv (γ : kGh) (f : Nat → Int) (lo : Option Nat) (wm wd : Int) : Prop := ∀ m d : Int, inP f m d → (some (gDt γ (oF f m 0) d) = lo ↔ m = wm ∧ d = wd)
def kJo (γ : kGh) (f : Nat → Int) (jo : Option Nat) (jm : Int) : Prop := ∀ m : Int, 0 ≤ m → m < f 1 → (some (gMt γ (oF f m 0)) = jo ↔ m = jm)
theorem kLv_none {γ : kGh} {f : Nat → Int} : kLv γ f none (-1) (-1) := fun m d hi => ⟨fun z => (nomatch z), fun z => absurd z.1 (by have := hi.1; omega)⟩
theorem kJo_none {γ : kGh} {f : Nat → Int} : kJo γ f none (-1) := fun m h0 h1 => ⟨fun z => (nomatch z), fun z => absurd z (by omega)⟩
-- what busyPeople gathers
noncomputable def bpF (f : Nat → Int) (wm wd k t n : Int) : Nat := kmk (fun p => bsP f wm wd k t n (p : Int)) 6
def tkP (f : Nat → Int) (wm wd rm k t n m d : Int) : Prop := ctF f wm wd m d k ∧ dF f m d 3 = rm ∧ btF f m d t n < 0
def tkF (f : Nat → Int) (wm wd rm k t n : Int) : Prop := ∃ m d : Int, inP f m d ∧ tkP f wm wd rm k t n m d
def wcP (f : Nat → Int) (wm wd jm : Int) (q : Nat) (rm k t n m d : Int) : Prop := ctF f wm wd m d k ∧ (m = jm ∨ ∃ p : Nat, p < 6 ∧ exF f m (p : Int) ∧ q.testBit p = true) ∧ tnP f rm m d (btF f m d t n)
def wcF (f : Nat → Int) (wm wd jm : Int) (q : Nat) (rm k t n : Int) : Prop := ∃ m d : Int, inP f m d ∧ wcP f wm wd jm q rm k t n m d
theorem fit_iff {f : Nat → Int} {wm wd rm : Int} {q : Nat} {k t n : Int} : fitF f wm wd rm q k t n ↔ kpo q 6 ≤ f (5 + rm).toNat ∧ ¬ tkF f wm wd rm k t n ∧ ¬ wcF f wm wd (-1) q rm k t n := by
  constructor
  · rintro ⟨h1, h2⟩
    refine ⟨h1, ?_, ?_⟩
    · rintro ⟨m, d, hi, z1, z2, z3⟩
      exact h2 m d hi ⟨z1, Or.inl ⟨z2, z3⟩⟩
    · rintro ⟨m, d, hi, z1, z2, z3⟩
      rcases z2 with z2 | z2
      · exact absurd hi.1 (by omega)
      · exact h2 m d hi ⟨z1, Or.inr ⟨z2, z3⟩⟩
  · rintro ⟨h1, h2, h3⟩
    refine ⟨h1, fun m d hi z => ?_⟩
    rcases z with ⟨z1, ⟨z2, z3⟩ | ⟨z2, z3⟩⟩
    · exact h2 ⟨m, d, hi, z1, z2, z3⟩
    · exact h3 ⟨m, d, hi, z1, Or.inr z2, z3⟩
def brF (γ : kGh) (s : Int) : Option Nat := if s < 0 then none else some (gRm γ s)
-- the times between two slots as the class counts them
noncomputable def bwF (f : Nat → Int) (m d t n : Int) : Int := kI (dF f m d 1 - (t + n) < t - (dF f m d 1 + oF f m 2)) (t - (dF f m d 1 + oF f m 2)) (dF f m d 1 - (t + n))
theorem bw_neg {f : Nat → Int} {m d t n : Int} (hl : 1 ≤ oF f m 2) (hn : 1 ≤ n) : bwF f m d t n < 0 ↔ btF f m d t n < 0 := by
  rw [btF_neg]
  unfold bwF
  by_cases c : dF f m d 1 - (t + n) < t - (dF f m d 1 + oF f m 2)
  · rw [kI_t c]; omega
  · rw [kI_f c]; omega
theorem bw_gap {f : Nat → Int} {m d t n g : Int} (hl : 1 ≤ oF f m 2) (hn : 1 ≤ n) (hg : 0 ≤ g) : bwF f m d t n < g ↔ btF f m d t n < g := by
  unfold bwF btF
  by_cases c : dF f m d 1 - (t + n) < t - (dF f m d 1 + oF f m 2)
  · rw [kI_t c]
    by_cases c2 : t ≤ dF f m d 1
    · rw [kI_t c2]; omega
    · rw [kI_f c2]; omega
  · rw [kI_f c]
    by_cases c2 : t ≤ dF f m d 1
    · rw [kI_t c2]; omega
    · rw [kI_f c2]; omega
theorem bw_r {f : Nat → Int} {m d t n : Int} (h1 : 0 ≤ dF f m d 1 ∧ dF f m d 1 ≤ 16) (h2 : 0 ≤ oF f m 2 ∧ oF f m 2 ≤ 6) (h3 : 0 ≤ t ∧ t ≤ 16) (h4 : 0 ≤ n ∧ n ≤ 16) : -100 ≤ bwF f m d t n ∧ bwF f m d t n ≤ 100 := by
  unfold bwF
  by_cases c : dF f m d 1 - (t + n) < t - (dF f m d 1 + oF f m 2)
  · rw [kI_t c]; omega
  · rw [kI_f c]; omega
-- a search over a day's list: what was met so far, what is met by the end
section KQ2
variable {G : kG} {h : kAH} {pl : Nat} {γ : kGh} {A : kAb} {f : Nat → Int} {k : Int}
-- the dates of day k before the i-th of its list
def dyP (A : kAb) (f : Nat → Int) (k : Int) (i : Nat) (m d : Int) : Prop := inP f m d ∧ ∃ j : Nat, j < i ∧ (aDx A k)[j]? = some (oF f m 0, d)
theorem dy_0 {m d : Int} : ¬ dyP A f k 0 m d := fun ⟨_, j, hj, _⟩ => absurd hj (Nat.not_lt_zero j)
theorem dy_s (q : kRp G h pl γ A f) {i : Nat} {m d m' d' : Int} (hi : inP f m d) (hx : (aDx A k)[i]? = some (oF f m 0, d)) : dyP A f k (i + 1) m' d' ↔ dyP A f k i m' d' ∨ (m' = m ∧ d' = d) := by
  constructor
  · rintro ⟨h1, j, hj, h2⟩
    by_cases e : j = i
    · subst e
      rw [hx] at h2
      have e2 := Option.some.inj h2
      have e3 : oF f m 0 = oF f m' 0 := congrArg Prod.fst e2
      have e4 : d = d' := congrArg Prod.snd e2
      exact Or.inr ⟨(rp_num q hi.1 hi.2.1 h1.1 h1.2.1 e3).symm, e4.symm⟩
    · exact Or.inl ⟨h1, j, by omega, h2⟩
  · rintro (⟨h1, j, hj, h2⟩ | ⟨rfl, rfl⟩)
    · exact ⟨h1, j, by omega, h2⟩
    · exact ⟨hi, i, by omega, hx⟩
theorem dy_e (q : kRp G h pl γ A f) (h0 : 0 ≤ k) (h1 : k < 28) {i : Nat} (hi : i = (aDx A k).length) {m d : Int} : dyP A f k i m d ↔ inP f m d ∧ onF f m d ∧ dF f m d 0 = k := by
  constructor
  · rintro ⟨g1, j, hj, g2⟩
    obtain ⟨m', d', u1, u2, u3, u4⟩ := rp_at q h0 h1 (i := j) (by omega)
    rw [u4] at g2
    have e2 := Option.some.inj g2
    have e3 : oF f m' 0 = oF f m 0 := congrArg Prod.fst e2
    have e4 : d' = d := congrArg Prod.snd e2
    have e5 := rp_num q u1.1 u1.2.1 g1.1 g1.2.1 e3
    subst e4; subst e5
    exact ⟨u1, u2, u3⟩
  · rintro ⟨g1, g2, g3⟩
    obtain ⟨j, hj, g4⟩ := rp_in q h0 h1 g1 g2 g3
    exact ⟨g1, j, by omega, g4⟩
-- nothing of a kind was met
def dnI (A : kAb) (f : Nat → Int) (k : Int) (B : Int → Int → Prop) (i : Nat) : Prop := ∀ m d : Int, dyP A f k i m d → ¬ B m d
theorem dn_0 {B : Int → Int → Prop} : dnI A f k B 0 := fun m d z => absurd z dy_0
theorem dn_s (q : kRp G h pl γ A f) {B : Int → Int → Prop} {i : Nat} {m d : Int} (hi : inP f m d) (hx : (aDx A k)[i]? = some (oF f m 0, d)) (z : dnI A f k B i) (hb : ¬ B m d) : dnI A f k B (i + 1) := by
  intro m' d' g
  rcases (dy_s q hi hx).mp g with g | ⟨rfl, rfl⟩
  · exact z _ _ g
  · exact hb
theorem dn_e (q : kRp G h pl γ A f) (h0 : 0 ≤ k) (h1 : k < 28) {B : Int → Int → Prop} {i : Nat} (hi : i = (aDx A k).length) (z : dnI A f k B i) {m d : Int} (g1 : inP f m d) (g2 : onF f m d) (g3 : dF f m d 0 = k) : ¬ B m d := z m d ((dy_e q h0 h1 hi).mpr ⟨g1, g2, g3⟩)
-- people met
def dbI (A : kAb) (f : Nat → Int) (k : Int) (B : Int → Int → Prop) (i b : Nat) : Prop := b < 64 ∧ ∀ p : Nat, p < 6 → (b.testBit p = true ↔ ∃ m d : Int, dyP A f k i m d ∧ B m d ∧ exF f m (p : Int))
theorem db_0 {B : Int → Int → Prop} : dbI A f k B 0 0 := ⟨by omega, fun p hp => ⟨fun z => (by rw [Nat.zero_testBit] at z; cases z), fun ⟨m, d, z, _⟩ => absurd z dy_0⟩⟩
theorem db_skip (q : kRp G h pl γ A f) {B : Int → Int → Prop} {i b : Nat} {m d : Int} (hi : inP f m d) (hx : (aDx A k)[i]? = some (oF f m 0, d)) (z : dbI A f k B i b) (hb : ¬ B m d) : dbI A f k B (i + 1) b := by
  refine ⟨z.1, fun p hp => (z.2 p hp).trans ⟨fun ⟨m', d', g1, g2⟩ => ⟨m', d', (dy_s q hi hx).mpr (Or.inl g1), g2⟩, fun ⟨m', d', g1, g2⟩ => ⟨m', d', ?_, g2⟩⟩⟩
  rcases (dy_s q hi hx).mp g1 with g | ⟨rfl, rfl⟩
  · exact g
  · exact absurd g2.1 hb
theorem db_take (q : kRp G h pl γ A f) {B : Int → Int → Prop} {i b : Nat} {m d : Int} (hi : inP f m d) (hx : (aDx A k)[i]? = some (oF f m 0, d)) (z : dbI A f k B i b) (hb : B m d) : dbI A f k B (i + 1) (b ||| exM (oF f m 1) (aAk A (oF f m 0)) (aNo A (oF f m 0))) := by
  rw [rp_ex q hi.1 hi.2.1]
  refine ⟨kor_lt z.1 (ppF_lt f m), fun p hp => ?_⟩
  rw [Nat.testBit_or, Bool.or_eq_true, z.2 p hp, ppF_bit hp]
  constructor
  · rintro (⟨m', d', g1, g2⟩ | g)
    · exact ⟨m', d', (dy_s q hi hx).mpr (Or.inl g1), g2⟩
    · exact ⟨m, d, (dy_s q hi hx).mpr (Or.inr ⟨rfl, rfl⟩), hb, g⟩
  · rintro ⟨m', d', g1, g2, g3⟩
    rcases (dy_s q hi hx).mp g1 with g | ⟨rfl, rfl⟩
    · exact Or.inl ⟨m', d', g, g2, g3⟩
    · exact Or.inr g3
end KQ2
theorem nd_len : ∀ (N : Nat) (xs : List Nat), xs.Nodup → (∀ x ∈ xs, x < N) → xs.length ≤ N
  | 0, [], _, _ => Nat.le_refl _
  | 0, x :: xs, _, h => absurd (h x List.mem_cons_self) (Nat.not_lt_zero x)
  | N + 1, xs, hn, h => by
    have ih := nd_len N (xs.erase N) (hn.erase N) (fun x hx => by
      have h1 := (List.Nodup.mem_erase_iff hn).mp hx
      have := h x h1.2
      have := h1.1
      omega)
    rw [List.length_erase] at ih
    split at ih <;> omega
theorem rp_len {G : kG} {h : kAH} {pl : Nat} {γ : kGh} {A : kAb} {f : Nat → Int} (q : kRp G h pl γ A f) {k : Int} (h0 : 0 ≤ k) (h1 : k < 28) : (aDx A k).length ≤ 48 := by
  obtain ⟨z1, -, z2⟩ := q.2.1.2.2.2.2.2 k h0 h1
  have hc := kWf_cnt q.2.2
  have key : ∀ x ∈ aDx A k, 0 ≤ atF f x.1 ∧ atF f x.1 < f 1 ∧ oF f (atF f x.1) 0 = x.1 ∧ 0 ≤ x.2 ∧ x.2 < 6 := by
    intro x hx
    obtain ⟨m, u1, u2, u3, u4⟩ := (z2 x).mp hx
    have g := kWf_m q.2.2 u1.1 u1.2.1
    have g3 := u1.2.2.1
    have g4 := u1.2.2.2
    rcases atF_r (n := x.1) hc.1 with ⟨-, c⟩ | c
    · exact absurd u2.symm (c m u1.1 u1.2.1)
    · exact ⟨c.1, c.2.1, c.2.2, g3, by omega⟩
  have e := nd_len 48 ((aDx A k).map fun x => (6 * atF f x.1 + x.2).toNat) ?_ ?_
  · rw [List.length_map] at e; exact e
  · refine List.pairwise_map.mpr (List.Pairwise.imp_of_mem ?_ z1)
    intro a b ha hb hab e
    obtain ⟨a1, a2, a3, a4, a5⟩ := key a ha
    obtain ⟨b1, b2, b3, b4, b5⟩ := key b hb
    have e1 : atF f a.1 = atF f b.1 := by omega
    refine hab (Prod.ext ?_ (by omega))
    rw [← a3, ← b3, e1]
  · intro x hx
    obtain ⟨y, hy, rfl⟩ := List.mem_map.mp hx
    obtain ⟨a1, a2, a3, a4, a5⟩ := key y hy
    omega
