/-! ===== the reference's loops over all dates: what they gather, step by step ===== -/
-- the pairs before (m, d), in the order of the loops
def lxP (f : Nat → Int) (m d m' d' : Int) : Prop := (0 ≤ m' ∧ m' < m ∧ 0 ≤ d' ∧ d' < oF f m' 3) ∨ (m' = m ∧ 0 ≤ d' ∧ d' < d)
-- a date of a meeting
def inP (f : Nat → Int) (m d : Int) : Prop := 0 ≤ m ∧ m < f 1 ∧ 0 ≤ d ∧ d < oF f m 3
theorem lx_0 {f : Nat → Int} {m' d' : Int} : ¬ lxP f 0 0 m' d' := by
  unfold lxP; omega
theorem lx_s {f : Nat → Int} {m d m' d' : Int} (hd : 0 ≤ d) : lxP f m (d + 1) m' d' ↔ lxP f m d m' d' ∨ (m' = m ∧ d' = d) := by
  unfold lxP; omega
theorem lx_n {f : Nat → Int} {m d m' d' : Int} (hm : 0 ≤ m) (hd : d = oF f m 3) : lxP f (m + 1) 0 m' d' ↔ lxP f m d m' d' := by
  unfold lxP
  constructor
  · rintro (⟨h1, h2, h3, h4⟩ | ⟨h1, h2, h3⟩)
    · by_cases e : m' = m
      · subst e; exact Or.inr ⟨rfl, h3, by omega⟩
      · exact Or.inl ⟨h1, by omega, h3, h4⟩
    · omega
  · rintro (⟨h1, h2, h3, h4⟩ | ⟨h1, h2, h3⟩)
    · exact Or.inl ⟨h1, by omega, h3, h4⟩
    · subst h1; exact Or.inl ⟨hm, by omega, h2, by omega⟩
theorem lx_e {f : Nat → Int} {m m' d' : Int} (hm : m = f 1) : lxP f m 0 m' d' ↔ inP f m' d' := by
  unfold lxP inP; omega
theorem btF_r {f : Nat → Int} (hW : kWf f) {m d t n : Int} (hi : inP f m d) (ht : 0 ≤ t ∧ t < 16) (hn : 1 ≤ n ∧ n ≤ 6) : -30 ≤ btF f m d t n ∧ btF f m d t n ≤ 30 := by
  have h1 := kWf_d hW hi.1 hi.2.1 hi.2.2.1 hi.2.2.2
  have h2 := kWf_m hW hi.1 hi.2.1
  unfold btF
  by_cases c : t ≤ dF f m d 1
  · rw [kI_t c]; omega
  · rw [kI_f c]; omega
theorem btF_neg {f : Nat → Int} {m d t n : Int} : btF f m d t n < 0 ↔ dF f m d 1 < t + n ∧ t < dF f m d 1 + oF f m 2 ∨ (t ≤ dF f m d 1 ∧ dF f m d 1 < t + n) ∨ (dF f m d 1 < t ∧ t < dF f m d 1 + oF f m 2) := by
  unfold btF
  by_cases c : t ≤ dF f m d 1
  · rw [kI_t c]; omega
  · rw [kI_f c]; omega
-- what busy looks for
def bsP (f : Nat → Int) (wm wd k t n : Int) (p : Int) : Prop := ∃ m d : Int, inP f m d ∧ ctF f wm wd m d k ∧ btF f m d t n < 0 ∧ exF f m p
noncomputable def bsyF (f : Nat → Int) (wm wd : Int) (q : Nat) (k t n : Int) : Int := kls (fun p => q.testBit p = true ∧ bsP f wm wd k t n (p : Int)) 6
def bsI (f : Nat → Int) (wm wd : Int) (q : Nat) (k t n m d : Int) (b : Nat) : Prop := b < 64 ∧ ∀ p : Nat, p < 6 → (b.testBit p = true ↔ q.testBit p = true ∧ ∃ m' d' : Int, lxP f m d m' d' ∧ ctF f wm wd m' d' k ∧ btF f m' d' t n < 0 ∧ exF f m' (p : Int))
theorem bsI_0 {f : Nat → Int} {wm wd : Int} {q : Nat} {k t n : Int} : bsI f wm wd q k t n 0 0 0 :=
  ⟨by omega, fun p hp => ⟨fun h => (by rw [Nat.zero_testBit] at h; cases h), fun ⟨_, m', d', h, _⟩ => absurd h lx_0⟩⟩
theorem bsI_skip {f : Nat → Int} {wm wd : Int} {q : Nat} {k t n m d : Int} {b : Nat} (h : bsI f wm wd q k t n m d b) (hd : 0 ≤ d) (hx : ¬ (ctF f wm wd m d k ∧ btF f m d t n < 0)) : bsI f wm wd q k t n m (d + 1) b := by
  refine ⟨h.1, fun p hp => (h.2 p hp).trans ⟨fun ⟨h0, m', d', h1, h2⟩ => ⟨h0, m', d', (lx_s hd).mpr (Or.inl h1), h2⟩, fun ⟨h0, m', d', h1, h2⟩ => ⟨h0, m', d', ?_, h2⟩⟩⟩
  rcases (lx_s hd).mp h1 with h1 | ⟨rfl, rfl⟩
  · exact h1
  · exact absurd ⟨h2.1, h2.2.1⟩ hx
theorem ppF_bit {f : Nat → Int} {m : Int} {p : Nat} (hp : p < 6) : (ppF f m).testBit p = true ↔ exF f m (p : Int) := (kmk_bit _ 6 p).trans ⟨fun h => h.2, fun h => ⟨hp, h⟩⟩
theorem ppF_lt (f : Nat → Int) (m : Int) : ppF f m < 64 := kmk_lt _ 6
theorem bsI_take {f : Nat → Int} {wm wd : Int} {q : Nat} {k t n m d : Int} {b : Nat} (h : bsI f wm wd q k t n m d b) (hd : 0 ≤ d) (h1 : ctF f wm wd m d k) (h2 : btF f m d t n < 0) : bsI f wm wd q k t n m (d + 1) (b ||| kan (ppF f m) q) := by
  refine ⟨kor_lt h.1 (kan_lt (ppF_lt f m)), fun p hp => ?_⟩
  unfold kan
  rw [Nat.testBit_or, Bool.or_eq_true, Nat.testBit_and, Bool.and_eq_true, ppF_bit hp, h.2 p hp]
  constructor
  · rintro (⟨h0, m', d', g1, g2⟩ | ⟨g1, g2⟩)
    · exact ⟨h0, m', d', (lx_s hd).mpr (Or.inl g1), g2⟩
    · exact ⟨g2, m, d, (lx_s hd).mpr (Or.inr ⟨rfl, rfl⟩), h1, h2, g1⟩
  · rintro ⟨h0, m', d', g1, g2⟩
    rcases (lx_s hd).mp g1 with g1 | ⟨rfl, rfl⟩
    · exact Or.inl ⟨h0, m', d', g1, g2⟩
    · exact Or.inr ⟨g2.2.2, h0⟩
theorem bsI_next {f : Nat → Int} {wm wd : Int} {q : Nat} {k t n m d : Int} {b : Nat} (h : bsI f wm wd q k t n m d b) (hm : 0 ≤ m) (hd : d = oF f m 3) : bsI f wm wd q k t n (m + 1) 0 b :=
  ⟨h.1, fun p hp => (h.2 p hp).trans ⟨fun ⟨h0, m', d', h1, h2⟩ => ⟨h0, m', d', (lx_n hm hd).mpr h1, h2⟩, fun ⟨h0, m', d', h1, h2⟩ => ⟨h0, m', d', (lx_n hm hd).mp h1, h2⟩⟩⟩
theorem bsI_end {f : Nat → Int} {wm wd : Int} {q : Nat} {k t n m : Int} {b : Nat} (h : bsI f wm wd q k t n m 0 b) (hm : m = f 1) {p : Nat} (hp : p < 6) : b.testBit p = true ↔ q.testBit p = true ∧ bsP f wm wd k t n (p : Int) :=
  (h.2 p hp).trans ⟨fun ⟨h0, m', d', h1, h2⟩ => ⟨h0, m', d', (lx_e hm).mp h1, h2⟩, fun ⟨h0, m', d', h1, h2⟩ => ⟨h0, m', d', (lx_e hm).mpr h1, h2⟩⟩
-- whether a room fits
def tnP (f : Nat → Int) (rm m d bt : Int) : Prop := bt < 0 ∨ (f (9 + dF f m d 3).toNat ≠ f (9 + rm).toNat ∧ bt < f 0)
def fbP (f : Nat → Int) (wm wd rm : Int) (q : Nat) (k t n m d : Int) : Prop := ctF f wm wd m d k ∧ ((dF f m d 3 = rm ∧ btF f m d t n < 0) ∨ ((∃ p : Nat, p < 6 ∧ exF f m (p : Int) ∧ q.testBit p = true) ∧ tnP f rm m d (btF f m d t n)))
def fitF (f : Nat → Int) (wm wd rm : Int) (q : Nat) (k t n : Int) : Prop := kpo q 6 ≤ f (5 + rm).toNat ∧ ∀ m d : Int, inP f m d → ¬ fbP f wm wd rm q k t n m d
def alI (f : Nat → Int) (B : Int → Int → Prop) (m d : Int) : Prop := ∀ m' d' : Int, lxP f m d m' d' → ¬ B m' d'
theorem alI_0 {f : Nat → Int} {B : Int → Int → Prop} : alI f B 0 0 := fun _ _ h => absurd h lx_0
theorem alI_s {f : Nat → Int} {B : Int → Int → Prop} {m d : Int} (h : alI f B m d) (hd : 0 ≤ d) (hx : ¬ B m d) : alI f B m (d + 1) := by
  intro m' d' g
  rcases (lx_s hd).mp g with g | ⟨rfl, rfl⟩
  · exact h _ _ g
  · exact hx
theorem alI_n {f : Nat → Int} {B : Int → Int → Prop} {m d : Int} (h : alI f B m d) (hm : 0 ≤ m) (hd : d = oF f m 3) : alI f B (m + 1) 0 := fun m' d' g => h _ _ ((lx_n hm hd).mp g)
theorem alI_e {f : Nat → Int} {B : Int → Int → Prop} {m : Int} (h : alI f B m 0) (hm : m = f 1) (m' d' : Int) (g : inP f m' d') : ¬ B m' d' := h _ _ ((lx_e hm).mpr g)
theorem ppF_and {f : Nat → Int} {m : Int} {q : Nat} : ((kan (ppF f m) q : Nat) : Int) ≠ 0 ↔ ∃ p : Nat, p < 6 ∧ exF f m (p : Int) ∧ q.testBit p = true := by
  rw [kand_ne (ppF_lt f m)]
  exact ⟨fun ⟨p, h1, h2, h3⟩ => ⟨p, h1, (ppF_bit h1).mp h2, h3⟩, fun ⟨p, h1, h2, h3⟩ => ⟨p, h1, (ppF_bit h1).mpr h2, h3⟩⟩
-- the fitting room with the fewest seats
noncomputable def sml (f : Nat → Int) (P : Int → Prop) : Nat → Int
  | 0 => -1
  | i + 1 => kI (P (i : Int) ∧ (sml f P i < 0 ∨ f (5 + (i : Int)).toNat < f (5 + sml f P i).toNat)) (i : Int) (sml f P i)
theorem sml_r (f : Nat → Int) (P : Int → Prop) : ∀ i : Nat, -1 ≤ sml f P i ∧ (sml f P i < (i : Int) ∨ sml f P i = -1)
  | 0 => by rw [sml]; omega
  | i + 1 => by
    have h := sml_r f P i
    rw [sml]
    by_cases c : (P (i : Int) ∧ (sml f P i < 0 ∨ f (5 + (i : Int)).toNat < f (5 + sml f P i).toNat))
    · rw [kI_t c]; omega
    · rw [kI_f c]; omega
theorem sml_cg {f : Nat → Int} {P Q : Int → Prop} : ∀ {i : Nat}, (∀ r : Int, 0 ≤ r → r < (i : Int) → (P r ↔ Q r)) → sml f P i = sml f Q i
  | 0, _ => rfl
  | i + 1, h => by
    have ih := sml_cg (f := f) (P := P) (Q := Q) (i := i) (fun r h0 h1 => h r h0 (by omega))
    rw [sml, sml, ih]
    exact kI_cg (and_congr (h _ (by omega) (by omega)) Iff.rfl) (fun _ => rfl) (fun _ => rfl)
theorem sml_P {f : Nat → Int} {P : Int → Prop} : ∀ {i : Nat}, 0 ≤ sml f P i → P (sml f P i)
  | 0, h => absurd h (by rw [sml]; decide)
  | i + 1, h => by
    rw [sml] at h ⊢
    by_cases c : (P (i : Int) ∧ (sml f P i < 0 ∨ f (5 + (i : Int)).toNat < f (5 + sml f P i).toNat))
    · rw [kI_t c]; exact c.1
    · rw [kI_f c] at h ⊢; exact sml_P h
noncomputable def smlF (f : Nat → Int) (wm wd : Int) (q : Nat) (k t n : Int) : Int := sml f (fun rm => fitF f wm wd rm q k t n) 4
noncomputable def atF (f : Nat → Int) (n : Int) : Int := kls (fun m => oF f (m : Int) 0 = n) (f 1).toNat
theorem atF_r {f : Nat → Int} {n : Int} (hc : 0 ≤ f 1) : (atF f n = -1 ∧ ∀ m : Int, 0 ≤ m → m < f 1 → oF f m 0 ≠ n) ∨ (0 ≤ atF f n ∧ atF f n < f 1 ∧ oF f (atF f n) 0 = n) := by
  unfold atF
  rcases kls_spec (fun m => oF f (m : Int) 0 = n) (f 1).toNat with ⟨h1, h2⟩ | ⟨i, h1, h2, h3, -⟩
  · refine Or.inl ⟨h1, fun m h0 h4 => ?_⟩
    obtain ⟨j, rfl⟩ := Int.eq_ofNat_of_zero_le h0
    exact h2 j (by omega)
  · rw [h1]; exact Or.inr ⟨by omega, by omega, h3⟩
