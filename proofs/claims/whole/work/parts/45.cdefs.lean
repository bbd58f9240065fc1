/-! ===== the class: a day swept in the order of its dates ===== -/
theorem ksm_ad (f : Nat → Int) (a : Nat) : ∀ b : Nat, ksm f (a + b) = ksm f a + ksm (fun j => f (a + j)) b
  | 0 => (Int.add_zero _).symm
  | b + 1 => by
    show ksm f (a + b) + f (a + b) = ksm f a + (ksm (fun j => f (a + j)) b + f (a + b))
    rw [ksm_ad f a b]
    omega
theorem ksm_ct (x : Int) : ∀ b : Nat, ksm (fun _ => x) b = x * (b : Int)
  | 0 => by rw [ksm]; simp
  | b + 1 => by
    show ksm (fun _ => x) b + x = _
    rw [ksm_ct x b, Int.natCast_succ, Int.mul_add, Int.mul_one]
theorem ksm_no {P : Nat → Prop} {a b : Nat} (hab : a ≤ b) (h : ∀ t : Nat, a ≤ t → t < b → ¬ P t) : ksm (fun t => kB (P t)) b = ksm (fun t => kB (P t)) a := by
  obtain ⟨c, rfl⟩ := Nat.exists_eq_add_of_le hab
  rw [ksm_ad, ksm_cg (f' := fun _ => 0) (fun j hj => kB_f (h (a + j) (by omega) (by omega))), ksm_ct]
  omega
theorem ksm_al {P : Nat → Prop} {a b : Nat} (hab : a ≤ b) (h : ∀ t : Nat, a ≤ t → t < b → P t) : ksm (fun t => kB (P t)) b = ksm (fun t => kB (P t)) a + ((b : Int) - (a : Int)) := by
  obtain ⟨c, rfl⟩ := Nat.exists_eq_add_of_le hab
  rw [ksm_ad, ksm_cg (f' := fun _ => 1) (fun j hj => kB_t (h (a + j) (by omega) (by omega))), ksm_ct]
  omega
theorem ksm_not {P : Nat → Prop} : ∀ n : Nat, ksm (fun t => kB (¬ P t)) n = (n : Int) - ksm (fun t => kB (P t)) n
  | 0 => rfl
  | n + 1 => by
    show ksm (fun t => kB (¬ P t)) n + kB (¬ P n) = _ - (ksm (fun t => kB (P t)) n + kB (P n))
    rw [ksm_not n]
    by_cases c : P n
    · rw [kB_f (fun z => z c), kB_t c]; omega
    · rw [kB_t c, kB_f c]; omega
section KQ3
variable {G : kG} {h : kAH} {pl : Nat} {γ : kGh} {A : kAb} {f : Nat → Int} {k : Int}
-- times covered by dates of a kind on day k
def cvF (f : Nat → Int) (k : Int) (E : Int → Int → Prop) (t : Nat) : Prop := ∃ m d : Int, inP f m d ∧ onF f m d ∧ dF f m d 0 = k ∧ E m d ∧ dF f m d 1 ≤ (t : Int) ∧ (t : Int) < dF f m d 1 + oF f m 2
-- no two of the kind have a time in common
def apF (f : Nat → Int) (k : Int) (E : Int → Int → Prop) : Prop := ∀ m d m' d' : Int, inP f m d → inP f m' d' → onF f m d → onF f m' d' → dF f m d 0 = k → dF f m' d' 0 = k → E m d → E m' d' → dF f m d 1 < dF f m' d' 1 + oF f m' 2 → dF f m' d' 1 < dF f m d 1 + oF f m 2 → m = m' ∧ d = d'
def swI (A : kAb) (f : Nat → Int) (k : Int) (E : Int → Int → Prop) (i : Nat) (s c : Int) : Prop :=
  (0 ≤ s ∧ s ≤ 16) ∧ c = ksm (fun t => kB (cvF f k E t)) s.toNat ∧ (∀ m d : Int, dyP A f k i m d → E m d → dF f m d 1 + oF f m 2 ≤ s) ∧ (s = 0 ∨ ∃ m d : Int, dyP A f k i m d ∧ E m d ∧ onF f m d ∧ dF f m d 0 = k ∧ s = dF f m d 1 + oF f m 2)
theorem sw_0 {E : Int → Int → Prop} : swI A f k E 0 0 0 := ⟨by decide, rfl, fun m d z => absurd z dy_0, Or.inl rfl⟩
theorem sw_skip (q : kRp G h pl γ A f) {E : Int → Int → Prop} {i : Nat} {s c m d : Int} (hi : inP f m d) (hx : (aDx A k)[i]? = some (oF f m 0, d)) (z : swI A f k E i s c) (hE : ¬ E m d) : swI A f k E (i + 1) s c := by
  obtain ⟨z1, z2, z3, z4⟩ := z
  refine ⟨z1, z2, fun m' d' g g2 => ?_, ?_⟩
  · rcases (dy_s q hi hx).mp g with g | ⟨rfl, rfl⟩
    · exact z3 _ _ g g2
    · exact absurd g2 hE
  · rcases z4 with z4 | ⟨m', d', g, g2⟩
    · exact Or.inl z4
    · exact Or.inr ⟨m', d', (dy_s q hi hx).mpr (Or.inl g), g2⟩
theorem sw_lo (q : kRp G h pl γ A f) (h0 : 0 ≤ k) (h1 : k < 28) {E : Int → Int → Prop} (hap : apF f k E) {i : Nat} {s c m d : Int} (hi : inP f m d) (ho : onF f m d) (hk : dF f m d 0 = k) (hx : (aDx A k)[i]? = some (oF f m 0, d)) (z : swI A f k E i s c) (hE : E m d) : s ≤ dF f m d 1 := by
  obtain ⟨z1, z2, z3, z4⟩ := z
  have g0 := kWf_d q.2.2 hi.1 hi.2.1 hi.2.2.1 hi.2.2.2
  rcases z4 with z4 | ⟨m', d', ⟨g1, j, hj, g2⟩, g3, g4, g5, g6⟩
  · omega
  · have u := rp_so q h0 h1 g1 hi g2 hx hj
    by_cases c9 : s ≤ dF f m d 1
    · exact c9
    · have gm := kWf_m q.2.2 hi.1 hi.2.1
      obtain ⟨e1, e2⟩ := hap m' d' m d g1 hi g4 ho g5 hk g3 hE (by omega) (by omega)
      subst e1; subst e2
      have := rp_ix q h0 h1 g2 hx
      omega
theorem sw_take (q : kRp G h pl γ A f) (h0 : 0 ≤ k) (h1 : k < 28) {E : Int → Int → Prop} (hap : apF f k E) {i : Nat} {s c m d : Int} (hi : inP f m d) (ho : onF f m d) (hk : dF f m d 0 = k) (hx : (aDx A k)[i]? = some (oF f m 0, d)) (z : swI A f k E i s c) (hE : E m d) : swI A f k E (i + 1) (dF f m d 1 + oF f m 2) (c + oF f m 2) := by
  have hlo := sw_lo q h0 h1 hap hi ho hk hx z hE
  obtain ⟨z1, z2, z3, z4⟩ := z
  have g0 := kWf_d q.2.2 hi.1 hi.2.1 hi.2.2.1 hi.2.2.2
  have gm := kWf_m q.2.2 hi.1 hi.2.1
  refine ⟨by omega, ?_, fun m' d' g g2 => ?_, Or.inr ⟨m, d, (dy_s q hi hx).mpr (Or.inr ⟨rfl, rfl⟩), hE, ho, hk, rfl⟩⟩
  · have e1 : ksm (fun t => kB (cvF f k E t)) (dF f m d 1).toNat = ksm (fun t => kB (cvF f k E t)) s.toNat := ksm_no (by omega) fun t ht1 ht2 => by
      rintro ⟨m', d', w1, w2, w3, w4, w5, w6⟩
      obtain ⟨j, hj, w7⟩ := rp_in q h0 h1 w1 w2 w3
      by_cases cj : j < i
      · have := z3 m' d' ⟨w1, j, cj, w7⟩ w4
        omega
      · by_cases cj2 : j = i
        · subst cj2
          rw [hx] at w7
          have e2 := Option.some.inj w7
          have e3 : oF f m 0 = oF f m' 0 := congrArg Prod.fst e2
          have e4 : d = d' := congrArg Prod.snd e2
          have e5 := rp_num q hi.1 hi.2.1 w1.1 w1.2.1 e3
          subst e4; subst e5
          omega
        · have := rp_so q h0 h1 hi w1 hx w7 (by omega)
          omega
    have e2 : ksm (fun t => kB (cvF f k E t)) (dF f m d 1 + oF f m 2).toNat = ksm (fun t => kB (cvF f k E t)) (dF f m d 1).toNat + (((dF f m d 1 + oF f m 2).toNat : Int) - ((dF f m d 1).toNat : Int)) := ksm_al (by omega) fun t ht1 ht2 => ⟨m, d, hi, ho, hk, hE, by omega, by omega⟩
    omega
  · rcases (dy_s q hi hx).mp g with g | ⟨rfl, rfl⟩
    · have := z3 _ _ g g2
      omega
    · omega
theorem sw_end (q : kRp G h pl γ A f) (h0 : 0 ≤ k) (h1 : k < 28) {E : Int → Int → Prop} {i : Nat} {s c : Int} (hi : i = (aDx A k).length) (z : swI A f k E i s c) : c = ksm (fun t => kB (cvF f k E t)) 16 := by
  obtain ⟨z1, z2, z3, z4⟩ := z
  rw [z2]
  refine (ksm_no (by omega) fun t ht1 ht2 => ?_).symm
  rintro ⟨m', d', w1, w2, w3, w4, w5, w6⟩
  have := z3 m' d' ((dy_e q h0 h1 hi).mpr ⟨w1, w2, w3⟩) w4
  omega
-- persons and rooms are at one date at a time
theorem ap_p (hW : kWf f) {p : Int} (hp : 0 ≤ p ∧ p < 6) : apF f k (fun m _ => exF f m p) := by
  intro m d m' d' h1 h2 o1 o2 k1 k2 e1 e2 t1 t2
  by_cases c : m = m' ∧ d = d'
  · exact c
  · exact absurd ⟨e1, e2⟩ ((hW.2.2.2.2.2.2.2.2.2.2 m d m' d' h1.1 h1.2.1 h1.2.2.1 h1.2.2.2 h2.1 h2.2.1 h2.2.2.1 h2.2.2.2 c o1 o2 (k1.trans k2.symm) t1 t2).2 p hp.1 hp.2)
theorem ap_r (hW : kWf f) {rm : Int} : apF f k (fun m d => dF f m d 3 = rm) := by
  intro m d m' d' h1 h2 o1 o2 k1 k2 e1 e2 t1 t2
  by_cases c : m = m' ∧ d = d'
  · exact c
  · exact absurd (e1.trans e2.symm) (hW.2.2.2.2.2.2.2.2.2.2 m d m' d' h1.1 h1.2.1 h1.2.2.1 h1.2.2.2 h2.1 h2.2.1 h2.2.2.1 h2.2.2.2 c o1 o2 (k1.trans k2.symm) t1 t2).1
theorem cv_p (hW : kWf f) {p : Int} (hp : 0 ≤ p ∧ p < 6) {t : Nat} : frF f p k (t : Int) ↔ ¬ cvF f k (fun m _ => exF f m p) t := by
  rw [frF_iff hp]
  refine not_congr ⟨?_, ?_⟩
  · rintro ⟨m, d, hi, hm⟩
    have ho := hm.2.1.1
    have hk := hm.2.1.2.1
    have z := (ma_iff hW hi ho hk).mp hm
    exact ⟨m, d, hi, ho, hk, z.1, z.2.1, z.2.2⟩
  · rintro ⟨m, d, hi, ho, hk, z1, z2, z3⟩
    exact ⟨m, d, hi, (ma_iff hW hi ho hk).mpr ⟨z1, z2, z3⟩⟩
theorem cv_r (hW : kWf f) {rm : Int} {t : Nat} : usF f rm k (t : Int) ↔ cvF f k (fun m d => dF f m d 3 = rm) t := by
  constructor
  · rintro ⟨m, d, hi, z1, z2, z3⟩
    have g := kWf_m hW hi.1 hi.2.1
    have b := btF_neg.mp z3
    exact ⟨m, d, hi, z1.1, z1.2.1, z2, by omega, by omega⟩
  · rintro ⟨m, d, hi, ho, hk, z1, z2, z3⟩
    have g := kWf_m hW hi.1 hi.2.1
    exact ⟨m, d, hi, ⟨ho, hk, fun z => absurd hi.1 (by omega)⟩, z1, btF_neg.mpr (by omega)⟩
-- walks
def wlI (A : kAb) (f : Nat → Int) (p k : Int) (i : Nat) (s : Int) (x : Int × Int) : Prop :=
  (0 ≤ s ∧ s ≤ 16) ∧ x = wkF (fun t => hsF f p k (t : Int)) s.toNat ∧ (∀ m d : Int, dyP A f k i m d → exF f m p → dF f m d 1 < s) ∧ (s = 0 ∨ ∃ m d : Int, dyP A f k i m d ∧ exF f m p ∧ onF f m d ∧ dF f m d 0 = k ∧ s = dF f m d 1 + 1)
theorem wk_no {H : Nat → Int} {a b : Nat} (hab : a ≤ b) (h : ∀ t : Nat, a ≤ t → t < b → H t = -1) : wkF H b = wkF H a := by
  obtain ⟨c, rfl⟩ := Nat.exists_eq_add_of_le hab
  induction c with
  | zero => rfl
  | succ c ih =>
    show wkS (H (a + c)) (wkF H (a + c)) = _
    rw [h (a + c) (by omega) (by omega), ih (by omega) (fun t h1 h2 => h t h1 (by omega))]
    unfold wkS
    rw [kI_t (by decide)]
theorem wl_0 {p : Int} : wlI A f p k 0 0 (0, -1) := ⟨by decide, rfl, fun m d z => absurd z dy_0, Or.inl rfl⟩
theorem wl_skip (q : kRp G h pl γ A f) {p : Int} {i : Nat} {s m d : Int} {x : Int × Int} (hi : inP f m d) (hx : (aDx A k)[i]? = some (oF f m 0, d)) (z : wlI A f p k i s x) (hE : ¬ exF f m p) : wlI A f p k (i + 1) s x := by
  obtain ⟨z1, z2, z3, z4⟩ := z
  refine ⟨z1, z2, fun m' d' g g2 => ?_, ?_⟩
  · rcases (dy_s q hi hx).mp g with g | ⟨rfl, rfl⟩
    · exact z3 _ _ g g2
    · exact absurd g2 hE
  · rcases z4 with z4 | ⟨m', d', g, g2⟩
    · exact Or.inl z4
    · exact Or.inr ⟨m', d', (dy_s q hi hx).mpr (Or.inl g), g2⟩
theorem wl_none (q : kRp G h pl γ A f) (h0 : 0 ≤ k) (h1 : k < 28) {p : Int} {i : Nat} {s : Int} {x : Int × Int} (z : wlI A f p k i s x) {u : Nat} (hu : s ≤ (u : Int)) (hj : ∀ m d : Int, ∀ j : Nat, i ≤ j → inP f m d → (aDx A k)[j]? = some (oF f m 0, d) → (u : Int) < dF f m d 1) : hsF f p k (u : Int) = -1 := by
  refine hsF_none ?_
  rintro ⟨m, d, w1, w2, w3, w4⟩
  obtain ⟨j, hj2, w7⟩ := rp_in q h0 h1 w1 w3.1 w3.2.1
  by_cases cj : j < i
  · have := z.2.2.1 m d ⟨w1, j, cj, w7⟩ w2
    omega
  · have := hj m d j (by omega) w1 w7
    omega
theorem wl_take (q : kRp G h pl γ A f) (h0 : 0 ≤ k) (h1 : k < 28) {p : Int} (hp : 0 ≤ p ∧ p < 6) {i : Nat} {s m d : Int} {x : Int × Int} (hi : inP f m d) (ho : onF f m d) (hk : dF f m d 0 = k) (hx : (aDx A k)[i]? = some (oF f m 0, d)) (z : wlI A f p k i s x) (hE : exF f m p) : wlI A f p k (i + 1) (dF f m d 1 + 1) (wkS (f (9 + dF f m d 3).toNat) x) := by
  have g0 := kWf_d q.2.2 hi.1 hi.2.1 hi.2.2.1 hi.2.2.2
  have gm := kWf_m q.2.2 hi.1 hi.2.1
  have hlo : s ≤ dF f m d 1 := by
    rcases z.2.2.2 with z4 | ⟨m', d', ⟨g1, j, hj, g2⟩, g3, g4, g5, g6⟩
    · omega
    · have u := rp_so q h0 h1 g1 hi g2 hx hj
      have gm' := kWf_m q.2.2 g1.1 g1.2.1
      by_cases c9 : s ≤ dF f m d 1
      · exact c9
      · obtain ⟨e1, e2⟩ := ap_p (k := k) q.2.2 hp m' d' m d g1 hi g4 ho g5 hk g3 hE (by omega) (by omega)
        subst e1; subst e2
        have := rp_ix q h0 h1 g2 hx
        omega
  have nn : ∀ t : Nat, s.toNat ≤ t → t < (dF f m d 1).toNat → hsF f p k (t : Int) = -1 := fun t t1 t2 => wl_none q h0 h1 z (by omega) fun m' d' j hj w1 w7 => by
    by_cases cj : j = i
    · subst cj
      rw [hx] at w7
      have e2 := Option.some.inj w7
      have e3 : oF f m 0 = oF f m' 0 := congrArg Prod.fst e2
      have e4 : d = d' := congrArg Prod.snd e2
      have e5 := rp_num q hi.1 hi.2.1 w1.1 w1.2.1 e3
      subst e4; subst e5
      omega
    · have := rp_so q h0 h1 hi w1 hx w7 (by omega)
      omega
  obtain ⟨z1, z2, z3, z4⟩ := z
  refine ⟨by omega, ?_, fun m' d' g g2 => ?_, Or.inr ⟨m, d, (dy_s q hi hx).mpr (Or.inr ⟨rfl, rfl⟩), hE, ho, hk, rfl⟩⟩
  · have e : (dF f m d 1 + 1).toNat = (dF f m d 1).toNat + 1 := by omega
    rw [e, wkF, wk_no (H := fun t => hsF f p k (t : Int)) (a := s.toNat) (b := (dF f m d 1).toNat) (by omega) nn, ← z2]
    have e2 : (((dF f m d 1).toNat : Nat) : Int) = dF f m d 1 := by omega
    show wkS _ x = wkS (hsF f p k (((dF f m d 1).toNat : Nat) : Int)) x
    rw [e2, hsF_of q.2.2 hp hi ⟨hE, ⟨ho, hk, fun y => absurd hi.1 (by omega)⟩, rfl⟩]
  · rcases (dy_s q hi hx).mp g with g | ⟨rfl, rfl⟩
    · have := z3 _ _ g g2
      omega
    · omega
theorem wl_end (q : kRp G h pl γ A f) (h0 : 0 ≤ k) (h1 : k < 28) {p : Int} {i : Nat} {s : Int} {x : Int × Int} (hi : i = (aDx A k).length) (z : wlI A f p k i s x) : x = wkF (fun t => hsF f p k (t : Int)) 16 := by
  have nn : ∀ t : Nat, s.toNat ≤ t → t < 16 → hsF f p k (t : Int) = -1 := fun t t1 t2 => wl_none q h0 h1 z (by have := z.1; omega) fun m' d' j hj w1 w7 => by
    have := (List.getElem?_eq_some_iff.mp w7).1
    omega
  rw [z.2.1]
  exact (wk_no (by have := z.1; omega) nn).symm
end KQ3
