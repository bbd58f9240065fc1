/-! ===== the class's objects in the heap; what they stand for ===== -/
-- addresses: tags, rooms, days, their lists, meetings (by number), their lists, dates, slots; the rows of rooms and days, the list of meetings
abbrev kGh : Type := (Nat → Nat × Nat) × (Int → Nat) × (Int → Nat) × (Int → Nat) × (Int → Nat) × (Int → Nat) × (Int → Int → Nat) × (Int → Int → Nat) × Nat × Nat × Nat
abbrev gOw (γ : kGh) : Nat → Nat × Nat := γ.1
abbrev gRm (γ : kGh) : Int → Nat := γ.2.1
abbrev gDy (γ : kGh) : Int → Nat := γ.2.2.1
abbrev gDl (γ : kGh) : Int → Nat := γ.2.2.2.1
abbrev gMt (γ : kGh) : Int → Nat := γ.2.2.2.2.1
abbrev gMd (γ : kGh) : Int → Nat := γ.2.2.2.2.2.1
abbrev gDt (γ : kGh) : Int → Int → Nat := γ.2.2.2.2.2.2.1
abbrev gSt (γ : kGh) : Int → Int → Nat := γ.2.2.2.2.2.2.2.1
abbrev gRa (γ : kGh) : Nat := γ.2.2.2.2.2.2.2.2.1
abbrev gDa (γ : kGh) : Nat := γ.2.2.2.2.2.2.2.2.2.1
abbrev gMl (γ : kGh) : Nat := γ.2.2.2.2.2.2.2.2.2.2
-- what the objects hold: gap, next, reason, detail; seats, houses; numbers of the meetings in their order; of a meeting: host, asked, yes, no, how many dates; of a date: day, time, length, room, cancelled; of a day: its dates
abbrev kAb : Type := (Nat → Int) × (Int → Int) × (Int → Int) × List Int × (Int → Int) × (Int → Nat) × (Int → Nat) × (Int → Nat) × (Int → Nat) × (Int → Int → Nat → Int) × (Int → List (Int × Int)) × (Int → Prop)
abbrev aSc (A : kAb) : Nat → Int := A.1
abbrev aSe (A : kAb) : Int → Int := A.2.1
abbrev aHo (A : kAb) : Int → Int := A.2.2.1
abbrev aMl (A : kAb) : List Int := A.2.2.2.1
abbrev aHs (A : kAb) : Int → Int := A.2.2.2.2.1
abbrev aAk (A : kAb) : Int → Nat := A.2.2.2.2.2.1
abbrev aYs (A : kAb) : Int → Nat := A.2.2.2.2.2.2.1
abbrev aNo (A : kAb) : Int → Nat := A.2.2.2.2.2.2.2.1
abbrev aMn (A : kAb) : Int → Nat := A.2.2.2.2.2.2.2.2.1
abbrev aDt (A : kAb) : Int → Int → Nat → Int := A.2.2.2.2.2.2.2.2.2.1
abbrev aDx (A : kAb) : Int → List (Int × Int) := A.2.2.2.2.2.2.2.2.2.2.1
abbrev aLv (A : kAb) : Int → Prop := A.2.2.2.2.2.2.2.2.2.2.2
-- a list of ours: its cell and its row (if it has one) are tagged
def kLt (G : kG) (h : kAH) (ow : Nat → Nat × Nat) (a : Nat) (xs : List Nat) (t t' : Nat × Nat) : Prop := ow a = t ∧ ∃ ar c : Nat, kLs G h a ar c xs ∧ ((ar = G.2.2.2 ∧ xs = [] ∧ c = 0) ∨ ow ar = t')
abbrev kPc (γ : kGh) (A : kAb) : va_E := .inr (9, [.ref (gRa γ), .ref (gDa γ), .ref (gMl γ), .int (iI (aSc A 0)), .int (iI (aSc A 1)), .int (iI (aSc A 2)), .int (iI (aSc A 3))])
abbrev kRc (A : kAb) (r : Int) : va_E := .inr (7, [.int (iI r), .int (iI (aSe A r)), .int (iI (aHo A r))])
abbrev kMc (γ : kGh) (A : kAb) (n : Int) : va_E := .inr (6, [.int (iI n), .int (iI (aHs A n)), .int (iI ((aAk A n : Nat) : Int)), .ref (gMd γ n), .int (iI ((aYs A n : Nat) : Int)), .int (iI ((aNo A n : Nat) : Int))])
abbrev kDc (γ : kGh) (A : kAb) (n d : Int) : va_E := .inr (4, [.ref (gMt γ n), .ref (gSt γ n d), .ref (gRm γ (aDt A n d 3)), .int (iI (aDt A n d 2))])
abbrev kSc (A : kAb) (n d : Int) : va_E := .inr (8, [.int (iI (aDt A n d 0)), .int (iI (aDt A n d 1)), .int (iI (aDt A n d 4))])
def kRA (G : kG) (h : kAH) (pl : Nat) (γ : kGh) (A : kAb) : Prop :=
  (h pl = some (kPc γ A) ∧ gOw γ pl = (10, 0)) ∧
  ((∃ F : Nat → Option Nat, h (gRa γ) = some (kro G 5 4 F) ∧ ∀ r : Int, 0 ≤ r → r < 4 → F r.toNat = some (gRm γ r)) ∧ gOw γ (gRa γ) = (11, 0)) ∧
  (∀ r : Int, 0 ≤ r → r < 4 → h (gRm γ r) = some (kRc A r) ∧ gOw γ (gRm γ r) = (9, r.toNat)) ∧
  ((∃ F : Nat → Option Nat, h (gDa γ) = some (kro G 4 28 F) ∧ ∀ k : Int, 0 ≤ k → k < 28 → F k.toNat = some (gDy γ k)) ∧ gOw γ (gDa γ) = (14, 0)) ∧
  (∀ k : Int, 0 ≤ k → k < 28 → (h (gDy γ k) = some (.inr (5, [.ref (gDl γ k)])) ∧ gOw γ (gDy γ k) = (1, k.toNat)) ∧ kLt G h (gOw γ) (gDl γ k) ((aDx A k).map fun q => gDt γ q.1 q.2) (2, k.toNat) (3, k.toNat)) ∧
  kLt G h (gOw γ) (gMl γ) ((aMl A).map (gMt γ)) (12, 0) (13, 0) ∧
  (∀ n : Int, aLv A n → 0 ≤ n ∧ (h (gMt γ n) = some (kMc γ A n) ∧ gOw γ (gMt γ n) = (4, n.toNat)) ∧ kLt G h (gOw γ) (gMd γ n) ((List.range (aMn A n)).map fun (d : Nat) => gDt γ n (d : Int)) (5, n.toNat) (6, n.toNat)) ∧
  (∀ n d : Int, aLv A n → 0 ≤ d → d < (aMn A n : Int) → d < 6 → (h (gDt γ n d) = some (kDc γ A n d) ∧ gOw γ (gDt γ n d) = (7, (6 * n + d).toNat)) ∧ h (gSt γ n d) = some (kSc A n d) ∧ gOw γ (gSt γ n d) = (8, (6 * n + d).toNat)) ∧
  (∀ b : Nat, h b = none → gOw γ b = (0, 0))
-- what they stand for
def kRl (A : kAb) (f : Nat → Int) : Prop :=
  (aSc A 0 = f 0 ∧ aSc A 1 = f 2 ∧ aSc A 2 = f 3 ∧ aSc A 3 = f 4) ∧
  (∀ r : Int, 0 ≤ r → r < 4 → aSe A r = f (5 + r).toNat ∧ aHo A r = f (9 + r).toNat) ∧
  (aMl A = (List.range (f 1).toNat).map fun (m : Nat) => oF f (m : Int) 0) ∧
  (∀ m : Int, 0 ≤ m → m < f 1 → aLv A (oF f m 0) ∧ aHs A (oF f m 0) = oF f m 1 ∧ aAk A (oF f m 0) = kmk (fun p => oF f m (4 + (p : Int)) ≠ 45) 6 ∧ aYs A (oF f m 0) = kmk (fun p => oF f m (4 + (p : Int)) = 121) 6 ∧ aNo A (oF f m 0) = kmk (fun p => oF f m (4 + (p : Int)) = 110) 6 ∧ ((aMn A (oF f m 0) : Nat) : Int) = oF f m 3) ∧
  (∀ m d : Int, inP f m d → aDt A (oF f m 0) d 0 = dF f m d 0 ∧ aDt A (oF f m 0) d 1 = dF f m d 1 ∧ aDt A (oF f m 0) d 2 = dF f m d 2 ∧ aDt A (oF f m 0) d 3 = dF f m d 3 ∧ aDt A (oF f m 0) d 4 = oF f m 2) ∧
  (∀ k : Int, 0 ≤ k → k < 28 → (aDx A k).Nodup ∧ (aDx A k).Pairwise (fun q q' => aDt A q.1 q.2 1 ≤ aDt A q'.1 q'.2 1) ∧ ∀ q : Int × Int, q ∈ aDx A k ↔ ∃ m : Int, inP f m q.2 ∧ q.1 = oF f m 0 ∧ onF f m q.2 ∧ dF f m q.2 0 = k)
def kRp (G : kG) (h : kAH) (pl : Nat) (γ : kGh) (A : kAb) (f : Nat → Int) : Prop := kRA G h pl γ A ∧ kRl A f ∧ kWf f
section KQ
variable {G : kG} {h : kAH} {pl : Nat} {γ : kGh} {A : kAb} {f : Nat → Int}
theorem rp_W (q : kRp G h pl γ A f) : kWf f := q.2.2
theorem rp_P (q : kRp G h pl γ A f) : h pl = some (.inr (9, [.ref (gRa γ), .ref (gDa γ), .ref (gMl γ), .int (iI (f 0)), .int (iI (f 2)), .int (iI (f 3)), .int (iI (f 4))])) := by
  have h1 := q.1.1.1
  obtain ⟨e0, e1, e2, e3⟩ := q.2.1.1
  rw [h1, ← e0, ← e1, ← e2, ← e3]
theorem rp_Ra (q : kRp G h pl γ A f) : ∃ F : Nat → Option Nat, h (gRa γ) = some (kro G 5 4 F) ∧ ∀ r : Int, 0 ≤ r → r < 4 → F r.toNat = some (gRm γ r) := q.1.2.1.1
theorem rp_R (q : kRp G h pl γ A f) {r : Int} (h0 : 0 ≤ r) (h1 : r < 4) : h (gRm γ r) = some (.inr (7, [.int (iI r), .int (iI (f (5 + r).toNat)), .int (iI (f (9 + r).toNat))])) := by
  have z := (q.1.2.2.1 r h0 h1).1
  obtain ⟨e0, e1⟩ := q.2.1.2.1 r h0 h1
  rw [z, ← e0, ← e1]
theorem rp_Da (q : kRp G h pl γ A f) : ∃ F : Nat → Option Nat, h (gDa γ) = some (kro G 4 28 F) ∧ ∀ k : Int, 0 ≤ k → k < 28 → F k.toNat = some (gDy γ k) := q.1.2.2.2.1.1
theorem rp_Dy (q : kRp G h pl γ A f) {k : Int} (h0 : 0 ≤ k) (h1 : k < 28) : h (gDy γ k) = some (.inr (5, [.ref (gDl γ k)])) := (q.1.2.2.2.2.1 k h0 h1).1.1
theorem rp_Dl (q : kRp G h pl γ A f) {k : Int} (h0 : 0 ≤ k) (h1 : k < 28) : ∃ ar c : Nat, kLs G h (gDl γ k) ar c ((aDx A k).map fun q => gDt γ q.1 q.2) := by
  obtain ⟨-, ar, c, z, -⟩ := (q.1.2.2.2.2.1 k h0 h1).2
  exact ⟨ar, c, z⟩
theorem rp_Ml (q : kRp G h pl γ A f) : ∃ ar c : Nat, kLs G h (gMl γ) ar c ((List.range (f 1).toNat).map fun (m : Nat) => gMt γ (oF f (m : Int) 0)) := by
  obtain ⟨-, ar, c, z, -⟩ := q.1.2.2.2.2.2.1
  rw [q.2.1.2.2.1, List.map_map] at z
  exact ⟨ar, c, z⟩
theorem rp_M (q : kRp G h pl γ A f) {m : Int} (h0 : 0 ≤ m) (h1 : m < f 1) : h (gMt γ (oF f m 0)) = some (.inr (6, [.int (iI (oF f m 0)), .int (iI (oF f m 1)), .int (iI ((aAk A (oF f m 0) : Nat) : Int)), .ref (gMd γ (oF f m 0)), .int (iI ((aYs A (oF f m 0) : Nat) : Int)), .int (iI ((aNo A (oF f m 0) : Nat) : Int))])) := by
  obtain ⟨e0, e1, -⟩ := q.2.1.2.2.2.1 m h0 h1
  have z := (q.1.2.2.2.2.2.2.1 _ e0).2.1.1
  rw [z, ← e1]
theorem rp_Mx (q : kRp G h pl γ A f) {m : Int} (h0 : 0 ≤ m) (h1 : m < f 1) : aAk A (oF f m 0) < 64 ∧ aYs A (oF f m 0) < 64 ∧ aNo A (oF f m 0) < 64 ∧ (∀ p : Nat, p < 6 → ((aAk A (oF f m 0)).testBit p = true ↔ oF f m (4 + (p : Int)) ≠ 45) ∧ ((aYs A (oF f m 0)).testBit p = true ↔ oF f m (4 + (p : Int)) = 121) ∧ ((aNo A (oF f m 0)).testBit p = true ↔ oF f m (4 + (p : Int)) = 110)) := by
  obtain ⟨-, -, e2, e3, e4, -⟩ := q.2.1.2.2.2.1 m h0 h1
  rw [e2, e3, e4]
  refine ⟨kmk_lt _ 6, kmk_lt _ 6, kmk_lt _ 6, fun p hp => ⟨?_, ?_, ?_⟩⟩ <;>
  · rw [kmk_bit]
    exact ⟨fun z => z.2, fun z => ⟨hp, z⟩⟩
theorem rp_ex (q : kRp G h pl γ A f) {m : Int} (h0 : 0 ≤ m) (h1 : m < f 1) : exM (oF f m 1) (aAk A (oF f m 0)) (aNo A (oF f m 0)) = ppF f m := by
  have g1 := kWf_m q.2.2 h0 h1
  obtain ⟨x1, -, -, x4⟩ := rp_Mx q h0 h1
  refine kset_eq (exM_lt ⟨by omega, by omega⟩ x1) (ppF_lt f m) fun p hp => ?_
  have g2 := (kWf_p q.2.2 h0 h1 (p := (p : Int)) (by omega) (by omega)).1
  rw [exM_bit ⟨by omega, by omega⟩ x1, ppF_bit hp, (x4 p hp).1, (x4 p hp).2.2]
  unfold exF
  omega
theorem rp_Md (q : kRp G h pl γ A f) {m : Int} (h0 : 0 ≤ m) (h1 : m < f 1) : ∃ ar c : Nat, kLs G h (gMd γ (oF f m 0)) ar c ((List.range (oF f m 3).toNat).map fun (d : Nat) => gDt γ (oF f m 0) (d : Int)) := by
  obtain ⟨e0, -, -, -, -, e5⟩ := q.2.1.2.2.2.1 m h0 h1
  obtain ⟨-, ar, c, z, -⟩ := (q.1.2.2.2.2.2.2.1 _ e0).2.2
  rw [show aMn A (oF f m 0) = (oF f m 3).toNat by omega] at z
  exact ⟨ar, c, z⟩
theorem rp_lv (q : kRp G h pl γ A f) {m d : Int} (hi : inP f m d) : aLv A (oF f m 0) ∧ d < (aMn A (oF f m 0) : Int) ∧ d < 6 := by
  obtain ⟨e0, -, -, -, -, e5⟩ := q.2.1.2.2.2.1 m hi.1 hi.2.1
  have g1 := kWf_m q.2.2 hi.1 hi.2.1
  have := hi.2.2.2
  exact ⟨e0, by omega, by omega⟩
theorem rp_D (q : kRp G h pl γ A f) {m d : Int} (hi : inP f m d) : h (gDt γ (oF f m 0) d) = some (.inr (4, [.ref (gMt γ (oF f m 0)), .ref (gSt γ (oF f m 0) d), .ref (gRm γ (dF f m d 3)), .int (iI (dF f m d 2))])) := by
  obtain ⟨e0, e1, e2⟩ := rp_lv q hi
  obtain ⟨-, -, u2, u3, -⟩ := q.2.1.2.2.2.2.1 m d hi
  have z := (q.1.2.2.2.2.2.2.2.1 _ d e0 hi.2.2.1 e1 e2).1.1
  rw [z, ← u2, ← u3]
theorem rp_S (q : kRp G h pl γ A f) {m d : Int} (hi : inP f m d) : h (gSt γ (oF f m 0) d) = some (.inr (8, [.int (iI (dF f m d 0)), .int (iI (dF f m d 1)), .int (iI (oF f m 2))])) := by
  obtain ⟨e0, e1, e2⟩ := rp_lv q hi
  obtain ⟨u0, u1, -, -, u4⟩ := q.2.1.2.2.2.2.1 m d hi
  have z := (q.1.2.2.2.2.2.2.2.1 _ d e0 hi.2.2.1 e1 e2).2.1
  rw [z, ← u0, ← u1, ← u4]
theorem rp_num (q : kRp G h pl γ A f) {m m' : Int} (h0 : 0 ≤ m) (h1 : m < f 1) (h2 : 0 ≤ m') (h3 : m' < f 1) (e : oF f m 0 = oF f m' 0) : m = m' := by
  rcases Int.lt_trichotomy m m' with c | c | c
  · have := kWf_inc q.2.2 h0 c h3; omega
  · exact c
  · have := kWf_inc q.2.2 h2 c h1; omega
theorem rp_dd (q : kRp G h pl γ A f) {m d m' d' : Int} (hi : inP f m d) (hi' : inP f m' d') : gDt γ (oF f m 0) d = gDt γ (oF f m' 0) d' ↔ m = m' ∧ d = d' := by
  constructor
  · intro e
    obtain ⟨e0, e1, e2⟩ := rp_lv q hi
    obtain ⟨e0', e1', e2'⟩ := rp_lv q hi'
    have t := (q.1.2.2.2.2.2.2.2.1 _ d e0 hi.2.2.1 e1 e2).1.2
    have t' := (q.1.2.2.2.2.2.2.2.1 _ d' e0' hi'.2.2.1 e1' e2').1.2
    rw [e, t'] at t
    have g1 := kWf_m q.2.2 hi.1 hi.2.1
    have g2 := kWf_m q.2.2 hi'.1 hi'.2.1
    have u := congrArg Prod.snd t
    have u2 : (6 * oF f m' 0 + d').toNat = (6 * oF f m 0 + d).toNat := u
    have v0 := hi.2.2.1
    have v1 := hi'.2.2.1
    have e3 : oF f m 0 = oF f m' 0 := by omega
    exact ⟨rp_num q hi.1 hi.2.1 hi'.1 hi'.2.1 e3, by omega⟩
  · rintro ⟨rfl, rfl⟩; rfl
theorem rp_rr (q : kRp G h pl γ A f) {r r' : Int} (h0 : 0 ≤ r) (h1 : r < 4) (h2 : 0 ≤ r') (h3 : r' < 4) : gRm γ r = gRm γ r' ↔ r = r' := by
  constructor
  · intro e
    have t := (q.1.2.2.1 r h0 h1).2
    have t' := (q.1.2.2.1 r' h2 h3).2
    rw [e, t'] at t
    have u2 : r'.toNat = r.toNat := congrArg Prod.snd t
    omega
  · rintro rfl; rfl
theorem rp_at (q : kRp G h pl γ A f) {k : Int} (h0 : 0 ≤ k) (h1 : k < 28) {i : Nat} (hi : i < (aDx A k).length) : ∃ m d : Int, inP f m d ∧ onF f m d ∧ dF f m d 0 = k ∧ (aDx A k)[i]? = some (oF f m 0, d) := by
  obtain ⟨-, -, z⟩ := q.2.1.2.2.2.2.2 k h0 h1
  have g := List.getElem?_eq_getElem hi
  obtain ⟨m, u1, u2, u3, u4⟩ := (z _).mp (List.mem_of_getElem? g)
  exact ⟨m, _, u1, u3, u4, by rw [g, ← u2]⟩
theorem rp_in (q : kRp G h pl γ A f) {k : Int} (h0 : 0 ≤ k) (h1 : k < 28) {m d : Int} (hi : inP f m d) (ho : onF f m d) (hk : dF f m d 0 = k) : ∃ i : Nat, i < (aDx A k).length ∧ (aDx A k)[i]? = some (oF f m 0, d) := by
  obtain ⟨-, -, z⟩ := q.2.1.2.2.2.2.2 k h0 h1
  obtain ⟨i, hi2⟩ := List.getElem?_of_mem ((z (oF f m 0, d)).mpr ⟨m, hi, rfl, ho, hk⟩)
  exact ⟨i, (List.getElem?_eq_some_iff.mp hi2).1, hi2⟩
theorem rp_ix (q : kRp G h pl γ A f) {k : Int} (h0 : 0 ≤ k) (h1 : k < 28) {i j : Nat} {x : Int × Int} (hi : (aDx A k)[i]? = some x) (hj : (aDx A k)[j]? = some x) : i = j := by
  obtain ⟨z, -, -⟩ := q.2.1.2.2.2.2.2 k h0 h1
  have li := (List.getElem?_eq_some_iff.mp hi).1
  exact (List.getElem?_inj li z).mp (hi.trans hj.symm)
theorem rp_so (q : kRp G h pl γ A f) {k : Int} (h0 : 0 ≤ k) (h1 : k < 28) {i j : Nat} {m d m' d' : Int} (hm : inP f m d) (hm' : inP f m' d') (hi : (aDx A k)[i]? = some (oF f m 0, d)) (hj : (aDx A k)[j]? = some (oF f m' 0, d')) (hij : i < j) : dF f m d 1 ≤ dF f m' d' 1 := by
  obtain ⟨-, z, -⟩ := q.2.1.2.2.2.2.2 k h0 h1
  obtain ⟨l1, e1⟩ := List.getElem?_eq_some_iff.mp hi
  obtain ⟨l2, e2⟩ := List.getElem?_eq_some_iff.mp hj
  have g := List.pairwise_iff_getElem.mp z i j l1 l2 hij
  rw [e1, e2] at g
  obtain ⟨-, u1, -⟩ := q.2.1.2.2.2.2.1 m d hm
  obtain ⟨-, u2, -⟩ := q.2.1.2.2.2.2.1 m' d' hm'
  show dF f m d 1 ≤ dF f m' d' 1
  rw [← u1, ← u2]
  exact g
end KQ
